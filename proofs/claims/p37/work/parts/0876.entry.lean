/-! THE LAW: what holds at its entry -/
theorem vS_inj {N : Nat} {len : List Nat} {byt : List (List Int32)} {adK adV : Nat → Nat} {A : Nat → Prop} {U : State} {H : Heap} (h : ∀ i, i < N → va_OF "java/lang/String" "value" "[B" (.ref (adV i)) (adK i) A U H ∧ va_T .byte (adV i) (len.getD i 0) (fun j => .int ((byt.getD i []).getD j 0)) A U H) (hN : ∀ i, i < N → len.getD i 0 < 2 ^ 31) (hinj : ∀ i, i < N → ∀ j, j < N → i ≠ j → len.getD i 0 ≠ len.getD j 0 ∨ ∃ k, k < len.getD i 0 ∧ (byt.getD i []).getD k 0 ≠ (byt.getD j []).getD k 0) : ∀ i j : Nat, i < N → j < N → adK i = adK j → i = j := by
  intro i j hi hj e
  by_cases hij : i = j
  · exact hij
  exfalso
  obtain ⟨⟨cf, k, x, fd, cell, f1, f2, f3, f4, f5, f6⟩, cl, t1, t2, t3, t4, t5, t6, t7⟩ := h i hi
  obtain ⟨⟨cf', k', x', fd', cell', f1', f2', f3', f4', f5', f6'⟩, cl', t1', t2', t3', t4', t5', t6', t7'⟩ := h j hj
  rw [f1] at f1'
  have e1 := Option.some.inj f1'
  have e2 : fd = fd' := congrArg (fun q => q.2.2.2) e1
  rw [e, f3'] at f3
  have e3 := Option.some.inj f3
  rw [e2, ← e3, f5'] at f5
  have e4 : adV j = adV i := by
    have := Option.some.inj f5
    injection this
  rw [← e4, t1'] at t1
  have e5 := Option.some.inj t1
  rw [← e5, t5'] at t5
  have e6 : len.getD i 0 = len.getD j 0 := nI_inj (hN i hi) (hN j hj) t5.symm
  rcases hinj i hi j hj hij with q | ⟨y, hy, q⟩
  · exact q e6
  · have a1 := t6 y hy
    have a2 := t6' y (by rw [← e6]; exact hy)
    rw [← e5, a2] at a1
    have a3 := Option.some.inj a1
    injection a3 with a4
    exact q a4.symm
def tmQ (i : Nat) : Term := Term.string "SentenceRules" (textQ.getD i (0, "")).1
def tmV (i : Nat) : Term := Term.field (tmQ i) "java/lang/String" "value" "[B"
theorem q_in : ∀ i, i < 27 → ∀ j, j < 27 → i ≠ j → textL.getD i 0 ≠ textL.getD j 0 ∨ ∃ k, k < textL.getD i 0 ∧ (textB.getD i []).getD k 0 ≠ (textB.getD j []).getD k 0 := by
  have h : ∀ i, i < 27 → ∀ j, j < 27 → i ≠ j → (decide (textL.getD i 0 ≠ textL.getD j 0) || exN (fun k => decide ((textB.getD i []).getD k 0 ≠ (textB.getD j []).getD k 0)) (textL.getD i 0)) = true := by decide +kernel
  intro i hi j hj hij
  have h1 := h i hi j hj hij
  rw [Bool.or_eq_true, decide_eq_true_eq, exN_iff] at h1
  rcases h1 with h1 | ⟨k, hk, h1⟩
  · exact Or.inl h1
  · exact Or.inr ⟨k, hk, of_decide_eq_true h1⟩
theorem q_ln : ∀ i, i < 27 → textL.getD i 0 < 2 ^ 31 := by decide +kernel
def tmD : Term := Term.static "SentenceRules" "DAYS_OF_MONTHS" "[I"
def tmO : Term := Term.static "java/lang/Integer" "DigitOnes" "[B"
def tmT : Term := Term.static "java/lang/Integer" "DigitTens" "[B"
def tmC : Term := Term.static "java/lang/String" "COMPACT_STRINGS" "Z"
def tmF : Term := Term.static "jdk/internal/util/Preconditions" "SIOOBE_FORMATTER" "Ljava/util/function/BiFunction;"
def FL : List Cond := flatC (Jvm.Cond.and given_1 narrow_1)
def wEl (tm : Term) (g : Nat → Int32) (j : Nat) : Cond := Cond.eq (.elem tm (.int (Int32.ofNat j))) (.int (g j))
def wStr (i : Nat) : List Cond := [Cond.exactly (tmQ i) "java/lang/String", Cond.eq (.field (tmQ i) "java/lang/String" "coder" "B") (.int 0), Cond.arrayOf (tmV i) .byte, Cond.eq (.length (tmV i)) (.int (Int32.ofNat (textL.getD i 0)))] ++ (List.range (textL.getD i 0)).map (wEl (tmV i) (fun j => (textB.getD i []).getD j 0))
set_option maxRecDepth 100000 in
theorem fl_o : (FL.drop 27).take 100 = (List.range 100).map (wEl tmO onesF) := rfl
set_option maxRecDepth 100000 in
theorem fl_t : (FL.drop 130).take 100 = (List.range 100).map (wEl tmT tensF) := rfl
set_option maxRecDepth 100000 in
theorem fl_d : (FL.drop 8).take 12 = (List.range 12).map (wEl tmD domF) := rfl
set_option maxRecDepth 100000 in
theorem fl_s : (FL.drop 244).take 220 = (List.range 27).flatMap wStr := rfl
theorem fl_sub {a n : Nat} {w : Cond} (h : w ∈ (FL.drop a).take n) : w ∈ FL := List.mem_of_mem_drop (List.mem_of_mem_take h)
theorem q_el {tm : Term} {g : Nat → Int32} {a n : Nat} (e : (FL.drop a).take n = (List.range n).map (wEl tm g)) {j : Nat} (hj : j < n) : wEl tm g j ∈ FL := fl_sub (a := a) (n := n) (by rw [e]; exact List.mem_map.mpr ⟨j, List.mem_range.mpr hj, rfl⟩)
theorem q_s {i : Nat} (hi : i < 27) {w : Cond} (h : w ∈ wStr i) : w ∈ FL := fl_sub (a := 244) (n := 220) (by rw [fl_s]; exact List.mem_flatMap.mpr ⟨i, List.mem_range.mpr hi, h⟩)
set_option maxRecDepth 100000 in
theorem q_1 : (Cond.arrayOf tmD .int ∈ FL ∧ Cond.eq (.length tmD) (.int (Int32.ofNat 12)) ∈ FL) ∧ (Cond.arrayOf tmO .byte ∈ FL ∧ Cond.eq (.length tmO) (.int (Int32.ofNat 100)) ∈ FL) ∧ (Cond.arrayOf tmT .byte ∈ FL ∧ Cond.eq (.length tmT) (.int (Int32.ofNat 100)) ∈ FL) ∧ Cond.eq tmC (.int 1) ∈ FL ∧ Cond.isRef tmF ∈ FL :=
  ⟨⟨List.mem_of_getElem? (i := 6) rfl, List.mem_of_getElem? (i := 7) rfl⟩, ⟨List.mem_of_getElem? (i := 25) rfl, List.mem_of_getElem? (i := 26) rfl⟩, ⟨List.mem_of_getElem? (i := 128) rfl, List.mem_of_getElem? (i := 129) rfl⟩, List.mem_of_getElem? (i := 4) rfl, List.mem_of_getElem? (i := 20) rfl⟩
theorem ent_T {args : Array Value} {s : State} {A : Nat → Prop} (hs : ∀ w ∈ FL, w.before args s = true) (hA : ∀ a : Nat, a < s.heap.size → ¬ A a) {tm : Term} {ty : FieldType} {n a : Nat} {g : Nat → Int32} (hn : n < 2 ^ 31) (h1 : Cond.arrayOf tm ty ∈ FL) (h2 : Cond.eq (.length tm) (.int (Int32.ofNat n)) ∈ FL) (e : (FL.drop a).take n = (List.range n).map (wEl tm g)) : ∃ t : Nat, tm.eval args s none [] s = some (.ref t) ∧ va_T ty t n (fun j => .int (g j)) A s s.heap :=
  va_Tof hn (hs _ h1) (va_eqt (hs _ h2)) (fun j hj => va_eqt (hs _ (q_el e hj))) hA
theorem ent_S {args : Array Value} {s : State} {A : Nat → Prop} (hs : ∀ w ∈ FL, w.before args s = true) (hA : ∀ a : Nat, a < s.heap.size → ¬ A a) : ∃ adK adV : Nat → Nat, vk_S 27 textL textB adK adV A s s.heap ∧ ∀ i : Nat, i < 27 → (tmQ i).eval args s none [] s = some (.ref (adK i)) := by
  have h0 : ∀ i : Nat, ∃ q : Nat × Nat, i < 27 → (tmQ i).eval args s none [] s = some (.ref q.1) ∧ va_O "java/lang/String" q.1 A s s.heap ∧ va_OF "java/lang/String" "coder" "B" (.int 0) q.1 A s s.heap ∧ va_OF "java/lang/String" "value" "[B" (.ref q.2) q.1 A s s.heap ∧ va_T .byte q.2 (textL.getD i 0) (fun j => .int ((textB.getD i []).getD j 0)) A s s.heap := by
    intro i
    by_cases hi : i < 27
    · have hw := fun w (h : w ∈ wStr i) => hs w (q_s hi h)
      obtain ⟨a, c, cA, kA, q1, q2, q3, q4, q5, q6, -⟩ := Cond.exactly_spec (args := args) (first := s) (o := none) (s := s) (idx := []) (t := tmQ i) (cls := "java/lang/String") (hw _ (List.mem_append_left _ (List.mem_of_getElem? (i := 0) rfl)))
      obtain ⟨t, ht, hT⟩ := va_Tof (f := fun j => .int ((textB.getD i []).getD j 0)) (A := A) (q_ln i hi) (hw _ (List.mem_append_left _ (List.mem_of_getElem? (i := 2) rfl))) (va_eqt (hw _ (List.mem_append_left _ (List.mem_of_getElem? (i := 3) rfl)))) (fun j hj => va_eqt (hw _ (List.mem_append_right _ (List.mem_map.mpr ⟨j, List.mem_range.mpr hj, rfl⟩)))) hA
      exact ⟨(a, t), fun _ => ⟨q1, ⟨cA, q3, q5, by rw [q6]; exact q2, hA a (Array.getElem?_eq_some_iff.mp q3).1⟩, vk_OFof q1 (va_eqt (hw _ (List.mem_append_left _ (List.mem_of_getElem? (i := 1) rfl)))) hA, vk_OFof q1 ht hA, hT⟩⟩
    · exact ⟨(0, 0), fun h => absurd h hi⟩
  obtain ⟨ad, had⟩ := Classical.axiomOfChoice h0
  exact ⟨fun i => (ad i).1, fun i => (ad i).2, ⟨fun i hi => (had i hi).2, vS_inj (fun i hi => (had i hi).2.2.2) q_ln q_in⟩, fun i hi => (had i hi).1⟩
set_option maxRecDepth 100000 in
theorem nest_all {args : Array Value} {s : State} (ht : ∀ w ∈ tables_1, w.before args s = true) : ∀ q ∈ nestQ, (Cond.methodLinkNest q.1 q.2.1 q.2.2.1 q.2.2.2).before args s = true :=
  (List.forall_mem_cons.mpr ⟨ht _ (List.mem_of_getElem? (i := 36) rfl), (List.forall_mem_cons.mpr ⟨ht _ (List.mem_of_getElem? (i := 77) rfl), (List.forall_mem_cons.mpr ⟨ht _ (List.mem_of_getElem? (i := 83) rfl), (List.forall_mem_cons.mpr ⟨ht _ (List.mem_of_getElem? (i := 339) rfl), (List.forall_mem_cons.mpr ⟨ht _ (List.mem_of_getElem? (i := 340) rfl), (List.forall_mem_cons.mpr ⟨ht _ (List.mem_of_getElem? (i := 349) rfl), (List.forall_mem_cons.mpr ⟨ht _ (List.mem_of_getElem? (i := 380) rfl), (List.forall_mem_cons.mpr ⟨ht _ (List.mem_of_getElem? (i := 742) rfl), (List.forall_mem_cons.mpr ⟨ht _ (List.mem_of_getElem? (i := 206) rfl), (List.forall_mem_cons.mpr ⟨ht _ (List.mem_of_getElem? (i := 930) rfl), (List.forall_mem_cons.mpr ⟨ht _ (List.mem_of_getElem? (i := 934) rfl), (fun w h => absurd h List.not_mem_nil)⟩)⟩)⟩)⟩)⟩)⟩)⟩)⟩)⟩)⟩)⟩)
set_option maxRecDepth 100000 in
theorem text_all {args : Array Value} {s : State} (ht : ∀ w ∈ tables_1, w.before args s = true) : ∀ i, i < 27 → (Cond.stringRef "SentenceRules" (textQ.getD i (0, "")).1 (textQ.getD i (0, "")).2).before args s = true := by
  have key : ∀ q ∈ textQ, (Cond.stringRef "SentenceRules" q.1 q.2).before args s = true :=
    (List.forall_mem_cons.mpr ⟨ht _ (List.mem_of_getElem? (i := 567) rfl), (List.forall_mem_cons.mpr ⟨ht _ (List.mem_of_getElem? (i := 568) rfl), (List.forall_mem_cons.mpr ⟨ht _ (List.mem_of_getElem? (i := 569) rfl), (List.forall_mem_cons.mpr ⟨ht _ (List.mem_of_getElem? (i := 570) rfl), (List.forall_mem_cons.mpr ⟨ht _ (List.mem_of_getElem? (i := 571) rfl), (List.forall_mem_cons.mpr ⟨ht _ (List.mem_of_getElem? (i := 572) rfl), (List.forall_mem_cons.mpr ⟨ht _ (List.mem_of_getElem? (i := 573) rfl), (List.forall_mem_cons.mpr ⟨ht _ (List.mem_of_getElem? (i := 574) rfl), (List.forall_mem_cons.mpr ⟨ht _ (List.mem_of_getElem? (i := 575) rfl), (List.forall_mem_cons.mpr ⟨ht _ (List.mem_of_getElem? (i := 576) rfl), (List.forall_mem_cons.mpr ⟨ht _ (List.mem_of_getElem? (i := 577) rfl), (List.forall_mem_cons.mpr ⟨ht _ (List.mem_of_getElem? (i := 578) rfl), (List.forall_mem_cons.mpr ⟨ht _ (List.mem_of_getElem? (i := 579) rfl), (List.forall_mem_cons.mpr ⟨ht _ (List.mem_of_getElem? (i := 580) rfl), (List.forall_mem_cons.mpr ⟨ht _ (List.mem_of_getElem? (i := 581) rfl), (List.forall_mem_cons.mpr ⟨ht _ (List.mem_of_getElem? (i := 582) rfl), (List.forall_mem_cons.mpr ⟨ht _ (List.mem_of_getElem? (i := 583) rfl), (List.forall_mem_cons.mpr ⟨ht _ (List.mem_of_getElem? (i := 584) rfl), (List.forall_mem_cons.mpr ⟨ht _ (List.mem_of_getElem? (i := 585) rfl), (List.forall_mem_cons.mpr ⟨ht _ (List.mem_of_getElem? (i := 586) rfl), (List.forall_mem_cons.mpr ⟨ht _ (List.mem_of_getElem? (i := 587) rfl), (List.forall_mem_cons.mpr ⟨ht _ (List.mem_of_getElem? (i := 588) rfl), (List.forall_mem_cons.mpr ⟨ht _ (List.mem_of_getElem? (i := 589) rfl), (List.forall_mem_cons.mpr ⟨ht _ (List.mem_of_getElem? (i := 590) rfl), (List.forall_mem_cons.mpr ⟨ht _ (List.mem_of_getElem? (i := 591) rfl), (List.forall_mem_cons.mpr ⟨ht _ (List.mem_of_getElem? (i := 592) rfl), (List.forall_mem_cons.mpr ⟨ht _ (List.mem_of_getElem? (i := 593) rfl), (fun w h => absurd h List.not_mem_nil)⟩)⟩)⟩)⟩)⟩)⟩)⟩)⟩)⟩)⟩)⟩)⟩)⟩)⟩)⟩)⟩)⟩)⟩)⟩)⟩)⟩)⟩)⟩)⟩)⟩)⟩)⟩)
  intro i hi
  have h1 : i < textQ.length := hi
  rw [List.getD_eq_getElem?_getD, List.getElem?_eq_getElem h1, Option.getD_some]
  exact key _ (List.getElem_mem h1)
/-- addresses of the constants -/
def gaF (t0 t1 t2 : Nat) (adK adV : Nat → Nat) (n : Nat) : Nat := if n = 0 then t0 else if n = 1 then t1 else if n = 2 then t2 else if n < 50 then adK (n - 10) else adV (n - 50)
set_option maxRecDepth 100000 in
theorem ent_mS {args : Array Value} {s : State} {A : Nat → Prop} (hs : ∀ w ∈ FL, w.before args s = true) (ht : ∀ w ∈ tables_1, w.before args s = true) (hA : ∀ a : Nat, a < s.heap.size → ¬ A a) : ∃ ga : Nat → Nat, ∀ (D : va_G) (gc : Nat → ClassId), mS (D, gc, ga) A s s.heap := by
  obtain ⟨⟨d1, d2⟩, ⟨o1, o2⟩, ⟨t1, t2⟩, c1, c2⟩ := q_1
  obtain ⟨a0, e0, hT0⟩ := ent_T hs hA (by decide) d1 d2 fl_d
  obtain ⟨a1, e1, hT1⟩ := ent_T hs hA (by decide) o1 o2 fl_o
  obtain ⟨a2, e2, hT2⟩ := ent_T hs hA (by decide) t1 t2 fl_t
  obtain ⟨adK, adV, hS, eS⟩ := ent_S hs hA
  have kK : ∀ i, i < 27 → gaF a0 a1 a2 adK adV (10 + i) = adK i := fun i hi => by
    unfold gaF; rw [if_neg (by omega), if_neg (by omega), if_neg (by omega), if_pos (by omega), Nat.add_sub_cancel_left]
  have kV : ∀ i, i < 27 → gaF a0 a1 a2 adK adV (50 + i) = adV i := fun i hi => by
    unfold gaF; rw [if_neg (by omega), if_neg (by omega), if_neg (by omega), if_neg (by omega), Nat.add_sub_cancel_left]
  have hS2 : vk_S 27 textL textB (fun i => gaF a0 a1 a2 adK adV (10 + i)) (fun i => gaF a0 a1 a2 adK adV (50 + i)) A s s.heap := by
    refine ⟨fun i hi => ?_, fun i j hi hj e => ?_⟩
    · show va_O _ (gaF a0 a1 a2 adK adV (10 + i)) _ _ _ ∧ va_OF _ _ _ _ (gaF a0 a1 a2 adK adV (10 + i)) _ _ _ ∧ va_OF _ _ _ (.ref (gaF a0 a1 a2 adK adV (50 + i))) (gaF a0 a1 a2 adK adV (10 + i)) _ _ _ ∧ va_T _ (gaF a0 a1 a2 adK adV (50 + i)) _ _ _ _ _
      rw [kK i hi, kV i hi]; exact hS.1 i hi
    · have e : gaF a0 a1 a2 adK adV (10 + i) = gaF a0 a1 a2 adK adV (10 + j) := e
      rw [kK i hi, kK j hj] at e
      exact hS.2 i j hi hj e
  refine ⟨gaF a0 a1 a2 adK adV, fun D gc => ⟨⟨fun q hq => ?_, fun i hi => ?_, va_AO.of (ht _ (List.mem_of_getElem? (i := 33) rfl)), va_AO.of (ht _ (List.mem_of_getElem? (i := 74) rfl)), va_Nw.of rfl (ht _ (List.mem_of_getElem? (i := 483) rfl))⟩, ⟨⟨va_Zof (ht _ (List.mem_of_getElem? (i := 313) rfl)) (ht _ (List.mem_of_getElem? (i := 1) rfl)) e0 hA, hT0⟩, va_Zof (ht _ (List.mem_of_getElem? (i := 143) rfl)) (ht _ (List.mem_of_getElem? (i := 8) rfl)) (va_eqt (hs _ c1)) hA, ⟨va_Zof (ht _ (List.mem_of_getElem? (i := 655) rfl)) (ht _ (List.mem_of_getElem? (i := 17) rfl)) e1 hA, hT1⟩, ⟨va_Zof (ht _ (List.mem_of_getElem? (i := 657) rfl)) (ht _ (List.mem_of_getElem? (i := 17) rfl)) e2 hA, hT2⟩, hS2, va_Zqof (ht _ (List.mem_of_getElem? (i := 535) rfl)) (ht _ (List.mem_of_getElem? (i := 16) rfl)) (hs _ c2) hA⟩⟩⟩
  · exact va_Nw.of rfl (nest_all ht q hq)
  · have e : (tmQ i).eval args s none [] s = some (.ref (gaF a0 a1 a2 adK adV (10 + i))) := by rw [kK i hi]; exact eS i hi
    exact vk_R.of (text_all ht i hi) e
