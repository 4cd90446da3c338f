/-! THE REFERENCE: comparing, contradictions in a row, answers with a value, borders -/
theorem RI.cW {G : mG} {f : mE} {o : Nat} {a : Nat → Nat} {S P lo hi ou : Nat → Int32} {rc isr wd us ab gi wr wo w2 : Int32} (h : RI G f o a S P lo hi ou rc isr wd us ab gi wr wo) (e : wo = w2) : RI G f o a S P lo hi ou rc isr wd us ab gi wr w2 := e ▸ h
theorem RI.cS {G : mG} {f : mE} {o : Nat} {a : Nat → Nat} {S T P lo hi ou : Nat → Int32} {rc isr wd us ab gi wr wo : Int32} (h : RI G f o a S P lo hi ou rc isr wd us ab gi wr wo) (e : S = T) : RI G f o a T P lo hi ou rc isr wd us ab gi wr wo := e ▸ h
def cmpS (S : Nat → Int32) (j i : Nat) : Int32 := if insB S j i = true then (if insB S i j = true then 0 else 1) else if insB S i j = true then 2 else if allN (meeQ S j i) 7 = true then 3 else 4
theorem cmp_no1 {S : Nat → Int32} {k x : Int32} {g : Nat → Nat → Int32} (h : inB k 0 (S 56 - 1) = false) : some (Value.int (-100001)) = some (Value.int (tolI S k (fun j => tolI S x (fun i => g j i)))) := by rw [← tol_no h]
theorem cmp_no2 {S : Nat → Int32} {n j : Nat} {x : Int32} {g : Nat → Nat → Int32} (hn : S 56 = nI n) (hn16 : n ≤ 16) (hj : j < n) (h : inB x 0 (S 56 - 1) = false) : some (Value.int (-100001)) = some (Value.int (tolI S (nI j) (fun j => tolI S x (fun i => g j i)))) :=
  congrArg (fun z => some (Value.int z)) (tol_at hn hn16 hj (tol_no h))
theorem cmp_at {S : Nat → Int32} {n j i : Nat} {v : Int32} {g : Nat → Nat → Int32} (hn : S 56 = nI n) (hn16 : n ≤ 16) (hj : j < n) (hi : i < n) (h : v = g j i) : some (Value.int v) = some (Value.int (tolI S (nI j) (fun j => tolI S (nI i) (fun i => g j i)))) :=
  congrArg (fun z => some (Value.int z)) (tol_at hn hn16 hj (tol_at hn hn16 hi h))
/-- along a row: the answer, or how many were met -/
def ctdI (D : Nat → Nat → Bool) (x : Int32) (a : Nat) : Nat → Nat → Nat → Option Int32 × Nat
  | 0, _, c => (none, c)
  | m + 1, b, c => if D a b = true then (if nI c = x then (some (nI (100 * a + b)), c) else ctdI D x a m (b + 1) (c + 1)) else ctdI D x a m (b + 1) c
def ctdO (D : Nat → Nat → Bool) (x : Int32) (n : Nat) : Nat → Nat → Nat → Int32
  | 0, _, _ => -100005
  | m + 1, a, c => match ctdI D x a (n - (a + 1)) (a + 1) c with
    | (some r, _) => r
    | (none, c2) => ctdO D x n m (a + 1) c2
def ctdX (S : Nat → Int32) (n : Nat) (x : Int32) : Int32 := if 0 ≤ x then ctdO (ctdB S n) x n n 0 0 else -100002
theorem ctdX_bad {S : Nat → Int32} {n : Nat} {x : Int32} (h : ¬ 0 ≤ x) : some (Value.int (-100002)) = some (Value.int (ctdX S n x)) := by rw [ctdX, if_neg h]
theorem ctdX_none {S : Nat → Int32} {n : Nat} {x : Int32} (h : 0 ≤ x) (e : ctdO (ctdB S n) x n n 0 0 = -100005) : some (Value.int (-100005)) = some (Value.int (ctdX S n x)) := by rw [ctdX, if_pos h, e]
theorem ctdX_hit {S : Nat → Int32} {n a c c2 : Nat} {x r : Int32} (h : 0 ≤ x) (ha : a < n) (hf : ctdO (ctdB S n) x n (n - a) a c = ctdO (ctdB S n) x n n 0 0) (e : ctdI (ctdB S n) x a (n - (a + 1)) (a + 1) c = (some r, c2)) : some (Value.int r) = some (Value.int (ctdX S n x)) := by
  rw [ctdX, if_pos h, ← hf, show n - a = (n - (a + 1)) + 1 by omega, ctdO, e]
theorem ctdO_none {D : Nat → Nat → Bool} {x : Int32} {n a c c2 : Nat} (ha : a < n) (e : ctdI D x a (n - (a + 1)) (a + 1) c = (none, c2)) : ctdO D x n (n - a) a c = ctdO D x n (n - (a + 1)) (a + 1) c2 := by
  rw [show n - a = (n - (a + 1)) + 1 by omega, ctdO, e]
theorem ctdI_end {D : Nat → Nat → Bool} {x : Int32} {n a b c : Nat} (h : n ≤ b) : ctdI D x a (n - b) b c = (none, c) := by
  rw [show n - b = 0 by omega, ctdI]
theorem ctdI_no {D : Nat → Nat → Bool} {x : Int32} {n a b c : Nat} (h : b < n) (hd : D a b = false) : ctdI D x a (n - b) b c = ctdI D x a (n - (b + 1)) (b + 1) c := by
  rw [show n - b = (n - (b + 1)) + 1 by omega, ctdI, if_neg (by rw [hd]; decide)]
theorem ctdI_go {D : Nat → Nat → Bool} {x : Int32} {n a b c : Nat} (h : b < n) (hd : D a b = true) (hc : ¬ nI c = x) : ctdI D x a (n - b) b c = ctdI D x a (n - (b + 1)) (b + 1) (c + 1) := by
  rw [show n - b = (n - (b + 1)) + 1 by omega, ctdI, if_pos hd, if_neg hc]
theorem ctdI_hit {D : Nat → Nat → Bool} {x : Int32} {n a b c : Nat} (h : b < n) (hd : D a b = true) (hc : nI c = x) : ctdI D x a (n - b) b c = (some (nI (100 * a + b)), c) := by
  rw [show n - b = (n - (b + 1)) + 1 by omega, ctdI, if_pos hd, if_pos hc]
theorem ctd_300 {n : Nat} (h : n ≤ 16) : 0 + (n - 0) * n ≤ 300 := by
  have := Nat.mul_le_mul h h
  simp; omega
theorem ctd_in {n p cn : Nat} (h : p < n) (hc : cn + (n - p) * n ≤ 300) : cn + (n - (p + 1)) + (n - (p + 1)) * n ≤ 300 := by
  have : (n - p) * n = (n - (p + 1)) * n + n := by
    rw [show n - p = (n - (p + 1)) + 1 by omega, Nat.add_mul, Nat.one_mul]
  omega
theorem upd_back (S : Nat → Int32) (k : Nat) (x : Int32) : upd (upd S k x) k (S k) = S := by
  funext j
  unfold upd
  by_cases h : j = k
  · subst h; simp
  · simp [h]
def a6_answerIf (S : Nat → Int32) (wo : Int32) (n : Nat) (r k x : Int32) : Int32 := if inB r 0 3 = true ∧ valB k x = true then ansI (upd S k.toNatClampNeg x) wo n r else -100002
theorem val_nat {k x : Int32} (h : valB k x = true) : ∃ i, i ≤ 6 ∧ k = nI i := by
  rw [valB, Bool.and_eq_true] at h
  exact inB_nat (by decide) h.1
/-- a step of the least border above x -/
def borS (x b z : Int32) : Int32 := if z ≤ x then b else if b = -100005 then z else if b ≤ z then b else z
theorem borS_1 {x b z : Int32} (h : z ≤ x) : borS x b z = b := if_pos h
theorem borS_2 {x b z : Int32} (h : ¬ z ≤ x) (h2 : b = -100005) : borS x b z = z := by rw [borS, if_neg h, if_pos h2]
theorem borS_3 {x b z : Int32} (h : ¬ z ≤ x) (h2 : ¬ b = -100005) (h3 : b ≤ z) : borS x b z = b := by rw [borS, if_neg h, if_neg h2, if_pos h3]
theorem borS_4 {x b z : Int32} (h : ¬ z ≤ x) (h2 : ¬ b = -100005) (h3 : ¬ b ≤ z) : borS x b z = z := by rw [borS, if_neg h, if_neg h2, if_neg h3]
def borL (S : Nat → Int32) (k : Nat) (x : Int32) : Nat → Int32
  | 0 => -100005
  | i + 1 => borS x (borS x (borL S k x i) (S (57 + 66 * i + (52 + k)))) (S (57 + 66 * i + (59 + k)) + nI 1)
theorem borL_s (S : Nat → Int32) (k : Nat) (x : Int32) (i : Nat) : borL S k x (i + 1) = borS x (borS x (borL S k x i) (S (57 + 66 * i + (52 + k)))) (S (57 + 66 * i + (59 + k)) + nI 1) := rfl
def borI (S : Nat → Int32) (n k : Nat) (x : Int32) : Int32 := if borL S k x n = -100005 ∨ greatestF (nI k) < borL S k x n then -100005 else borL S k x n
def matI (S : Nat → Int32) (n j : Nat) : Int32 := if ¬ S (57 + 66 * j + 49) < nI 10 then 0 else if ansI S (-100005) n (S (57 + 66 * j + 49)) = ansI S (nI j) n (S (57 + 66 * j + 49)) then 0 else 1
set_option maxHeartbeats 4000000 in
set_option maxRecDepth 100000 in
theorem c6_compare (l : Launch) (G : mG) {f : mE} {o : Nat} {a : Nat → Nat} {S P lo hi ou : Nat → Int32} {rc isr wd us ab gi wr wo : Int32} (hI : RI G f o a S P lo hi ou rc isr wd us ab gi wr wo) {n : Nat} (hn : S 56 = nI n) (hn16 : n ≤ 16) (k x : Int32) : mC l G yX6_compare wsX6_compare ({ frames := 2, cells := 0, slots := 0, locals := 46 } : Room) f [.ref o, .int k, .int x] (fun v f1 => v = some (.int (tolI S k (fun j => tolI S x (fun i => cmpS S j i)))) ∧ ∃ lo1 hi1, RI G f1 o a S P lo1 hi1 ou rc isr wd us ab gi wr wo) 0 0 := by
  refine mC.of (cc := cX6_compare) (maxL := 5) (ret := (some .int)) (by decide) rfl (Nat.le_of_ble_eq_true rfl) ?_
  intro pgm env s mt args below meth c A ls hx hb hml hr hlocks hown hname hts hK hE hA hM hl
  have hl : lv_has ls 5 [(0, .ref o), (1, .int k), (2, .int x)] := hl
  refine lv_aload_n hx hb dX6_compare_0 rfl (lv_at hl 0 rfl) ?_
  refine lv_iload_n hx hb dX6_compare_1 rfl (lv_at hl 1 rfl) ?_
  refine mm_V (As := [.int k]) (rest := []) ⟨hx, hb, hml, hown, hts⟩ (c6_isSentence l G hI k) (cwV 1 hts gX6_compare_X6_isSentence rfl rfl rfl (by decide +kernel) ⟨Nat.le_of_ble_eq_true rfl, Nat.le_of_ble_eq_true rfl⟩) hK hE hA hM (mm_recv hK hM (hI.obj) (q := (RX6, TX6, 14)) rfl) rfl hl.1 rfl (Nat.le_of_ble_eq_true rfl) dX6_compare_2 ⟨Nat.le_of_ble_eq_true rfl, Nat.le_of_ble_eq_true rfl⟩ (fun v f1 Hp lcs hp hM => ?_)
  obtain ⟨rfl, hf⟩ := hp; subst hf
  refine lvb_eq (tgt := 16) hx hb dX6_compare_5 (by decide) (fun cz1 => ?_) (fun cz1 => ?_)
  · refine lv_ldc (v := (-100001)) hx hb hown (hts (.constant RX6 145 (-100001)) (List.mem_of_getElem? (i := 1) rfl)) dX6_compare_16 ?_
    exact mm_iret hx hb hlocks hr (Nat.le_of_ble_eq_true rfl) (Nat.le_of_ble_eq_true rfl) hM (⟨cmp_no1 cz1, _, _, hI⟩) dX6_compare_18
  obtain ⟨j, jN, rfl⟩ := isS_nat hn hn16 cz1
  refine lv_aload_n hx hb dX6_compare_8 rfl (lv_at hl 0 rfl) ?_
  refine lv_iload_n hx hb dX6_compare_9 rfl (lv_at hl 2 rfl) ?_
  refine mm_V (As := [.int x]) (rest := []) ⟨hx, hb, hml, hown, hts⟩ (c6_isSentence l G hI x) (cwV 1 hts gX6_compare_X6_isSentence rfl rfl rfl (by decide +kernel) ⟨Nat.le_of_ble_eq_true rfl, Nat.le_of_ble_eq_true rfl⟩) hK hE hA hM (mm_recv hK hM (hI.obj) (q := (RX6, TX6, 14)) rfl) rfl hl.1 rfl (Nat.le_of_ble_eq_true rfl) dX6_compare_10 ⟨Nat.le_of_ble_eq_true rfl, Nat.le_of_ble_eq_true rfl⟩ (fun v f1 Hp lcs hp hM => ?_)
  obtain ⟨rfl, hf⟩ := hp; subst hf
  refine lvb_ne (tgt := 19) hx hb dX6_compare_13 (by decide) (fun cz2 => ?_) (fun cz2 => ?_)
  · obtain ⟨i, iN, rfl⟩ := isS_nat hn hn16 cz2
    refine lv_aload_n hx hb dX6_compare_19 rfl (lv_at hl 0 rfl) ?_
    refine lv_iload_n hx hb dX6_compare_20 rfl (lv_at hl 1 rfl) ?_
    refine lv_iload_n hx hb dX6_compare_21 rfl (lv_at hl 2 rfl) ?_
    refine mm_V (As := [.int (nI j), .int (nI i)]) (rest := []) ⟨hx, hb, hml, hown, hts⟩ (c6_isInside l G hI j i (by omega) (by omega)) (cwV 2 hts gX6_compare_X6_isInside rfl rfl rfl (by decide +kernel) ⟨Nat.le_of_ble_eq_true rfl, Nat.le_of_ble_eq_true rfl⟩) hK hE hA hM (mm_recv hK hM (hI.obj) (q := (RX6, TX6, 14)) rfl) rfl hl.1 rfl (Nat.le_of_ble_eq_true rfl) dX6_compare_22 ⟨Nat.le_of_ble_eq_true rfl, Nat.le_of_ble_eq_true rfl⟩ (fun v f1 Hp lcs hp hM => ?_)
    obtain ⟨rfl, hf⟩ := hp; subst hf
    refine lv_istore_n (lv' := [(3, .int (bI (insB S j i))), (0, .ref o), (1, .int (nI j)), (2, .int (nI i))]) hx hb dX6_compare_25 rfl hl (by decide) rfl (fun ls hl => ?_)
    refine lv_aload_n hx hb dX6_compare_26 rfl (lv_at hl 1 rfl) ?_
    refine lv_iload_n hx hb dX6_compare_27 rfl (lv_at hl 3 rfl) ?_
    refine lv_iload_n hx hb dX6_compare_28 rfl (lv_at hl 2 rfl) ?_
    refine mm_V (As := [.int (nI i), .int (nI j)]) (rest := []) ⟨hx, hb, hml, hown, hts⟩ (c6_isInside l G hI i j (by omega) (by omega)) (cwV 2 hts gX6_compare_X6_isInside rfl rfl rfl (by decide +kernel) ⟨Nat.le_of_ble_eq_true rfl, Nat.le_of_ble_eq_true rfl⟩) hK hE hA hM (mm_recv hK hM (hI.obj) (q := (RX6, TX6, 14)) rfl) rfl hl.1 rfl (Nat.le_of_ble_eq_true rfl) dX6_compare_29 ⟨Nat.le_of_ble_eq_true rfl, Nat.le_of_ble_eq_true rfl⟩ (fun v f1 Hp lcs hp hM => ?_)
    obtain ⟨rfl, hf⟩ := hp; subst hf
    refine lv_istore (lv' := [(4, .int (bI (insB S i j))), (3, .int (bI (insB S j i))), (0, .ref o), (1, .int (nI j)), (2, .int (nI i))]) hx hb dX6_compare_32 hl (by decide) rfl (fun ls hl => ?_)
    refine lv_iload_n hx hb dX6_compare_34 rfl (lv_at hl 1 rfl) ?_
    refine lvb_eq (tgt := 47) hx hb dX6_compare_35 (by decide) (fun cz3 => ?_) (fun cz3 => ?_)
    · refine lv_iload_n hx hb dX6_compare_47 rfl (lv_at hl 1 rfl) ?_
      refine lvb_eq (tgt := 55) hx hb dX6_compare_48 (by decide) (fun _ => ?_) (fun hq9 => absurd hq9 (by rw [cz3]; decide))
      refine lv_iload hx hb dX6_compare_55 (lv_at hl 0 rfl) ?_
      refine lvb_eq (tgt := 64) hx hb dX6_compare_57 (by decide) (fun cz4 => ?_) (fun cz4 => ?_)
      · refine lv_aload_n hx hb dX6_compare_64 rfl (lv_at hl 2 rfl) ?_
        refine lv_iload_n hx hb dX6_compare_65 rfl (lv_at hl 3 rfl) ?_
        refine lv_iload_n hx hb dX6_compare_66 rfl (lv_at hl 4 rfl) ?_
        refine mm_V (As := [.int (nI j), .int (nI i)]) (rest := []) ⟨hx, hb, hml, hown, hts⟩ (c6_meet l G hI j i (by omega) (by omega)) (cwV 2 hts gX6_compare_X6_meet rfl rfl rfl (by decide +kernel) ⟨Nat.le_of_ble_eq_true rfl, Nat.le_of_ble_eq_true rfl⟩) hK hE hA hM (mm_recv hK hM (hI.obj) (q := (RX6, TX6, 14)) rfl) rfl hl.1 rfl (Nat.le_of_ble_eq_true rfl) dX6_compare_67 ⟨Nat.le_of_ble_eq_true rfl, Nat.le_of_ble_eq_true rfl⟩ (fun v gz5 Hp lcs hp hM => ?_)
        obtain ⟨rfl, hI⟩ := hp
        refine lvb_eq (tgt := 77) hx hb dX6_compare_70 (by decide) (fun cz6 => ?_) (fun cz6 => ?_)
        · refine lv_iconst (v := (nI 4)) hx hb dX6_compare_77 (by decide +kernel) ?_
          exact mm_iret hx hb hlocks hr (Nat.le_of_ble_eq_true rfl) (Nat.le_of_ble_eq_true rfl) hM (⟨cmp_at hn hn16 jN iN (by simp [cmpS, nI_lit, cz1, cz2, cz3, cz4, cz6]), _, _, hI⟩) dX6_compare_78
        refine lv_iconst (v := (nI 3)) hx hb dX6_compare_73 (by decide +kernel) ?_
        refine lv_goto (tgt := 78) hx hb dX6_compare_74 (by decide) ?_
        exact mm_iret hx hb hlocks hr (Nat.le_of_ble_eq_true rfl) (Nat.le_of_ble_eq_true rfl) hM (⟨cmp_at hn hn16 jN iN (by simp [cmpS, nI_lit, cz1, cz2, cz3, cz4, cz6]), _, _, hI⟩) dX6_compare_78
      refine lv_iconst (v := (nI 2)) hx hb dX6_compare_60 (by decide +kernel) ?_
      refine lv_goto (tgt := 78) hx hb dX6_compare_61 (by decide) ?_
      exact mm_iret hx hb hlocks hr (Nat.le_of_ble_eq_true rfl) (Nat.le_of_ble_eq_true rfl) hM (⟨cmp_at hn hn16 jN iN (by simp [cmpS, nI_lit, cz1, cz2, cz3, cz4]), _, _, hI⟩) dX6_compare_78
    refine lv_iload hx hb dX6_compare_38 (lv_at hl 0 rfl) ?_
    refine lvb_eq (tgt := 47) hx hb dX6_compare_40 (by decide) (fun cz7 => ?_) (fun cz7 => ?_)
    · refine lv_iload_n hx hb dX6_compare_47 rfl (lv_at hl 1 rfl) ?_
      refine lvb_eq (tgt := 55) hx hb dX6_compare_48 (by decide) (fun hq9 => absurd hq9 (by rw [cz3]; decide)) (fun _ => ?_)
      refine lv_iconst (v := (nI 1)) hx hb dX6_compare_51 (by decide +kernel) ?_
      refine lv_goto (tgt := 78) hx hb dX6_compare_52 (by decide) ?_
      exact mm_iret hx hb hlocks hr (Nat.le_of_ble_eq_true rfl) (Nat.le_of_ble_eq_true rfl) hM (⟨cmp_at hn hn16 jN iN (by simp [cmpS, nI_lit, cz1, cz2, cz3, cz7]), _, _, hI⟩) dX6_compare_78
    refine lv_iconst (v := (nI 0)) hx hb dX6_compare_43 (by decide +kernel) ?_
    refine lv_goto (tgt := 78) hx hb dX6_compare_44 (by decide) ?_
    exact mm_iret hx hb hlocks hr (Nat.le_of_ble_eq_true rfl) (Nat.le_of_ble_eq_true rfl) hM (⟨cmp_at hn hn16 jN iN (by simp [cmpS, nI_lit, cz1, cz2, cz3, cz7]), _, _, hI⟩) dX6_compare_78
  refine lv_ldc (v := (-100001)) hx hb hown (hts (.constant RX6 145 (-100001)) (List.mem_of_getElem? (i := 1) rfl)) dX6_compare_16 ?_
  exact mm_iret hx hb hlocks hr (Nat.le_of_ble_eq_true rfl) (Nat.le_of_ble_eq_true rfl) hM (⟨cmp_no2 hn hn16 jN cz2, _, _, hI⟩) dX6_compare_18
set_option maxHeartbeats 4000000 in
set_option maxRecDepth 100000 in
theorem c6_contradiction (l : Launch) (G : mG) {f : mE} {o : Nat} {a : Nat → Nat} {S P lo hi ou : Nat → Int32} {rc isr wd us ab gi wr wo : Int32} (hI : RI G f o a S P lo hi ou rc isr wd us ab gi wr wo) {n : Nat} (hn : S 56 = nI n) (hn16 : n ≤ 16) (x : Int32) : mC l G yX6_contradiction wsX6_contradiction ({ frames := 4, cells := 0, slots := 0, locals := 92 } : Room) f [.ref o, .int x] (fun v f1 => v = some (.int (ctdX S n x)) ∧ ∃ lo1 hi1, RI G f1 o a S P lo1 hi1 ou rc isr wd us ab gi wr wo) 0 0 := by
  refine mC.of (cc := cX6_contradiction) (maxL := 5) (ret := (some .int)) (by decide) rfl (Nat.le_of_ble_eq_true rfl) ?_
  intro pgm env s mt args below meth c A ls hx hb hml hr hlocks hown hname hts hK hE hA hM hl
  have hl : lv_has ls 5 [(0, .ref o), (1, .int x)] := hl
  refine lv_iload_n hx hb dX6_contradiction_0 rfl (lv_at hl 1 rfl) ?_
  refine lv_if_ge (tgt := 7) hx hb dX6_contradiction_1 (by decide) (fun cz1 => ?_) (fun cz1 => ?_)
  · have hx0 := cz1
    refine lv_iconst (v := (nI 0)) hx hb dX6_contradiction_7 (by decide +kernel) ?_
    refine lv_istore_n (lv' := [(2, .int (nI 0)), (0, .ref o), (1, .int x)]) hx hb dX6_contradiction_8 rfl hl (by decide) rfl (fun ls hl => ?_)
    refine lv_iconst (v := (nI 0)) hx hb dX6_contradiction_9 (by decide +kernel) ?_
    refine lv_istore_n (lv' := [(3, .int (nI 0)), (2, .int (nI 0)), (0, .ref o), (1, .int x)]) hx hb dX6_contradiction_10 rfl hl (by decide) rfl (fun ls hl => ?_)
    have loopY : ∀ (fuel : Nat) (p cn : Nat) (fz : mE) (lo hi : Nat → Int32) (Hp : Heap) (lcs : List Loc) (ls : Array Slot) (pN : p ≤ n) (hcn : cn + (n - p) * n ≤ 300) (hfin : ctdO (ctdB S n) x n (n - p) p cn = ctdO (ctdB S n) x n n 0 0) (hIz : RI G fz o a S P lo hi ou rc isr wd us ab gi wr wo) (hfu : n - p < fuel) (hM : mM G A s.heap fz Hp lcs) (hl : lv_has ls 5 [(0, .ref o), (1, .int x), (2, .int (nI cn)), (3, .int (nI p))]), W pgm l env ({ frames := 4, cells := 0, slots := 0, locals := 92 } : Room) s mt args below meth c Hp lcs 0 0 (MQ below (mQc G A (fun v f1 => v = some (.int (ctdX S n x)) ∧ ∃ lo1 hi1, RI G f1 o a S P lo1 hi1 ou rc isr wd us ab gi wr wo)) args s 0 0 A) (F0 mt 11 ls []) := by
      intro fuel
      induction fuel with
      | zero => intro p cn fz lo hi Hp lcs ls pN hcn hfin hIz hfu; exact absurd hfu (Nat.not_lt_zero _)
      | succ fuel ih =>
        intro p cn fz lo hi Hp lcs ls pN hcn hfin hIz hfu hM hl
        have hI := hIz
        refine lv_iload_n hx hb dX6_contradiction_11 rfl (lv_at hl 3 rfl) ?_
        refine lv_aload_n hx hb dX6_contradiction_12 rfl (lv_at hl 0 rfl) ?_
        refine mm_get (C := RX6) (T := TX6) (N := 14) (k := 0) hx hb hts (fun _ h => List.mem_cons_of_mem _ (List.mem_append_right _ h)) hown hK hM (hI.obj) rfl (by decide) (hts (.fieldLink RX6 7 "SentenceRulesModel" "now" "[I") (List.mem_of_getElem? (i := 2) rfl)) rfl rfl dX6_contradiction_13 ?_
        refine lv_bipush (v := (nI 56)) hx hb dX6_contradiction_16 (by decide +kernel) ?_
        refine mn_iald hx hb hK hM (hI.now) 56 (by omega) (by decide) dX6_contradiction_18 ?_
        refine mv_top hn ?_
        refine ln_icmp_ge p n (by omega) (by omega) (tgt := 77) hx hb dX6_contradiction_19 (by decide) (fun cz2 => ?_) (fun cz2 => ?_)
        · refine lv_ldc (v := (-100005)) hx hb hown (hts (.constant RX6 28 (-100005)) (List.mem_of_getElem? (i := 3) rfl)) dX6_contradiction_77 ?_
          exact mm_iret hx hb hlocks hr (Nat.le_of_ble_eq_true rfl) (Nat.le_of_ble_eq_true rfl) hM (⟨ctdX_none hx0 (by rw [← hfin, show n - p = 0 by omega]; rfl), _, _, hI⟩) dX6_contradiction_79
        refine lv_iload_n hx hb dX6_contradiction_22 rfl (lv_at hl 3 rfl) ?_
        refine lv_iconst (v := (nI 1)) hx hb dX6_contradiction_23 (by decide +kernel) ?_
        refine ln_iadd p 1 hx hb dX6_contradiction_24 ?_
        refine lv_istore (lv' := [(4, .int (nI (p + 1))), (0, .ref o), (1, .int x), (2, .int (nI cn)), (3, .int (nI p))]) hx hb dX6_contradiction_25 hl (by decide) rfl (fun ls hl => ?_)
        have loopZ : ∀ (fuelB : Nat) (q cq : Nat) (fz : mE) (lo hi : Nat → Int32) (Hp : Heap) (lcs : List Loc) (ls : Array Slot) (qN : q ≤ n) (hcq : cq + (n - q) + (n - (p + 1)) * n ≤ 300) (hfin2 : (ctdI (ctdB S n) x p (n - q) q cq) = (ctdI (ctdB S n) x p (n - (p + 1)) (p + 1) cn)) (hIz : RI G fz o a S P lo hi ou rc isr wd us ab gi wr wo) (hfuB : n - q < fuelB) (hM : mM G A s.heap fz Hp lcs) (hl : lv_has ls 5 [(0, .ref o), (1, .int x), (2, .int (nI cq)), (3, .int (nI p)), (4, .int (nI q))]), W pgm l env ({ frames := 4, cells := 0, slots := 0, locals := 92 } : Room) s mt args below meth c Hp lcs 0 0 (MQ below (mQc G A (fun v f1 => v = some (.int (ctdX S n x)) ∧ ∃ lo1 hi1, RI G f1 o a S P lo1 hi1 ou rc isr wd us ab gi wr wo)) args s 0 0 A) (F0 mt 27 ls []) := by
          intro fuelB
          induction fuelB with
          | zero => intro q cq fz lo hi Hp lcs ls qN hcq hfin2 hIz hfuB; exact absurd hfuB (Nat.not_lt_zero _)
          | succ fuelB ihB =>
            intro q cq fz lo hi Hp lcs ls qN hcq hfin2 hIz hfuB hM hl
            have hI := hIz
            refine lv_iload hx hb dX6_contradiction_27 (lv_at hl 4 rfl) ?_
            refine lv_aload_n hx hb dX6_contradiction_29 rfl (lv_at hl 0 rfl) ?_
            refine mm_get (C := RX6) (T := TX6) (N := 14) (k := 0) hx hb hts (fun _ h => List.mem_cons_of_mem _ (List.mem_append_right _ h)) hown hK hM (hI.obj) rfl (by decide) (hts (.fieldLink RX6 7 "SentenceRulesModel" "now" "[I") (List.mem_of_getElem? (i := 2) rfl)) rfl rfl dX6_contradiction_30 ?_
            refine lv_bipush (v := (nI 56)) hx hb dX6_contradiction_33 (by decide +kernel) ?_
            refine mn_iald hx hb hK hM (hI.now) 56 (by omega) (by decide) dX6_contradiction_35 ?_
            refine mv_top hn ?_
            refine ln_icmp_ge q n (by omega) (by omega) (tgt := 71) hx hb dX6_contradiction_36 (by decide) (fun cz3 => ?_) (fun cz3 => ?_)
            · have hend := hfin2.symm.trans (ctdI_end (D := ctdB S n) (x := x) (a := p) (c := cq) cz3)
              have hcB : cq + (n - (p + 1)) * n ≤ 300 := by omega
              refine lv_iinc (v := (nI (p + 1))) (lv' := [(3, .int (nI (p + 1))), (0, .ref o), (1, .int x), (2, .int (nI cq)), (4, .int (nI q))]) hx hb dX6_contradiction_71 hl (k := 3) rfl (nI_add _ _) (by decide) rfl (fun ls hl => ?_)
              refine lv_goto (tgt := 11) hx hb dX6_contradiction_74 (by decide) ?_
              exact ih (p + 1) _ _ _ _ _ _ ls (by omega) (by first | exact hcB | omega) (by rw [← hfin]; exact (ctdO_none (by omega) hend).symm) hI (by omega) hM (lv_sub hl [1, 2, 3, 0] rfl)
            refine lv_aload_n hx hb dX6_contradiction_39 rfl (lv_at hl 0 rfl) ?_
            refine lv_iload_n hx hb dX6_contradiction_40 rfl (lv_at hl 3 rfl) ?_
            refine lv_iload hx hb dX6_contradiction_41 (lv_at hl 4 rfl) ?_
            refine mm_V (As := [.int (nI p), .int (nI q)]) (rest := []) ⟨hx, hb, hml, hown, hts⟩ (c6_contradict l G hI hn hn16 p q (by omega) (by omega)) (cwV 2 hts gX6_contradiction_X6_contradict rfl rfl rfl (by decide +kernel) ⟨Nat.le_of_ble_eq_true rfl, Nat.le_of_ble_eq_true rfl⟩) hK hE hA hM (mm_recv hK hM (hI.obj) (q := (RX6, TX6, 14)) rfl) rfl hl.1 rfl (Nat.le_of_ble_eq_true rfl) dX6_contradiction_43 ⟨Nat.le_of_ble_eq_true rfl, Nat.le_of_ble_eq_true rfl⟩ (fun v gz4 Hp lcs hp hM => ?_)
            obtain ⟨rfl, lz5, hz6, hI⟩ := hp
            refine lvb_eq (tgt := 65) hx hb dX6_contradiction_46 (by decide) (fun cz7 => ?_) (fun cz7 => ?_)
            · refine lv_iinc (v := (nI (q + 1))) (lv' := [(4, .int (nI (q + 1))), (0, .ref o), (1, .int x), (2, .int (nI cq)), (3, .int (nI p))]) hx hb dX6_contradiction_65 hl (k := 4) rfl (nI_add _ _) (by decide) rfl (fun ls hl => ?_)
              refine lv_goto (tgt := 27) hx hb dX6_contradiction_68 (by decide) ?_
              exact ihB (q + 1) _ _ _ _ _ _ ls (by omega) (by omega) (by rw [← hfin2]; exact (ctdI_no cz3 cz7).symm) hI (by omega) hM (lv_sub hl [1, 2, 3, 4, 0] rfl)
            refine lv_iload_n hx hb dX6_contradiction_49 rfl (lv_at hl 2 rfl) ?_
            refine lv_iload_n hx hb dX6_contradiction_50 rfl (lv_at hl 1 rfl) ?_
            refine lv_icmp_ne (tgt := 62) hx hb dX6_contradiction_51 (by decide) (fun cz8 => ?_) (fun cz8 => ?_)
            · refine lv_iinc (v := (nI (cq + 1))) (lv' := [(2, .int (nI (cq + 1))), (0, .ref o), (1, .int x), (3, .int (nI p)), (4, .int (nI q))]) hx hb dX6_contradiction_62 hl (k := 2) rfl (nI_add _ _) (by decide) rfl (fun ls hl => ?_)
              refine lv_iinc (v := (nI (q + 1))) (lv' := [(4, .int (nI (q + 1))), (2, .int (nI (cq + 1))), (0, .ref o), (1, .int x), (3, .int (nI p))]) hx hb dX6_contradiction_65 hl (k := 4) rfl (nI_add _ _) (by decide) rfl (fun ls hl => ?_)
              refine lv_goto (tgt := 27) hx hb dX6_contradiction_68 (by decide) ?_
              exact ihB (q + 1) _ _ _ _ _ _ ls (by omega) (by omega) (by rw [← hfin2]; exact (ctdI_go cz3 cz7 cz8).symm) hI (by omega) hM (lv_sub hl [2, 3, 1, 4, 0] rfl)
            refine lv_bipush (v := (nI 100)) hx hb dX6_contradiction_54 (by decide +kernel) ?_
            refine lv_iload_n hx hb dX6_contradiction_56 rfl (lv_at hl 3 rfl) ?_
            refine ln_imul 100 p hx hb dX6_contradiction_57 ?_
            refine lv_iload hx hb dX6_contradiction_58 (lv_at hl 4 rfl) ?_
            refine ln_iadd (100 * p) q hx hb dX6_contradiction_60 ?_
            exact mm_iret hx hb hlocks hr (Nat.le_of_ble_eq_true rfl) (Nat.le_of_ble_eq_true rfl) hM (⟨ctdX_hit hx0 (by omega) hfin (by rw [← hfin2]; exact ctdI_hit cz3 cz7 cz8), _, _, hI⟩) dX6_contradiction_61
        exact loopZ (n + 1) (p + 1) _ _ _ _ _ _ ls (by omega) (ctd_in cz2 hcn) rfl hI (by omega) hM (lv_sub hl [1, 2, 3, 4, 0] rfl)
    exact loopY (n + 1) 0 0 _ _ _ _ _ ls (Nat.zero_le _) (ctd_300 hn16) rfl hI (by omega) hM (lv_sub hl [2, 3, 1, 0] rfl)
  refine lv_ldc (v := (-100002)) hx hb hown (hts (.constant RX6 64 (-100002)) (List.mem_of_getElem? (i := 1) rfl)) dX6_contradiction_4 ?_
  exact mm_iret hx hb hlocks hr (Nat.le_of_ble_eq_true rfl) (Nat.le_of_ble_eq_true rfl) hM (⟨ctdX_bad cz1, _, _, hI⟩) dX6_contradiction_6
set_option maxHeartbeats 4000000 in
set_option maxRecDepth 100000 in
theorem c6_answerWith (l : Launch) (G : mG) {f : mE} {o : Nat} {a : Nat → Nat} {S P lo hi ou : Nat → Int32} {rc isr wd us ab gi wr wo : Int32} (hI : RI G f o a S P lo hi ou rc isr wd us ab gi wr wo) {n : Nat} (hn : S 56 = nI n) (hn16 : n ≤ 16) (r : Int32) (k : Nat) (hk : k < 7) (x : Int32) : mC l G yX6_answerWith wsX6_answerWith ({ frames := 5, cells := 0, slots := 0, locals := 115 } : Room) f [.ref o, .int r, .int (nI k), .int x] (fun v f1 => v = some (.int (ansI (upd S k x) wo n r)) ∧ RI G f1 o a S P lo hi ou rc isr wd us ab gi wr wo) 0 0 := by
  refine mC.of (cc := cX6_answerWith) (maxL := 6) (ret := (some .int)) (by decide) rfl (Nat.le_of_ble_eq_true rfl) ?_
  intro pgm env s mt args below meth c A ls hx hb hml hr hlocks hown hname hts hK hE hA hM hl
  have hl : lv_has ls 6 [(0, .ref o), (1, .int r), (2, .int (nI k)), (3, .int x)] := hl
  refine lv_aload_n hx hb dX6_answerWith_0 rfl (lv_at hl 0 rfl) ?_
  refine mm_get (C := RX6) (T := TX6) (N := 14) (k := 0) hx hb hts (fun _ h => List.mem_cons_of_mem _ (List.mem_append_right _ h)) hown hK hM (hI.obj) rfl (by decide) (hts (.fieldLink RX6 7 "SentenceRulesModel" "now" "[I") (List.mem_of_getElem? (i := 1) rfl)) rfl rfl dX6_answerWith_1 ?_
  refine lv_iload_n hx hb dX6_answerWith_4 rfl (lv_at hl 2 rfl) ?_
  refine mn_iald hx hb hK hM (hI.now) k (by omega) (by decide) dX6_answerWith_5 ?_
  refine lv_istore (lv' := [(4, .int (S k)), (0, .ref o), (1, .int r), (2, .int (nI k)), (3, .int x)]) hx hb dX6_answerWith_6 hl (by decide) rfl (fun ls hl => ?_)
  refine lv_aload_n hx hb dX6_answerWith_8 rfl (lv_at hl 1 rfl) ?_
  refine mm_get (C := RX6) (T := TX6) (N := 14) (k := 0) hx hb hts (fun _ h => List.mem_cons_of_mem _ (List.mem_append_right _ h)) hown hK hM (hI.obj) rfl (by decide) (hts (.fieldLink RX6 7 "SentenceRulesModel" "now" "[I") (List.mem_of_getElem? (i := 1) rfl)) rfl rfl dX6_answerWith_9 ?_
  refine lv_iload_n hx hb dX6_answerWith_12 rfl (lv_at hl 3 rfl) ?_
  refine lv_iload_n hx hb dX6_answerWith_13 rfl (lv_at hl 4 rfl) ?_
  refine mn_iast hx hb hK hM (hI.now) k (by omega) (by decide) dX6_answerWith_14 (fun Hp lcs hM => ?_)
  have hI := hI.setNow (upd S k x)
  refine lv_aload_n hx hb dX6_answerWith_15 rfl (lv_at hl 1 rfl) ?_
  refine lv_iload_n hx hb dX6_answerWith_16 rfl (lv_at hl 2 rfl) ?_
  refine mm_V (As := [.int r]) (rest := []) ⟨hx, hb, hml, hown, hts⟩ (c6_answerNow l G hI ((pk_un (by omega)).trans hn) hn16 r) (cwV 1 hts gX6_answerWith_X6_answerNow rfl rfl rfl (by decide +kernel) ⟨Nat.le_of_ble_eq_true rfl, Nat.le_of_ble_eq_true rfl⟩) hK hE hA hM (mm_recv hK hM (hI.obj) (q := (RX6, TX6, 14)) rfl) rfl hl.1 rfl (Nat.le_of_ble_eq_true rfl) dX6_answerWith_17 ⟨Nat.le_of_ble_eq_true rfl, Nat.le_of_ble_eq_true rfl⟩ (fun v f1 Hp lcs hp hM => ?_)
  obtain ⟨rfl, hf⟩ := hp; subst hf
  refine lv_istore (lv' := [(5, .int (ansI (upd S k x) wo n r)), (4, .int (S k)), (0, .ref o), (1, .int r), (2, .int (nI k)), (3, .int x)]) hx hb dX6_answerWith_20 hl (by decide) rfl (fun ls hl => ?_)
  refine lv_aload_n hx hb dX6_answerWith_22 rfl (lv_at hl 2 rfl) ?_
  refine mm_get (C := RX6) (T := TX6) (N := 14) (k := 0) hx hb hts (fun _ h => List.mem_cons_of_mem _ (List.mem_append_right _ h)) hown hK hM (hI.obj) rfl (by decide) (hts (.fieldLink RX6 7 "SentenceRulesModel" "now" "[I") (List.mem_of_getElem? (i := 1) rfl)) rfl rfl dX6_answerWith_23 ?_
  refine lv_iload_n hx hb dX6_answerWith_26 rfl (lv_at hl 4 rfl) ?_
  refine lv_iload hx hb dX6_answerWith_27 (lv_at hl 1 rfl) ?_
  refine mn_iast hx hb hK hM (hI.now) k (by omega) (by decide) dX6_answerWith_29 (fun Hp lcs hM => ?_)
  have hI := hI.setNow (upd (upd S k x) k (S k))
  refine lv_iload hx hb dX6_answerWith_30 (lv_at hl 0 rfl) ?_
  exact mm_iret hx hb hlocks hr (Nat.le_of_ble_eq_true rfl) (Nat.le_of_ble_eq_true rfl) hM (⟨rfl, hI.cS (upd_back S k x)⟩) dX6_answerWith_32
set_option maxHeartbeats 4000000 in
set_option maxRecDepth 100000 in
theorem c6_answerIf (l : Launch) (G : mG) {f : mE} {o : Nat} {a : Nat → Nat} {S P lo hi ou : Nat → Int32} {rc isr wd us ab gi wr wo : Int32} (hI : RI G f o a S P lo hi ou rc isr wd us ab gi wr wo) {n : Nat} (hn : S 56 = nI n) (hn16 : n ≤ 16) (r k x : Int32) : mC l G yX6_answerIf wsX6_answerIf ({ frames := 6, cells := 0, slots := 0, locals := 140 } : Room) f [.ref o, .int r, .int k, .int x] (fun v f1 => v = some (.int (a6_answerIf S wo n r k x)) ∧ RI G f1 o a S P lo hi ou rc isr wd us ab gi wr wo) 0 0 := by
  refine mC.of (cc := cX6_answerIf) (maxL := 4) (ret := (some .int)) (by decide) rfl (Nat.le_of_ble_eq_true rfl) ?_
  intro pgm env s mt args below meth c A ls hx hb hml hr hlocks hown hname hts hK hE hA hM hl
  have hl : lv_has ls 4 [(0, .ref o), (1, .int r), (2, .int k), (3, .int x)] := hl
  refine lv_iload_n hx hb dX6_answerIf_0 rfl (lv_at hl 1 rfl) ?_
  refine mm_S (As := [.int r]) (rest := []) ⟨hx, hb, hml, hown, hts⟩ (c6_isResult l G _ r) (va_cwS 1 hts gX6_answerIf_X6_isResult rfl rfl rfl (by decide +kernel) ⟨Nat.le_of_ble_eq_true rfl, Nat.le_of_ble_eq_true rfl⟩) hK hE hA hM rfl hl.1 rfl (Nat.le_of_ble_eq_true rfl) dX6_answerIf_1 ⟨Nat.le_of_ble_eq_true rfl, Nat.le_of_ble_eq_true rfl⟩ (fun v f1 Hp lcs hp hM => ?_)
  obtain ⟨rfl, hf⟩ := hp; subst hf
  refine lvb_eq (tgt := 25) hx hb dX6_answerIf_4 (by decide) (fun cz1 => ?_) (fun cz1 => ?_)
  · refine lv_ldc (v := (-100002)) hx hb hown (hts (.constant RX6 64 (-100002)) (List.mem_of_getElem? (i := 1) rfl)) dX6_answerIf_25 ?_
    exact mm_iret hx hb hlocks hr (Nat.le_of_ble_eq_true rfl) (Nat.le_of_ble_eq_true rfl) hM (⟨by rw [a6_answerIf]; simp [cz1], hI⟩) dX6_answerIf_27
  refine lv_iload_n hx hb dX6_answerIf_7 rfl (lv_at hl 2 rfl) ?_
  refine lv_iload_n hx hb dX6_answerIf_8 rfl (lv_at hl 3 rfl) ?_
  refine mm_S (As := [.int k, .int x]) (rest := []) ⟨hx, hb, hml, hown, hts⟩ (c6_isValue l G _ k x) (va_cwS 2 hts gX6_answerIf_X6_isValue rfl rfl rfl (by decide +kernel) ⟨Nat.le_of_ble_eq_true rfl, Nat.le_of_ble_eq_true rfl⟩) hK hE hA hM rfl hl.1 rfl (Nat.le_of_ble_eq_true rfl) dX6_answerIf_9 ⟨Nat.le_of_ble_eq_true rfl, Nat.le_of_ble_eq_true rfl⟩ (fun v f1 Hp lcs hp hM => ?_)
  obtain ⟨rfl, hf⟩ := hp; subst hf
  refine lvb_eq (tgt := 25) hx hb dX6_answerIf_12 (by decide) (fun cz2 => ?_) (fun cz2 => ?_)
  · refine lv_ldc (v := (-100002)) hx hb hown (hts (.constant RX6 64 (-100002)) (List.mem_of_getElem? (i := 1) rfl)) dX6_answerIf_25 ?_
    exact mm_iret hx hb hlocks hr (Nat.le_of_ble_eq_true rfl) (Nat.le_of_ble_eq_true rfl) hM (⟨by rw [a6_answerIf]; simp [cz1, cz2], hI⟩) dX6_answerIf_27
  obtain ⟨i, iN, rfl⟩ := val_nat cz2
  refine lv_aload_n hx hb dX6_answerIf_15 rfl (lv_at hl 0 rfl) ?_
  refine lv_iload_n hx hb dX6_answerIf_16 rfl (lv_at hl 1 rfl) ?_
  refine lv_iload_n hx hb dX6_answerIf_17 rfl (lv_at hl 2 rfl) ?_
  refine lv_iload_n hx hb dX6_answerIf_18 rfl (lv_at hl 3 rfl) ?_
  refine mm_V (As := [.int r, .int (nI i), .int x]) (rest := []) ⟨hx, hb, hml, hown, hts⟩ (c6_answerWith l G hI hn hn16 r i (by omega) x) (cwV 3 hts gX6_answerIf_X6_answerWith rfl rfl rfl (by decide +kernel) ⟨Nat.le_of_ble_eq_true rfl, Nat.le_of_ble_eq_true rfl⟩) hK hE hA hM (mm_recv hK hM (hI.obj) (q := (RX6, TX6, 14)) rfl) rfl hl.1 rfl (Nat.le_of_ble_eq_true rfl) dX6_answerIf_19 ⟨Nat.le_of_ble_eq_true rfl, Nat.le_of_ble_eq_true rfl⟩ (fun v gz3 Hp lcs hp hM => ?_)
  obtain ⟨rfl, hI⟩ := hp
  refine lv_goto (tgt := 27) hx hb dX6_answerIf_22 (by decide) ?_
  exact mm_iret hx hb hlocks hr (Nat.le_of_ble_eq_true rfl) (Nat.le_of_ble_eq_true rfl) hM (⟨by rw [a6_answerIf, if_pos ⟨cz1, cz2⟩, nI_clamp (by omega)], hI⟩) dX6_answerIf_27
set_option maxHeartbeats 4000000 in
set_option maxRecDepth 100000 in
theorem c6_border (l : Launch) (G : mG) {f : mE} {o : Nat} {a : Nat → Nat} {S P lo hi ou : Nat → Int32} {rc isr wd us ab gi wr wo : Int32} (hI : RI G f o a S P lo hi ou rc isr wd us ab gi wr wo) {n : Nat} (hn : S 56 = nI n) (hn16 : n ≤ 16) (k : Nat) (hk : k < 7) (x : Int32) : mC l G yX6_border wsX6_border ({ frames := 1, cells := 0, slots := 0, locals := 22 } : Room) f [.ref o, .int (nI k), .int x] (fun v f1 => v = some (.int (borI S n k x)) ∧ f = f1) 0 0 := by
  refine mC.of (cc := cX6_border) (maxL := 7) (ret := (some .int)) (by decide) rfl (Nat.le_of_ble_eq_true rfl) ?_
  intro pgm env s mt args below meth c A ls hx hb hml hr hlocks hown hname hts hK hE hA hM hl
  have hl : lv_has ls 7 [(0, .ref o), (1, .int (nI k)), (2, .int x)] := hl
  refine lv_ldc (v := (-100005)) hx hb hown (hts (.constant RX6 28 (-100005)) (List.mem_of_getElem? (i := 1) rfl)) dX6_border_0 ?_
  refine lv_istore_n (lv' := [(3, .int (-100005)), (0, .ref o), (1, .int (nI k)), (2, .int x)]) hx hb dX6_border_2 rfl hl (by decide) rfl (fun ls hl => ?_)
  refine lv_iconst (v := (nI 0)) hx hb dX6_border_3 (by decide +kernel) ?_
  refine lv_istore (lv' := [(4, .int (nI 0)), (3, .int (-100005)), (0, .ref o), (1, .int (nI k)), (2, .int x)]) hx hb dX6_border_4 hl (by decide) rfl (fun ls hl => ?_)
  have loopZ : ∀ (fuel : Nat) (i : Nat) (aw : Int32) (Hp : Heap) (lcs : List Loc) (ls : Array Slot) (hiN : i ≤ n) (hr0 : aw = borL S k x i) (hfu : n - i < fuel) (hM : mM G A s.heap f Hp lcs) (hl : lv_has ls 7 [(0, .ref o), (1, .int (nI k)), (2, .int x), (3, .int aw), (4, .int (nI i))]), W pgm l env ({ frames := 1, cells := 0, slots := 0, locals := 22 } : Room) s mt args below meth c Hp lcs 0 0 (MQ below (mQc G A (fun v f1 => v = some (.int (borI S n k x)) ∧ f = f1)) args s 0 0 A) (F0 mt 6 ls []) := by
    intro fuel
    induction fuel with
    | zero => intro i aw Hp lcs ls hiN hr0 hfu; exact absurd hfu (Nat.not_lt_zero _)
    | succ fuel ih =>
      intro i aw Hp lcs ls hiN hr0 hfu hM hl
      subst hr0
      refine lv_iload hx hb dX6_border_6 (lv_at hl 4 rfl) ?_
      refine lv_aload_n hx hb dX6_border_8 rfl (lv_at hl 0 rfl) ?_
      refine mm_get (C := RX6) (T := TX6) (N := 14) (k := 0) hx hb hts (fun _ h => List.mem_cons_of_mem _ (List.mem_append_right _ h)) hown hK hM (hI.obj) rfl (by decide) (hts (.fieldLink RX6 7 "SentenceRulesModel" "now" "[I") (List.mem_of_getElem? (i := 2) rfl)) rfl rfl dX6_border_9 ?_
      refine lv_bipush (v := (nI 56)) hx hb dX6_border_12 (by decide +kernel) ?_
      refine mn_iald hx hb hK hM (hI.now) 56 (by omega) (by decide) dX6_border_14 ?_
      refine mv_top hn ?_
      refine ln_icmp_ge i n (by omega) (by omega) (tgt := 100) hx hb dX6_border_15 (by decide) (fun cz1 => ?_) (fun cz1 => ?_)
      · refine lv_iload_n hx hb dX6_border_100 rfl (lv_at hl 3 rfl) ?_
        refine lv_ldc (v := (-100005)) hx hb hown (hts (.constant RX6 28 (-100005)) (List.mem_of_getElem? (i := 1) rfl)) dX6_border_101 ?_
        refine lv_icmp_eq (tgt := 118) hx hb dX6_border_103 (by decide) (fun cz2 => ?_) (fun cz2 => ?_)
        · refine lv_ldc (v := (-100005)) hx hb hown (hts (.constant RX6 28 (-100005)) (List.mem_of_getElem? (i := 1) rfl)) dX6_border_118 ?_
          exact mm_iret hx hb hlocks hr (Nat.le_of_ble_eq_true rfl) (Nat.le_of_ble_eq_true rfl) hM ((by have hz : i = n := (by omega); subst hz; exact ret_v (by simp [borI, cz1, cz2]))) dX6_border_120
        refine lv_iload_n hx hb dX6_border_106 rfl (lv_at hl 3 rfl) ?_
        refine lv_iload_n hx hb dX6_border_107 rfl (lv_at hl 1 rfl) ?_
        refine mm_S (As := [.int (nI k)]) (rest := [.int (borL S k x i)]) ⟨hx, hb, hml, hown, hts⟩ (c6_greatestOf l G _ (nI k)) (va_cwS 1 hts gX6_border_X6_greatestOf rfl rfl rfl (by decide +kernel) ⟨Nat.le_of_ble_eq_true rfl, Nat.le_of_ble_eq_true rfl⟩) hK hE hA hM rfl hl.1 rfl (Nat.le_of_ble_eq_true rfl) dX6_border_108 ⟨Nat.le_of_ble_eq_true rfl, Nat.le_of_ble_eq_true rfl⟩ (fun v f1 Hp lcs hp hM => ?_)
        obtain ⟨rfl, hf⟩ := hp; subst hf
        refine lv_icmp_gt (tgt := 118) hx hb dX6_border_111 (by decide) (fun cz3 => ?_) (fun cz3 => ?_)
        · refine lv_ldc (v := (-100005)) hx hb hown (hts (.constant RX6 28 (-100005)) (List.mem_of_getElem? (i := 1) rfl)) dX6_border_118 ?_
          exact mm_iret hx hb hlocks hr (Nat.le_of_ble_eq_true rfl) (Nat.le_of_ble_eq_true rfl) hM ((by have hz : i = n := (by omega); subst hz; exact ret_v (by simp [borI, cz1, cz2, cz3]))) dX6_border_120
        refine lv_iload_n hx hb dX6_border_114 rfl (lv_at hl 3 rfl) ?_
        refine lv_goto (tgt := 120) hx hb dX6_border_115 (by decide) ?_
        exact mm_iret hx hb hlocks hr (Nat.le_of_ble_eq_true rfl) (Nat.le_of_ble_eq_true rfl) hM ((by have hz : i = n := (by omega); subst hz; exact ret_v (by simp [borI, cz1, cz2, cz3]))) dX6_border_120
      refine lv_aload_n hx hb dX6_border_18 rfl (lv_at hl 0 rfl) ?_
      refine lv_iload hx hb dX6_border_19 (lv_at hl 4 rfl) ?_
      refine lv_bipush (v := (nI 52)) hx hb dX6_border_21 (by decide +kernel) ?_
      refine lv_iload_n hx hb dX6_border_23 rfl (lv_at hl 1 rfl) ?_
      refine ln_iadd 52 k hx hb dX6_border_24 ?_
      refine mm_V (As := [.int (nI i), .int (nI (52 + k))]) (rest := []) ⟨hx, hb, hml, hown, hts⟩ (c6_of l G hI i (52 + k) (by omega)) (cwV 2 hts gX6_border_X6_of rfl rfl rfl (by decide +kernel) ⟨Nat.le_of_ble_eq_true rfl, Nat.le_of_ble_eq_true rfl⟩) hK hE hA hM (mm_recv hK hM (hI.obj) (q := (RX6, TX6, 14)) rfl) rfl hl.1 rfl (Nat.le_of_ble_eq_true rfl) dX6_border_25 ⟨Nat.le_of_ble_eq_true rfl, Nat.le_of_ble_eq_true rfl⟩ (fun v f1 Hp lcs hp hM => ?_)
      obtain ⟨rfl, hf⟩ := hp; subst hf
      refine lv_istore (lv' := [(5, .int (S (57 + 66 * i + (52 + k)))), (0, .ref o), (1, .int (nI k)), (2, .int x), (3, .int (borL S k x i)), (4, .int (nI i))]) hx hb dX6_border_28 hl (by decide) rfl (fun ls hl => ?_)
      refine lv_aload_n hx hb dX6_border_30 rfl (lv_at hl 1 rfl) ?_
      refine lv_iload hx hb dX6_border_31 (lv_at hl 5 rfl) ?_
      refine lv_bipush (v := (nI 59)) hx hb dX6_border_33 (by decide +kernel) ?_
      refine lv_iload_n hx hb dX6_border_35 rfl (lv_at hl 2 rfl) ?_
      refine ln_iadd 59 k hx hb dX6_border_36 ?_
      refine mm_V (As := [.int (nI i), .int (nI (59 + k))]) (rest := []) ⟨hx, hb, hml, hown, hts⟩ (c6_of l G hI i (59 + k) (by omega)) (cwV 2 hts gX6_border_X6_of rfl rfl rfl (by decide +kernel) ⟨Nat.le_of_ble_eq_true rfl, Nat.le_of_ble_eq_true rfl⟩) hK hE hA hM (mm_recv hK hM (hI.obj) (q := (RX6, TX6, 14)) rfl) rfl hl.1 rfl (Nat.le_of_ble_eq_true rfl) dX6_border_37 ⟨Nat.le_of_ble_eq_true rfl, Nat.le_of_ble_eq_true rfl⟩ (fun v f1 Hp lcs hp hM => ?_)
      obtain ⟨rfl, hf⟩ := hp; subst hf
      refine lv_iconst (v := (nI 1)) hx hb dX6_border_40 (by decide +kernel) ?_
      refine lv_iadd hx hb dX6_border_41 ?_
      refine lv_istore (lv' := [(6, .int ((S (57 + 66 * i + (59 + k))) + (nI 1))), (5, .int (S (57 + 66 * i + (52 + k)))), (0, .ref o), (1, .int (nI k)), (2, .int x), (3, .int (borL S k x i)), (4, .int (nI i))]) hx hb dX6_border_42 hl (by decide) rfl (fun ls hl => ?_)
      refine lv_iload hx hb dX6_border_44 (lv_at hl 1 rfl) ?_
      refine lv_iload_n hx hb dX6_border_46 rfl (lv_at hl 4 rfl) ?_
      refine lv_icmp_le (tgt := 67) hx hb dX6_border_47 (by decide) (fun cz4 => ?_) (fun cz4 => ?_)
      · refine lv_iload_n hx hb dX6_border_67 rfl (lv_at hl 5 rfl) ?_
        refine lv_istore_n (lv' := [(3, .int (borL S k x i)), (6, .int ((S (57 + 66 * i + (59 + k))) + (nI 1))), (5, .int (S (57 + 66 * i + (52 + k)))), (0, .ref o), (1, .int (nI k)), (2, .int x), (4, .int (nI i))]) hx hb dX6_border_68 rfl hl (by decide) rfl (fun ls hl => ?_)
        refine lv_iload hx hb dX6_border_69 (lv_at hl 1 rfl) ?_
        refine lv_iload_n hx hb dX6_border_71 rfl (lv_at hl 5 rfl) ?_
        refine lv_icmp_le (tgt := 92) hx hb dX6_border_72 (by decide) (fun cz5 => ?_) (fun cz5 => ?_)
        · refine lv_iload_n hx hb dX6_border_92 rfl (lv_at hl 0 rfl) ?_
          refine lv_istore_n (lv' := [(3, .int (borL S k x i)), (6, .int ((S (57 + 66 * i + (59 + k))) + (nI 1))), (5, .int (S (57 + 66 * i + (52 + k)))), (0, .ref o), (1, .int (nI k)), (2, .int x), (4, .int (nI i))]) hx hb dX6_border_93 rfl hl (by decide) rfl (fun ls hl => ?_)
          refine lv_iinc (v := (nI (i + 1))) (lv' := [(4, .int (nI (i + 1))), (3, .int (borL S k x i)), (6, .int ((S (57 + 66 * i + (59 + k))) + (nI 1))), (5, .int (S (57 + 66 * i + (52 + k)))), (0, .ref o), (1, .int (nI k)), (2, .int x)]) hx hb dX6_border_94 hl (k := 6) rfl (nI_add _ _) (by decide) rfl (fun ls hl => ?_)
          refine lv_goto (tgt := 6) hx hb dX6_border_97 (by decide) ?_
          exact ih (i + 1) _ _ _ ls (by omega) (((congrArg (fun z => borS x z (S (57 + 66 * i + (59 + k)) + nI 1)) (borS_1 (b := borL S k x i) cz4)).trans (borS_1 cz5)).symm) (by omega) hM (lv_sub hl [4, 5, 6, 1, 0] rfl)
        refine lv_iload_n hx hb dX6_border_75 rfl (lv_at hl 0 rfl) ?_
        refine lv_ldc (v := (-100005)) hx hb hown (hts (.constant RX6 28 (-100005)) (List.mem_of_getElem? (i := 1) rfl)) dX6_border_76 ?_
        refine lv_icmp_eq (tgt := 87) hx hb dX6_border_78 (by decide) (fun cz6 => ?_) (fun cz6 => ?_)
        · refine lv_iload hx hb dX6_border_87 (lv_at hl 1 rfl) ?_
          refine lv_goto (tgt := 93) hx hb dX6_border_89 (by decide) ?_
          refine lv_istore_n (lv' := [(3, .int ((S (57 + 66 * i + (59 + k))) + (nI 1))), (6, .int ((S (57 + 66 * i + (59 + k))) + (nI 1))), (5, .int (S (57 + 66 * i + (52 + k)))), (0, .ref o), (1, .int (nI k)), (2, .int x), (4, .int (nI i))]) hx hb dX6_border_93 rfl hl (by decide) rfl (fun ls hl => ?_)
          refine lv_iinc (v := (nI (i + 1))) (lv' := [(4, .int (nI (i + 1))), (3, .int ((S (57 + 66 * i + (59 + k))) + (nI 1))), (6, .int ((S (57 + 66 * i + (59 + k))) + (nI 1))), (5, .int (S (57 + 66 * i + (52 + k)))), (0, .ref o), (1, .int (nI k)), (2, .int x)]) hx hb dX6_border_94 hl (k := 6) rfl (nI_add _ _) (by decide) rfl (fun ls hl => ?_)
          refine lv_goto (tgt := 6) hx hb dX6_border_97 (by decide) ?_
          exact ih (i + 1) _ _ _ ls (by omega) (((congrArg (fun z => borS x z (S (57 + 66 * i + (59 + k)) + nI 1)) (borS_1 (b := borL S k x i) cz4)).trans (borS_2 cz5 cz6)).symm) (by omega) hM (lv_sub hl [4, 5, 6, 1, 0] rfl)
        refine lv_iload hx hb dX6_border_81 (lv_at hl 1 rfl) ?_
        refine lv_iload_n hx hb dX6_border_83 rfl (lv_at hl 0 rfl) ?_
        refine lv_icmp_ge (tgt := 92) hx hb dX6_border_84 (by decide) (fun cz7 => ?_) (fun cz7 => ?_)
        · refine lv_iload_n hx hb dX6_border_92 rfl (lv_at hl 0 rfl) ?_
          refine lv_istore_n (lv' := [(3, .int (borL S k x i)), (6, .int ((S (57 + 66 * i + (59 + k))) + (nI 1))), (5, .int (S (57 + 66 * i + (52 + k)))), (0, .ref o), (1, .int (nI k)), (2, .int x), (4, .int (nI i))]) hx hb dX6_border_93 rfl hl (by decide) rfl (fun ls hl => ?_)
          refine lv_iinc (v := (nI (i + 1))) (lv' := [(4, .int (nI (i + 1))), (3, .int (borL S k x i)), (6, .int ((S (57 + 66 * i + (59 + k))) + (nI 1))), (5, .int (S (57 + 66 * i + (52 + k)))), (0, .ref o), (1, .int (nI k)), (2, .int x)]) hx hb dX6_border_94 hl (k := 6) rfl (nI_add _ _) (by decide) rfl (fun ls hl => ?_)
          refine lv_goto (tgt := 6) hx hb dX6_border_97 (by decide) ?_
          exact ih (i + 1) _ _ _ ls (by omega) (((congrArg (fun z => borS x z (S (57 + 66 * i + (59 + k)) + nI 1)) (borS_1 (b := borL S k x i) cz4)).trans (borS_3 cz5 cz6 cz7)).symm) (by omega) hM (lv_sub hl [4, 5, 6, 1, 0] rfl)
        refine lv_iload hx hb dX6_border_87 (lv_at hl 1 rfl) ?_
        refine lv_goto (tgt := 93) hx hb dX6_border_89 (by decide) ?_
        refine lv_istore_n (lv' := [(3, .int ((S (57 + 66 * i + (59 + k))) + (nI 1))), (6, .int ((S (57 + 66 * i + (59 + k))) + (nI 1))), (5, .int (S (57 + 66 * i + (52 + k)))), (0, .ref o), (1, .int (nI k)), (2, .int x), (4, .int (nI i))]) hx hb dX6_border_93 rfl hl (by decide) rfl (fun ls hl => ?_)
        refine lv_iinc (v := (nI (i + 1))) (lv' := [(4, .int (nI (i + 1))), (3, .int ((S (57 + 66 * i + (59 + k))) + (nI 1))), (6, .int ((S (57 + 66 * i + (59 + k))) + (nI 1))), (5, .int (S (57 + 66 * i + (52 + k)))), (0, .ref o), (1, .int (nI k)), (2, .int x)]) hx hb dX6_border_94 hl (k := 6) rfl (nI_add _ _) (by decide) rfl (fun ls hl => ?_)
        refine lv_goto (tgt := 6) hx hb dX6_border_97 (by decide) ?_
        exact ih (i + 1) _ _ _ ls (by omega) (((congrArg (fun z => borS x z (S (57 + 66 * i + (59 + k)) + nI 1)) (borS_1 (b := borL S k x i) cz4)).trans (borS_4 cz5 cz6 cz7)).symm) (by omega) hM (lv_sub hl [4, 5, 6, 1, 0] rfl)
      refine lv_iload_n hx hb dX6_border_50 rfl (lv_at hl 5 rfl) ?_
      refine lv_ldc (v := (-100005)) hx hb hown (hts (.constant RX6 28 (-100005)) (List.mem_of_getElem? (i := 1) rfl)) dX6_border_51 ?_
      refine lv_icmp_eq (tgt := 62) hx hb dX6_border_53 (by decide) (fun cz8 => ?_) (fun cz8 => ?_)
      · refine lv_iload hx hb dX6_border_62 (lv_at hl 1 rfl) ?_
        refine lv_goto (tgt := 68) hx hb dX6_border_64 (by decide) ?_
        refine lv_istore_n (lv' := [(3, .int (S (57 + 66 * i + (52 + k)))), (6, .int ((S (57 + 66 * i + (59 + k))) + (nI 1))), (5, .int (S (57 + 66 * i + (52 + k)))), (0, .ref o), (1, .int (nI k)), (2, .int x), (4, .int (nI i))]) hx hb dX6_border_68 rfl hl (by decide) rfl (fun ls hl => ?_)
        refine lv_iload hx hb dX6_border_69 (lv_at hl 1 rfl) ?_
        refine lv_iload_n hx hb dX6_border_71 rfl (lv_at hl 5 rfl) ?_
        refine lv_icmp_le (tgt := 92) hx hb dX6_border_72 (by decide) (fun cz9 => ?_) (fun cz9 => ?_)
        · refine lv_iload_n hx hb dX6_border_92 rfl (lv_at hl 0 rfl) ?_
          refine lv_istore_n (lv' := [(3, .int (S (57 + 66 * i + (52 + k)))), (6, .int ((S (57 + 66 * i + (59 + k))) + (nI 1))), (5, .int (S (57 + 66 * i + (52 + k)))), (0, .ref o), (1, .int (nI k)), (2, .int x), (4, .int (nI i))]) hx hb dX6_border_93 rfl hl (by decide) rfl (fun ls hl => ?_)
          refine lv_iinc (v := (nI (i + 1))) (lv' := [(4, .int (nI (i + 1))), (3, .int (S (57 + 66 * i + (52 + k)))), (6, .int ((S (57 + 66 * i + (59 + k))) + (nI 1))), (5, .int (S (57 + 66 * i + (52 + k)))), (0, .ref o), (1, .int (nI k)), (2, .int x)]) hx hb dX6_border_94 hl (k := 6) rfl (nI_add _ _) (by decide) rfl (fun ls hl => ?_)
          refine lv_goto (tgt := 6) hx hb dX6_border_97 (by decide) ?_
          exact ih (i + 1) _ _ _ ls (by omega) (((congrArg (fun z => borS x z (S (57 + 66 * i + (59 + k)) + nI 1)) (borS_2 cz4 cz8)).trans (borS_1 cz9)).symm) (by omega) hM (lv_sub hl [4, 5, 6, 1, 0] rfl)
        refine lv_iload_n hx hb dX6_border_75 rfl (lv_at hl 0 rfl) ?_
        refine lv_ldc (v := (-100005)) hx hb hown (hts (.constant RX6 28 (-100005)) (List.mem_of_getElem? (i := 1) rfl)) dX6_border_76 ?_
        refine lv_icmp_eq (tgt := 87) hx hb dX6_border_78 (by decide) (fun cz10 => ?_) (fun cz10 => ?_)
        · refine lv_iload hx hb dX6_border_87 (lv_at hl 1 rfl) ?_
          refine lv_goto (tgt := 93) hx hb dX6_border_89 (by decide) ?_
          refine lv_istore_n (lv' := [(3, .int ((S (57 + 66 * i + (59 + k))) + (nI 1))), (6, .int ((S (57 + 66 * i + (59 + k))) + (nI 1))), (5, .int (S (57 + 66 * i + (52 + k)))), (0, .ref o), (1, .int (nI k)), (2, .int x), (4, .int (nI i))]) hx hb dX6_border_93 rfl hl (by decide) rfl (fun ls hl => ?_)
          refine lv_iinc (v := (nI (i + 1))) (lv' := [(4, .int (nI (i + 1))), (3, .int ((S (57 + 66 * i + (59 + k))) + (nI 1))), (6, .int ((S (57 + 66 * i + (59 + k))) + (nI 1))), (5, .int (S (57 + 66 * i + (52 + k)))), (0, .ref o), (1, .int (nI k)), (2, .int x)]) hx hb dX6_border_94 hl (k := 6) rfl (nI_add _ _) (by decide) rfl (fun ls hl => ?_)
          refine lv_goto (tgt := 6) hx hb dX6_border_97 (by decide) ?_
          exact ih (i + 1) _ _ _ ls (by omega) (((congrArg (fun z => borS x z (S (57 + 66 * i + (59 + k)) + nI 1)) (borS_2 cz4 cz8)).trans (borS_2 cz9 cz10)).symm) (by omega) hM (lv_sub hl [4, 5, 6, 1, 0] rfl)
        refine lv_iload hx hb dX6_border_81 (lv_at hl 1 rfl) ?_
        refine lv_iload_n hx hb dX6_border_83 rfl (lv_at hl 0 rfl) ?_
        refine lv_icmp_ge (tgt := 92) hx hb dX6_border_84 (by decide) (fun cz11 => ?_) (fun cz11 => ?_)
        · refine lv_iload_n hx hb dX6_border_92 rfl (lv_at hl 0 rfl) ?_
          refine lv_istore_n (lv' := [(3, .int (S (57 + 66 * i + (52 + k)))), (6, .int ((S (57 + 66 * i + (59 + k))) + (nI 1))), (5, .int (S (57 + 66 * i + (52 + k)))), (0, .ref o), (1, .int (nI k)), (2, .int x), (4, .int (nI i))]) hx hb dX6_border_93 rfl hl (by decide) rfl (fun ls hl => ?_)
          refine lv_iinc (v := (nI (i + 1))) (lv' := [(4, .int (nI (i + 1))), (3, .int (S (57 + 66 * i + (52 + k)))), (6, .int ((S (57 + 66 * i + (59 + k))) + (nI 1))), (5, .int (S (57 + 66 * i + (52 + k)))), (0, .ref o), (1, .int (nI k)), (2, .int x)]) hx hb dX6_border_94 hl (k := 6) rfl (nI_add _ _) (by decide) rfl (fun ls hl => ?_)
          refine lv_goto (tgt := 6) hx hb dX6_border_97 (by decide) ?_
          exact ih (i + 1) _ _ _ ls (by omega) (((congrArg (fun z => borS x z (S (57 + 66 * i + (59 + k)) + nI 1)) (borS_2 cz4 cz8)).trans (borS_3 cz9 cz10 cz11)).symm) (by omega) hM (lv_sub hl [4, 5, 6, 1, 0] rfl)
        refine lv_iload hx hb dX6_border_87 (lv_at hl 1 rfl) ?_
        refine lv_goto (tgt := 93) hx hb dX6_border_89 (by decide) ?_
        refine lv_istore_n (lv' := [(3, .int ((S (57 + 66 * i + (59 + k))) + (nI 1))), (6, .int ((S (57 + 66 * i + (59 + k))) + (nI 1))), (5, .int (S (57 + 66 * i + (52 + k)))), (0, .ref o), (1, .int (nI k)), (2, .int x), (4, .int (nI i))]) hx hb dX6_border_93 rfl hl (by decide) rfl (fun ls hl => ?_)
        refine lv_iinc (v := (nI (i + 1))) (lv' := [(4, .int (nI (i + 1))), (3, .int ((S (57 + 66 * i + (59 + k))) + (nI 1))), (6, .int ((S (57 + 66 * i + (59 + k))) + (nI 1))), (5, .int (S (57 + 66 * i + (52 + k)))), (0, .ref o), (1, .int (nI k)), (2, .int x)]) hx hb dX6_border_94 hl (k := 6) rfl (nI_add _ _) (by decide) rfl (fun ls hl => ?_)
        refine lv_goto (tgt := 6) hx hb dX6_border_97 (by decide) ?_
        exact ih (i + 1) _ _ _ ls (by omega) (((congrArg (fun z => borS x z (S (57 + 66 * i + (59 + k)) + nI 1)) (borS_2 cz4 cz8)).trans (borS_4 cz9 cz10 cz11)).symm) (by omega) hM (lv_sub hl [4, 5, 6, 1, 0] rfl)
      refine lv_iload hx hb dX6_border_56 (lv_at hl 1 rfl) ?_
      refine lv_iload_n hx hb dX6_border_58 rfl (lv_at hl 5 rfl) ?_
      refine lv_icmp_ge (tgt := 67) hx hb dX6_border_59 (by decide) (fun cz12 => ?_) (fun cz12 => ?_)
      · refine lv_iload_n hx hb dX6_border_67 rfl (lv_at hl 5 rfl) ?_
        refine lv_istore_n (lv' := [(3, .int (borL S k x i)), (6, .int ((S (57 + 66 * i + (59 + k))) + (nI 1))), (5, .int (S (57 + 66 * i + (52 + k)))), (0, .ref o), (1, .int (nI k)), (2, .int x), (4, .int (nI i))]) hx hb dX6_border_68 rfl hl (by decide) rfl (fun ls hl => ?_)
        refine lv_iload hx hb dX6_border_69 (lv_at hl 1 rfl) ?_
        refine lv_iload_n hx hb dX6_border_71 rfl (lv_at hl 5 rfl) ?_
        refine lv_icmp_le (tgt := 92) hx hb dX6_border_72 (by decide) (fun cz13 => ?_) (fun cz13 => ?_)
        · refine lv_iload_n hx hb dX6_border_92 rfl (lv_at hl 0 rfl) ?_
          refine lv_istore_n (lv' := [(3, .int (borL S k x i)), (6, .int ((S (57 + 66 * i + (59 + k))) + (nI 1))), (5, .int (S (57 + 66 * i + (52 + k)))), (0, .ref o), (1, .int (nI k)), (2, .int x), (4, .int (nI i))]) hx hb dX6_border_93 rfl hl (by decide) rfl (fun ls hl => ?_)
          refine lv_iinc (v := (nI (i + 1))) (lv' := [(4, .int (nI (i + 1))), (3, .int (borL S k x i)), (6, .int ((S (57 + 66 * i + (59 + k))) + (nI 1))), (5, .int (S (57 + 66 * i + (52 + k)))), (0, .ref o), (1, .int (nI k)), (2, .int x)]) hx hb dX6_border_94 hl (k := 6) rfl (nI_add _ _) (by decide) rfl (fun ls hl => ?_)
          refine lv_goto (tgt := 6) hx hb dX6_border_97 (by decide) ?_
          exact ih (i + 1) _ _ _ ls (by omega) (((congrArg (fun z => borS x z (S (57 + 66 * i + (59 + k)) + nI 1)) (borS_3 cz4 cz8 cz12)).trans (borS_1 cz13)).symm) (by omega) hM (lv_sub hl [4, 5, 6, 1, 0] rfl)
        refine lv_iload_n hx hb dX6_border_75 rfl (lv_at hl 0 rfl) ?_
        refine lv_ldc (v := (-100005)) hx hb hown (hts (.constant RX6 28 (-100005)) (List.mem_of_getElem? (i := 1) rfl)) dX6_border_76 ?_
        refine lv_icmp_eq (tgt := 87) hx hb dX6_border_78 (by decide) (fun cz14 => ?_) (fun cz14 => ?_)
        · refine lv_iload hx hb dX6_border_87 (lv_at hl 1 rfl) ?_
          refine lv_goto (tgt := 93) hx hb dX6_border_89 (by decide) ?_
          refine lv_istore_n (lv' := [(3, .int ((S (57 + 66 * i + (59 + k))) + (nI 1))), (6, .int ((S (57 + 66 * i + (59 + k))) + (nI 1))), (5, .int (S (57 + 66 * i + (52 + k)))), (0, .ref o), (1, .int (nI k)), (2, .int x), (4, .int (nI i))]) hx hb dX6_border_93 rfl hl (by decide) rfl (fun ls hl => ?_)
          refine lv_iinc (v := (nI (i + 1))) (lv' := [(4, .int (nI (i + 1))), (3, .int ((S (57 + 66 * i + (59 + k))) + (nI 1))), (6, .int ((S (57 + 66 * i + (59 + k))) + (nI 1))), (5, .int (S (57 + 66 * i + (52 + k)))), (0, .ref o), (1, .int (nI k)), (2, .int x)]) hx hb dX6_border_94 hl (k := 6) rfl (nI_add _ _) (by decide) rfl (fun ls hl => ?_)
          refine lv_goto (tgt := 6) hx hb dX6_border_97 (by decide) ?_
          exact ih (i + 1) _ _ _ ls (by omega) (((congrArg (fun z => borS x z (S (57 + 66 * i + (59 + k)) + nI 1)) (borS_3 cz4 cz8 cz12)).trans (borS_2 cz13 cz14)).symm) (by omega) hM (lv_sub hl [4, 5, 6, 1, 0] rfl)
        refine lv_iload hx hb dX6_border_81 (lv_at hl 1 rfl) ?_
        refine lv_iload_n hx hb dX6_border_83 rfl (lv_at hl 0 rfl) ?_
        refine lv_icmp_ge (tgt := 92) hx hb dX6_border_84 (by decide) (fun cz15 => ?_) (fun cz15 => ?_)
        · refine lv_iload_n hx hb dX6_border_92 rfl (lv_at hl 0 rfl) ?_
          refine lv_istore_n (lv' := [(3, .int (borL S k x i)), (6, .int ((S (57 + 66 * i + (59 + k))) + (nI 1))), (5, .int (S (57 + 66 * i + (52 + k)))), (0, .ref o), (1, .int (nI k)), (2, .int x), (4, .int (nI i))]) hx hb dX6_border_93 rfl hl (by decide) rfl (fun ls hl => ?_)
          refine lv_iinc (v := (nI (i + 1))) (lv' := [(4, .int (nI (i + 1))), (3, .int (borL S k x i)), (6, .int ((S (57 + 66 * i + (59 + k))) + (nI 1))), (5, .int (S (57 + 66 * i + (52 + k)))), (0, .ref o), (1, .int (nI k)), (2, .int x)]) hx hb dX6_border_94 hl (k := 6) rfl (nI_add _ _) (by decide) rfl (fun ls hl => ?_)
          refine lv_goto (tgt := 6) hx hb dX6_border_97 (by decide) ?_
          exact ih (i + 1) _ _ _ ls (by omega) (((congrArg (fun z => borS x z (S (57 + 66 * i + (59 + k)) + nI 1)) (borS_3 cz4 cz8 cz12)).trans (borS_3 cz13 cz14 cz15)).symm) (by omega) hM (lv_sub hl [4, 5, 6, 1, 0] rfl)
        refine lv_iload hx hb dX6_border_87 (lv_at hl 1 rfl) ?_
        refine lv_goto (tgt := 93) hx hb dX6_border_89 (by decide) ?_
        refine lv_istore_n (lv' := [(3, .int ((S (57 + 66 * i + (59 + k))) + (nI 1))), (6, .int ((S (57 + 66 * i + (59 + k))) + (nI 1))), (5, .int (S (57 + 66 * i + (52 + k)))), (0, .ref o), (1, .int (nI k)), (2, .int x), (4, .int (nI i))]) hx hb dX6_border_93 rfl hl (by decide) rfl (fun ls hl => ?_)
        refine lv_iinc (v := (nI (i + 1))) (lv' := [(4, .int (nI (i + 1))), (3, .int ((S (57 + 66 * i + (59 + k))) + (nI 1))), (6, .int ((S (57 + 66 * i + (59 + k))) + (nI 1))), (5, .int (S (57 + 66 * i + (52 + k)))), (0, .ref o), (1, .int (nI k)), (2, .int x)]) hx hb dX6_border_94 hl (k := 6) rfl (nI_add _ _) (by decide) rfl (fun ls hl => ?_)
        refine lv_goto (tgt := 6) hx hb dX6_border_97 (by decide) ?_
        exact ih (i + 1) _ _ _ ls (by omega) (((congrArg (fun z => borS x z (S (57 + 66 * i + (59 + k)) + nI 1)) (borS_3 cz4 cz8 cz12)).trans (borS_4 cz13 cz14 cz15)).symm) (by omega) hM (lv_sub hl [4, 5, 6, 1, 0] rfl)
      refine lv_iload hx hb dX6_border_62 (lv_at hl 1 rfl) ?_
      refine lv_goto (tgt := 68) hx hb dX6_border_64 (by decide) ?_
      refine lv_istore_n (lv' := [(3, .int (S (57 + 66 * i + (52 + k)))), (6, .int ((S (57 + 66 * i + (59 + k))) + (nI 1))), (5, .int (S (57 + 66 * i + (52 + k)))), (0, .ref o), (1, .int (nI k)), (2, .int x), (4, .int (nI i))]) hx hb dX6_border_68 rfl hl (by decide) rfl (fun ls hl => ?_)
      refine lv_iload hx hb dX6_border_69 (lv_at hl 1 rfl) ?_
      refine lv_iload_n hx hb dX6_border_71 rfl (lv_at hl 5 rfl) ?_
      refine lv_icmp_le (tgt := 92) hx hb dX6_border_72 (by decide) (fun cz16 => ?_) (fun cz16 => ?_)
      · refine lv_iload_n hx hb dX6_border_92 rfl (lv_at hl 0 rfl) ?_
        refine lv_istore_n (lv' := [(3, .int (S (57 + 66 * i + (52 + k)))), (6, .int ((S (57 + 66 * i + (59 + k))) + (nI 1))), (5, .int (S (57 + 66 * i + (52 + k)))), (0, .ref o), (1, .int (nI k)), (2, .int x), (4, .int (nI i))]) hx hb dX6_border_93 rfl hl (by decide) rfl (fun ls hl => ?_)
        refine lv_iinc (v := (nI (i + 1))) (lv' := [(4, .int (nI (i + 1))), (3, .int (S (57 + 66 * i + (52 + k)))), (6, .int ((S (57 + 66 * i + (59 + k))) + (nI 1))), (5, .int (S (57 + 66 * i + (52 + k)))), (0, .ref o), (1, .int (nI k)), (2, .int x)]) hx hb dX6_border_94 hl (k := 6) rfl (nI_add _ _) (by decide) rfl (fun ls hl => ?_)
        refine lv_goto (tgt := 6) hx hb dX6_border_97 (by decide) ?_
        exact ih (i + 1) _ _ _ ls (by omega) (((congrArg (fun z => borS x z (S (57 + 66 * i + (59 + k)) + nI 1)) (borS_4 cz4 cz8 cz12)).trans (borS_1 cz16)).symm) (by omega) hM (lv_sub hl [4, 5, 6, 1, 0] rfl)
      refine lv_iload_n hx hb dX6_border_75 rfl (lv_at hl 0 rfl) ?_
      refine lv_ldc (v := (-100005)) hx hb hown (hts (.constant RX6 28 (-100005)) (List.mem_of_getElem? (i := 1) rfl)) dX6_border_76 ?_
      refine lv_icmp_eq (tgt := 87) hx hb dX6_border_78 (by decide) (fun cz17 => ?_) (fun cz17 => ?_)
      · refine lv_iload hx hb dX6_border_87 (lv_at hl 1 rfl) ?_
        refine lv_goto (tgt := 93) hx hb dX6_border_89 (by decide) ?_
        refine lv_istore_n (lv' := [(3, .int ((S (57 + 66 * i + (59 + k))) + (nI 1))), (6, .int ((S (57 + 66 * i + (59 + k))) + (nI 1))), (5, .int (S (57 + 66 * i + (52 + k)))), (0, .ref o), (1, .int (nI k)), (2, .int x), (4, .int (nI i))]) hx hb dX6_border_93 rfl hl (by decide) rfl (fun ls hl => ?_)
        refine lv_iinc (v := (nI (i + 1))) (lv' := [(4, .int (nI (i + 1))), (3, .int ((S (57 + 66 * i + (59 + k))) + (nI 1))), (6, .int ((S (57 + 66 * i + (59 + k))) + (nI 1))), (5, .int (S (57 + 66 * i + (52 + k)))), (0, .ref o), (1, .int (nI k)), (2, .int x)]) hx hb dX6_border_94 hl (k := 6) rfl (nI_add _ _) (by decide) rfl (fun ls hl => ?_)
        refine lv_goto (tgt := 6) hx hb dX6_border_97 (by decide) ?_
        exact ih (i + 1) _ _ _ ls (by omega) (((congrArg (fun z => borS x z (S (57 + 66 * i + (59 + k)) + nI 1)) (borS_4 cz4 cz8 cz12)).trans (borS_2 cz16 cz17)).symm) (by omega) hM (lv_sub hl [4, 5, 6, 1, 0] rfl)
      refine lv_iload hx hb dX6_border_81 (lv_at hl 1 rfl) ?_
      refine lv_iload_n hx hb dX6_border_83 rfl (lv_at hl 0 rfl) ?_
      refine lv_icmp_ge (tgt := 92) hx hb dX6_border_84 (by decide) (fun cz18 => ?_) (fun cz18 => ?_)
      · refine lv_iload_n hx hb dX6_border_92 rfl (lv_at hl 0 rfl) ?_
        refine lv_istore_n (lv' := [(3, .int (S (57 + 66 * i + (52 + k)))), (6, .int ((S (57 + 66 * i + (59 + k))) + (nI 1))), (5, .int (S (57 + 66 * i + (52 + k)))), (0, .ref o), (1, .int (nI k)), (2, .int x), (4, .int (nI i))]) hx hb dX6_border_93 rfl hl (by decide) rfl (fun ls hl => ?_)
        refine lv_iinc (v := (nI (i + 1))) (lv' := [(4, .int (nI (i + 1))), (3, .int (S (57 + 66 * i + (52 + k)))), (6, .int ((S (57 + 66 * i + (59 + k))) + (nI 1))), (5, .int (S (57 + 66 * i + (52 + k)))), (0, .ref o), (1, .int (nI k)), (2, .int x)]) hx hb dX6_border_94 hl (k := 6) rfl (nI_add _ _) (by decide) rfl (fun ls hl => ?_)
        refine lv_goto (tgt := 6) hx hb dX6_border_97 (by decide) ?_
        exact ih (i + 1) _ _ _ ls (by omega) (((congrArg (fun z => borS x z (S (57 + 66 * i + (59 + k)) + nI 1)) (borS_4 cz4 cz8 cz12)).trans (borS_3 cz16 cz17 cz18)).symm) (by omega) hM (lv_sub hl [4, 5, 6, 1, 0] rfl)
      refine lv_iload hx hb dX6_border_87 (lv_at hl 1 rfl) ?_
      refine lv_goto (tgt := 93) hx hb dX6_border_89 (by decide) ?_
      refine lv_istore_n (lv' := [(3, .int ((S (57 + 66 * i + (59 + k))) + (nI 1))), (6, .int ((S (57 + 66 * i + (59 + k))) + (nI 1))), (5, .int (S (57 + 66 * i + (52 + k)))), (0, .ref o), (1, .int (nI k)), (2, .int x), (4, .int (nI i))]) hx hb dX6_border_93 rfl hl (by decide) rfl (fun ls hl => ?_)
      refine lv_iinc (v := (nI (i + 1))) (lv' := [(4, .int (nI (i + 1))), (3, .int ((S (57 + 66 * i + (59 + k))) + (nI 1))), (6, .int ((S (57 + 66 * i + (59 + k))) + (nI 1))), (5, .int (S (57 + 66 * i + (52 + k)))), (0, .ref o), (1, .int (nI k)), (2, .int x)]) hx hb dX6_border_94 hl (k := 6) rfl (nI_add _ _) (by decide) rfl (fun ls hl => ?_)
      refine lv_goto (tgt := 6) hx hb dX6_border_97 (by decide) ?_
      exact ih (i + 1) _ _ _ ls (by omega) (((congrArg (fun z => borS x z (S (57 + 66 * i + (59 + k)) + nI 1)) (borS_4 cz4 cz8 cz12)).trans (borS_4 cz16 cz17 cz18)).symm) (by omega) hM (lv_sub hl [4, 5, 6, 1, 0] rfl)
  exact loopZ (n + 1) 0 _ _ _ ls (Nat.zero_le _) rfl (by omega) hM (lv_sub hl [2, 3, 4, 1, 0] rfl)
set_option maxHeartbeats 4000000 in
set_option maxRecDepth 100000 in
theorem c6_matters (l : Launch) (G : mG) {f : mE} {o : Nat} {a : Nat → Nat} {S P lo hi ou : Nat → Int32} {rc isr wd us ab gi wr wo : Int32} (hI : RI G f o a S P lo hi ou rc isr wd us ab gi wr wo) {n : Nat} (hn : S 56 = nI n) (hn16 : n ≤ 16) (hwo : wo = -100005) (k : Int32) : mC l G yX6_matters wsX6_matters ({ frames := 5, cells := 0, slots := 0, locals := 115 } : Room) f [.ref o, .int k] (fun v f1 => v = some (.int (tolI S k (fun j => matI S n j))) ∧ RI G f1 o a S P lo hi ou rc isr wd us ab gi wr wo) 0 0 := by
  refine mC.of (cc := cX6_matters) (maxL := 5) (ret := (some .int)) (by decide) rfl (Nat.le_of_ble_eq_true rfl) ?_
  intro pgm env s mt args below meth c A ls hx hb hml hr hlocks hown hname hts hK hE hA hM hl
  have hl : lv_has ls 5 [(0, .ref o), (1, .int k)] := hl
  refine lv_aload_n hx hb dX6_matters_0 rfl (lv_at hl 0 rfl) ?_
  refine lv_iload_n hx hb dX6_matters_1 rfl (lv_at hl 1 rfl) ?_
  refine mm_V (As := [.int k]) (rest := []) ⟨hx, hb, hml, hown, hts⟩ (c6_isSentence l G hI k) (cwV 1 hts gX6_matters_X6_isSentence rfl rfl rfl (by decide +kernel) ⟨Nat.le_of_ble_eq_true rfl, Nat.le_of_ble_eq_true rfl⟩) hK hE hA hM (mm_recv hK hM (hI.obj) (q := (RX6, TX6, 14)) rfl) rfl hl.1 rfl (Nat.le_of_ble_eq_true rfl) dX6_matters_2 ⟨Nat.le_of_ble_eq_true rfl, Nat.le_of_ble_eq_true rfl⟩ (fun v f1 Hp lcs hp hM => ?_)
  obtain ⟨rfl, hf⟩ := hp; subst hf
  refine lvb_ne (tgt := 11) hx hb dX6_matters_5 (by decide) (fun cz1 => ?_) (fun cz1 => ?_)
  · obtain ⟨j, jN, rfl⟩ := isS_nat hn hn16 cz1
    refine lv_aload_n hx hb dX6_matters_11 rfl (lv_at hl 0 rfl) ?_
    refine lv_iload_n hx hb dX6_matters_12 rfl (lv_at hl 1 rfl) ?_
    refine lv_bipush (v := (nI 49)) hx hb dX6_matters_13 (by decide +kernel) ?_
    refine mm_V (As := [.int (nI j), .int (nI 49)]) (rest := []) ⟨hx, hb, hml, hown, hts⟩ (c6_of l G hI j 49 (by omega)) (cwV 2 hts gX6_matters_X6_of rfl rfl rfl (by decide +kernel) ⟨Nat.le_of_ble_eq_true rfl, Nat.le_of_ble_eq_true rfl⟩) hK hE hA hM (mm_recv hK hM (hI.obj) (q := (RX6, TX6, 14)) rfl) rfl hl.1 rfl (Nat.le_of_ble_eq_true rfl) dX6_matters_15 ⟨Nat.le_of_ble_eq_true rfl, Nat.le_of_ble_eq_true rfl⟩ (fun v f1 Hp lcs hp hM => ?_)
    obtain ⟨rfl, hf⟩ := hp; subst hf
    refine lv_istore_n (lv' := [(2, .int (S (57 + 66 * j + 49))), (0, .ref o), (1, .int (nI j))]) hx hb dX6_matters_18 rfl hl (by decide) rfl (fun ls hl => ?_)
    refine lv_iload_n hx hb dX6_matters_19 rfl (lv_at hl 0 rfl) ?_
    refine lv_bipush (v := (nI 10)) hx hb dX6_matters_20 (by decide +kernel) ?_
    refine lv_icmp_lt (tgt := 27) hx hb dX6_matters_22 (by decide) (fun cz2 => ?_) (fun cz2 => ?_)
    · refine lv_aload_n hx hb dX6_matters_27 rfl (lv_at hl 1 rfl) ?_
      refine lv_iload_n hx hb dX6_matters_28 rfl (lv_at hl 0 rfl) ?_
      refine mm_V (As := [.int (S (57 + 66 * j + 49))]) (rest := []) ⟨hx, hb, hml, hown, hts⟩ (c6_answerNow l G hI hn hn16 (S (57 + 66 * j + 49))) (cwV 1 hts gX6_matters_X6_answerNow rfl rfl rfl (by decide +kernel) ⟨Nat.le_of_ble_eq_true rfl, Nat.le_of_ble_eq_true rfl⟩) hK hE hA hM (mm_recv hK hM (hI.obj) (q := (RX6, TX6, 14)) rfl) rfl hl.1 rfl (Nat.le_of_ble_eq_true rfl) dX6_matters_29 ⟨Nat.le_of_ble_eq_true rfl, Nat.le_of_ble_eq_true rfl⟩ (fun v f1 Hp lcs hp hM => ?_)
      obtain ⟨rfl, hf⟩ := hp; subst hf
      refine lv_istore_n (lv' := [(3, .int (ansI S wo n (S (57 + 66 * j + 49)))), (2, .int (S (57 + 66 * j + 49))), (0, .ref o), (1, .int (nI j))]) hx hb dX6_matters_32 rfl hl (by decide) rfl (fun ls hl => ?_)
      refine lv_aload_n hx hb dX6_matters_33 rfl (lv_at hl 2 rfl) ?_
      refine lv_iload_n hx hb dX6_matters_34 rfl (lv_at hl 3 rfl) ?_
      refine mm_put (C := RX6) (T := TX6) (N := 14) (k := 13) hx hb hts (fun _ h => List.mem_cons_of_mem _ (List.mem_append_right _ h)) tyX6 tyX6_ok nmX6 hown hK hM (hI.obj) rfl (by decide) (hts (.fieldLink RX6 29 "SentenceRulesModel" "without" "I") (List.mem_of_getElem? (i := 2) rfl)) rfl rfl rfl rfl (Nat.le_of_ble_eq_true rfl) dX6_matters_35 (fun Hp lcs hM => ?_)
      have hI := hI.setObj rc isr wd us ab gi wr (nI j)
      refine lv_aload_n hx hb dX6_matters_38 rfl (lv_at hl 2 rfl) ?_
      refine lv_iload_n hx hb dX6_matters_39 rfl (lv_at hl 1 rfl) ?_
      refine mm_V (As := [.int (S (57 + 66 * j + 49))]) (rest := []) ⟨hx, hb, hml, hown, hts⟩ (c6_answerNow l G hI hn hn16 (S (57 + 66 * j + 49))) (cwV 1 hts gX6_matters_X6_answerNow rfl rfl rfl (by decide +kernel) ⟨Nat.le_of_ble_eq_true rfl, Nat.le_of_ble_eq_true rfl⟩) hK hE hA hM (mm_recv hK hM (hI.obj) (q := (RX6, TX6, 14)) rfl) rfl hl.1 rfl (Nat.le_of_ble_eq_true rfl) dX6_matters_40 ⟨Nat.le_of_ble_eq_true rfl, Nat.le_of_ble_eq_true rfl⟩ (fun v f1 Hp lcs hp hM => ?_)
      obtain ⟨rfl, hf⟩ := hp; subst hf
      refine lv_istore (lv' := [(4, .int (ansI S (nI j) n (S (57 + 66 * j + 49)))), (3, .int (ansI S wo n (S (57 + 66 * j + 49)))), (2, .int (S (57 + 66 * j + 49))), (0, .ref o), (1, .int (nI j))]) hx hb dX6_matters_43 hl (by decide) rfl (fun ls hl => ?_)
      refine lv_aload_n hx hb dX6_matters_45 rfl (lv_at hl 3 rfl) ?_
      refine lv_ldc (v := (-100005)) hx hb hown (hts (.constant RX6 28 (-100005)) (List.mem_of_getElem? (i := 3) rfl)) dX6_matters_46 ?_
      refine mm_put (C := RX6) (T := TX6) (N := 14) (k := 13) hx hb hts (fun _ h => List.mem_cons_of_mem _ (List.mem_append_right _ h)) tyX6 tyX6_ok nmX6 hown hK hM (hI.obj) rfl (by decide) (hts (.fieldLink RX6 29 "SentenceRulesModel" "without" "I") (List.mem_of_getElem? (i := 2) rfl)) rfl rfl rfl rfl (Nat.le_of_ble_eq_true rfl) dX6_matters_48 (fun Hp lcs hM => ?_)
      have hI := hI.setObj rc isr wd us ab gi wr (-100005)
      refine lv_iload_n hx hb dX6_matters_51 rfl (lv_at hl 1 rfl) ?_
      refine lv_iload hx hb dX6_matters_52 (lv_at hl 0 rfl) ?_
      refine lv_icmp_ne (tgt := 61) hx hb dX6_matters_54 (by decide) (fun cz3 => ?_) (fun cz3 => ?_)
      · refine lv_iconst (v := (nI 1)) hx hb dX6_matters_61 (by decide +kernel) ?_
        exact mm_iret hx hb hlocks hr (Nat.le_of_ble_eq_true rfl) (Nat.le_of_ble_eq_true rfl) hM (⟨congrArg (fun z => some (Value.int z)) (tol_at hn hn16 jN (by rw [matI, if_neg (Decidable.not_not.mpr cz2), ← hwo]; exact (if_neg cz3).symm)), hI.cW hwo.symm⟩) dX6_matters_62
      refine lv_iconst (v := (nI 0)) hx hb dX6_matters_57 (by decide +kernel) ?_
      refine lv_goto (tgt := 62) hx hb dX6_matters_58 (by decide) ?_
      exact mm_iret hx hb hlocks hr (Nat.le_of_ble_eq_true rfl) (Nat.le_of_ble_eq_true rfl) hM (⟨congrArg (fun z => some (Value.int z)) (tol_at hn hn16 jN (by rw [matI, if_neg (Decidable.not_not.mpr cz2), ← hwo]; exact (if_pos cz3).symm)), hI.cW hwo.symm⟩) dX6_matters_62
    refine lv_iconst (v := (nI 0)) hx hb dX6_matters_25 (by decide +kernel) ?_
    exact mm_iret hx hb hlocks hr (Nat.le_of_ble_eq_true rfl) (Nat.le_of_ble_eq_true rfl) hM (⟨congrArg (fun z => some (Value.int z)) (tol_at hn hn16 jN ((if_pos cz2).symm)), hI⟩) dX6_matters_26
  refine lv_ldc (v := (-100001)) hx hb hown (hts (.constant RX6 145 (-100001)) (List.mem_of_getElem? (i := 1) rfl)) dX6_matters_8 ?_
  exact mm_iret hx hb hlocks hr (Nat.le_of_ble_eq_true rfl) (Nat.le_of_ble_eq_true rfl) hM (⟨by rw [← tol_no cz1], hI⟩) dX6_matters_10
