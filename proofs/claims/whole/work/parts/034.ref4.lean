/-! THE REFERENCE: what is told, meetings, contradictions -/
def tolI (S : Nat → Int32) (k : Int32) (g : Nat → Int32) : Int32 := if inB k 0 (S 56 - 1) = true then g k.toNatClampNeg else -100001
theorem inB_nat {k : Int32} {K : Nat} (hK : K < 2 ^ 31) (h : inB k 0 (nI K) = true) : ∃ i, i ≤ K ∧ k = nI i := by
  rw [inB, Bool.and_eq_true, decide_eq_true_eq, decide_eq_true_eq] at h
  exact nI_of2 (nI_toInt hK) (Int32.not_lt.mpr h.1) h.2
theorem isS_nat {S : Nat → Int32} {k : Int32} {n : Nat} (hn : S 56 = nI n) (hn16 : n ≤ 16) (h : inB k 0 (S 56 - 1) = true) : ∃ j, j < n ∧ k = nI j := by
  rw [hn] at h
  cases n with
  | zero =>
    rw [inB, Bool.and_eq_true, decide_eq_true_eq, decide_eq_true_eq] at h
    have h1 := Int32.le_iff_toInt_le.mp h.1
    have h2 := Int32.le_iff_toInt_le.mp h.2
    have e1 : (nI 0 - 1 : Int32).toInt = -1 := by decide
    rw [e1] at h2
    rw [Int32.toInt_zero] at h1
    omega
  | succ m =>
    rw [nI_pred m] at h
    obtain ⟨i, hi, e⟩ := inB_nat (by omega) h
    exact ⟨i, by omega, e⟩
theorem tol_no {S : Nat → Int32} {k : Int32} {g : Nat → Int32} (h : inB k 0 (S 56 - 1) = false) : (-100001) = tolI S k g := by
  rw [tolI, if_neg (by rw [h]; decide)]
theorem isS_t {S : Nat → Int32} {n j : Nat} (hn : S 56 = nI n) (hn16 : n ≤ 16) (hj : j < n) : inB (nI j) 0 (S 56 - 1) = true := by
  rw [hn]
  cases n with
  | zero => omega
  | succ m =>
    rw [nI_pred m, show (0 : Int32) = nI 0 from rfl, inB_nI (by omega) (by omega) (by omega)]
    simp; omega
theorem tol_at {S : Nat → Int32} {n j : Nat} {x : Int32} {g : Nat → Int32} (hn : S 56 = nI n) (hn16 : n ≤ 16) (hj : j < n) (e : x = g j) : x = tolI S (nI j) g := by
  rw [tolI, if_pos (isS_t hn hn16 hj), nI_clamp (by omega)]; exact e
def metLo (S : Nat → Int32) (x y i : Nat) : Int32 := if S (57 + 66 * y + (52 + i)) < S (57 + 66 * x + (52 + i)) then S (57 + 66 * x + (52 + i)) else S (57 + 66 * y + (52 + i))
def metHi (S : Nat → Int32) (x y i : Nat) : Int32 := if S (57 + 66 * x + (59 + i)) < S (57 + 66 * y + (59 + i)) then S (57 + 66 * x + (59 + i)) else S (57 + 66 * y + (59 + i))
def meeQ (S : Nat → Int32) (x y i : Nat) : Bool := !decide (metHi S x y i < metLo S x y i)
def hrgQ (S lo hi : Nat → Int32) (k i : Nat) : Bool := decide (S (57 + 66 * k + (52 + i)) = lo i) && decide (S (57 + 66 * k + (59 + i)) = hi i)
theorem hrg_fil (S g g2 lo hi : Nat → Int32) (k : Nat) : allN (hrgQ S (filN g lo 7) (filN g2 hi 7) k) 7 = allN (hrgQ S g g2 k) 7 :=
  allN_cong (fun i hi => by simp [hrgQ, filN, hi])
def ctdQ (S : Nat → Int32) (x y k : Nat) : Bool := decide (S (57 + 66 * k + 49) = S (57 + 66 * x + 49)) && allN (hrgQ S (metLo S x y) (metHi S x y) k) 7
def ctdP (S : Nat → Int32) (x y : Nat) : Bool := !decide (nI 10 ≤ S (57 + 66 * x + 49)) && (decide (S (57 + 66 * y + 49) = S (57 + 66 * x + 49)) && (!decide (S (57 + 66 * x + 50) = S (57 + 66 * y + 50)) && (!strB S x y && (!strB S y x && allN (meeQ S x y) 7))))
def ctdB (S : Nat → Int32) (n x y : Nat) : Bool := ctdP S x y && !exN (ctdQ S x y) n
theorem ctdB_t {S : Nat → Int32} {n x y : Nat} (h : ctdP S x y = true) (h2 : exN (ctdQ S x y) n = false) : ctdB S n x y = true := by rw [ctdB, h, h2]; rfl
theorem ctdB_f {S : Nat → Int32} {n x y : Nat} (h : ctdP S x y = false) : ctdB S n x y = false := by rw [ctdB, h]; rfl
theorem ctdB_x {S : Nat → Int32} {n x y : Nat} (h : exN (ctdQ S x y) n = true) : ctdB S n x y = false := by rw [ctdB, h]; simp
theorem exN_iff {q : Nat → Bool} : ∀ {n : Nat}, exN q n = true ↔ ∃ i, i < n ∧ q i = true
  | 0 => ⟨fun h => absurd (h : false = true) Bool.false_ne_true, fun ⟨i, h, _⟩ => absurd h (Nat.not_lt_zero i)⟩
  | n + 1 => by
    rw [exN, Bool.or_eq_true, exN_iff]
    exact ⟨fun h => h.elim (fun ⟨i, hi, e⟩ => ⟨i, Nat.lt_succ_of_lt hi, e⟩) (fun e => ⟨n, Nat.lt_succ_self n, e⟩), fun ⟨i, hi, e⟩ => (Nat.lt_succ_iff_lt_or_eq.mp hi).elim (fun z => Or.inl ⟨i, z, e⟩) (fun z => Or.inr (z ▸ e))⟩
theorem exN_yes {q : Nat → Bool} {n i : Nat} (hi : i < n) (h : q i = true) : exN q n = true := exN_iff.mpr ⟨i, hi, h⟩
theorem exN_no {q : Nat → Bool} {n : Nat} (h : ∀ i, i < n → q i = false) : exN q n = false := by
  cases e : exN q n with
  | false => rfl
  | true => obtain ⟨i, hi, z⟩ := exN_iff.mp e; rw [h i hi] at z; cases z
set_option maxHeartbeats 4000000 in
set_option maxRecDepth 100000 in
theorem c6_told (l : Launch) (G : mG) {f : mE} {o : Nat} {a : Nat → Nat} {S P lo hi ou : Nat → Int32} {rc isr wd us ab gi wr wo : Int32} (hI : RI G f o a S P lo hi ou rc isr wd us ab gi wr wo) {n : Nat} (hn : S 56 = nI n) (hn16 : n ≤ 16) (k : Int32) (w : Nat) (hw6 : w < 66) : mC l G yX6_told wsX6_told ({ frames := 2, cells := 0, slots := 0, locals := 43 } : Room) f [.ref o, .int k, .int (nI w)] (fun v f1 => v = some (.int (tolI S k (fun j => S (57 + 66 * j + w)))) ∧ f = f1) 0 0 := by
  refine mC.of (cc := cX6_told) (maxL := 3) (ret := (some .int)) (by decide) rfl (Nat.le_of_ble_eq_true rfl) ?_
  intro pgm env s mt args below meth c A ls hx hb hml hr hlocks hown hname hts hK hE hA hM hl
  have hl : lv_has ls 3 [(0, .ref o), (1, .int k), (2, .int (nI w))] := hl
  refine lv_aload_n hx hb dX6_told_0 rfl (lv_at hl 0 rfl) ?_
  refine lv_iload_n hx hb dX6_told_1 rfl (lv_at hl 1 rfl) ?_
  refine mm_V (As := [.int k]) (rest := []) ⟨hx, hb, hml, hown, hts⟩ (c6_isSentence l G hI k) (cwV 1 hts gX6_told_X6_isSentence rfl rfl rfl (by decide +kernel) ⟨Nat.le_of_ble_eq_true rfl, Nat.le_of_ble_eq_true rfl⟩) hK hE hA hM (mm_recv hK hM (hI.obj) (q := (RX6, TX6, 14)) rfl) rfl hl.1 rfl (Nat.le_of_ble_eq_true rfl) dX6_told_2 ⟨Nat.le_of_ble_eq_true rfl, Nat.le_of_ble_eq_true rfl⟩ (fun v f1 Hp lcs hp hM => ?_)
  obtain ⟨rfl, hf⟩ := hp; subst hf
  refine lvb_eq (tgt := 17) hx hb dX6_told_5 (by decide) (fun cz1 => ?_) (fun cz1 => ?_)
  · refine lv_ldc (v := (-100001)) hx hb hown (hts (.constant RX6 145 (-100001)) (List.mem_of_getElem? (i := 1) rfl)) dX6_told_17 ?_
    exact mm_iret hx hb hlocks hr (Nat.le_of_ble_eq_true rfl) (Nat.le_of_ble_eq_true rfl) hM (ret_v (tol_no cz1)) dX6_told_19
  obtain ⟨j, jN, rfl⟩ := isS_nat hn hn16 cz1
  refine lv_aload_n hx hb dX6_told_8 rfl (lv_at hl 0 rfl) ?_
  refine lv_iload_n hx hb dX6_told_9 rfl (lv_at hl 1 rfl) ?_
  refine lv_iload_n hx hb dX6_told_10 rfl (lv_at hl 2 rfl) ?_
  refine mm_V (As := [.int (nI j), .int (nI w)]) (rest := []) ⟨hx, hb, hml, hown, hts⟩ (c6_of l G hI j w (by omega)) (cwV 2 hts gX6_told_X6_of rfl rfl rfl (by decide +kernel) ⟨Nat.le_of_ble_eq_true rfl, Nat.le_of_ble_eq_true rfl⟩) hK hE hA hM (mm_recv hK hM (hI.obj) (q := (RX6, TX6, 14)) rfl) rfl hl.1 rfl (Nat.le_of_ble_eq_true rfl) dX6_told_11 ⟨Nat.le_of_ble_eq_true rfl, Nat.le_of_ble_eq_true rfl⟩ (fun v f1 Hp lcs hp hM => ?_)
  obtain ⟨rfl, hf⟩ := hp; subst hf
  refine lv_goto (tgt := 19) hx hb dX6_told_14 (by decide) ?_
  exact mm_iret hx hb hlocks hr (Nat.le_of_ble_eq_true rfl) (Nat.le_of_ble_eq_true rfl) hM (ret_v (tol_at hn hn16 jN rfl)) dX6_told_19
set_option maxHeartbeats 4000000 in
set_option maxRecDepth 100000 in
theorem c6_about (l : Launch) (G : mG) {f : mE} {o : Nat} {a : Nat → Nat} {S P lo hi ou : Nat → Int32} {rc isr wd us ab gi wr wo : Int32} (hI : RI G f o a S P lo hi ou rc isr wd us ab gi wr wo) {n : Nat} (hn : S 56 = nI n) (hn16 : n ≤ 16) (k : Int32) : mC l G yX6_about wsX6_about ({ frames := 3, cells := 0, slots := 0, locals := 65 } : Room) f [.ref o, .int k] (fun v f1 => v = some (.int (tolI S k (fun j => S (57 + 66 * j + 49)))) ∧ f = f1) 0 0 := by
  refine mC.of (cc := cX6_about) (maxL := 2) (ret := (some .int)) (by decide) rfl (Nat.le_of_ble_eq_true rfl) ?_
  intro pgm env s mt args below meth c A ls hx hb hml hr hlocks hown hname hts hK hE hA hM hl
  have hl : lv_has ls 2 [(0, .ref o), (1, .int k)] := hl
  refine lv_aload_n hx hb dX6_about_0 rfl (lv_at hl 0 rfl) ?_
  refine lv_iload_n hx hb dX6_about_1 rfl (lv_at hl 1 rfl) ?_
  refine lv_bipush (v := (nI 49)) hx hb dX6_about_2 (by decide +kernel) ?_
  refine mm_V (As := [.int k, .int (nI 49)]) (rest := []) ⟨hx, hb, hml, hown, hts⟩ (c6_told l G hI hn hn16 k 49 (by decide)) (cwV 2 hts gX6_about_X6_told rfl rfl rfl (by decide +kernel) ⟨Nat.le_of_ble_eq_true rfl, Nat.le_of_ble_eq_true rfl⟩) hK hE hA hM (mm_recv hK hM (hI.obj) (q := (RX6, TX6, 14)) rfl) rfl hl.1 rfl (Nat.le_of_ble_eq_true rfl) dX6_about_4 ⟨Nat.le_of_ble_eq_true rfl, Nat.le_of_ble_eq_true rfl⟩ (fun v f1 Hp lcs hp hM => ?_)
  obtain ⟨rfl, hf⟩ := hp; subst hf
  exact mm_iret hx hb hlocks hr (Nat.le_of_ble_eq_true rfl) (Nat.le_of_ble_eq_true rfl) hM (⟨rfl, rfl⟩) dX6_about_7
set_option maxHeartbeats 4000000 in
set_option maxRecDepth 100000 in
theorem c6_gives (l : Launch) (G : mG) {f : mE} {o : Nat} {a : Nat → Nat} {S P lo hi ou : Nat → Int32} {rc isr wd us ab gi wr wo : Int32} (hI : RI G f o a S P lo hi ou rc isr wd us ab gi wr wo) {n : Nat} (hn : S 56 = nI n) (hn16 : n ≤ 16) (k : Int32) : mC l G yX6_gives wsX6_gives ({ frames := 3, cells := 0, slots := 0, locals := 65 } : Room) f [.ref o, .int k] (fun v f1 => v = some (.int (tolI S k (fun j => S (57 + 66 * j + 50)))) ∧ f = f1) 0 0 := by
  refine mC.of (cc := cX6_gives) (maxL := 2) (ret := (some .int)) (by decide) rfl (Nat.le_of_ble_eq_true rfl) ?_
  intro pgm env s mt args below meth c A ls hx hb hml hr hlocks hown hname hts hK hE hA hM hl
  have hl : lv_has ls 2 [(0, .ref o), (1, .int k)] := hl
  refine lv_aload_n hx hb dX6_gives_0 rfl (lv_at hl 0 rfl) ?_
  refine lv_iload_n hx hb dX6_gives_1 rfl (lv_at hl 1 rfl) ?_
  refine lv_bipush (v := (nI 50)) hx hb dX6_gives_2 (by decide +kernel) ?_
  refine mm_V (As := [.int k, .int (nI 50)]) (rest := []) ⟨hx, hb, hml, hown, hts⟩ (c6_told l G hI hn hn16 k 50 (by decide)) (cwV 2 hts gX6_gives_X6_told rfl rfl rfl (by decide +kernel) ⟨Nat.le_of_ble_eq_true rfl, Nat.le_of_ble_eq_true rfl⟩) hK hE hA hM (mm_recv hK hM (hI.obj) (q := (RX6, TX6, 14)) rfl) rfl hl.1 rfl (Nat.le_of_ble_eq_true rfl) dX6_gives_4 ⟨Nat.le_of_ble_eq_true rfl, Nat.le_of_ble_eq_true rfl⟩ (fun v f1 Hp lcs hp hM => ?_)
  obtain ⟨rfl, hf⟩ := hp; subst hf
  exact mm_iret hx hb hlocks hr (Nat.le_of_ble_eq_true rfl) (Nat.le_of_ble_eq_true rfl) hM (⟨rfl, rfl⟩) dX6_gives_7
set_option maxHeartbeats 4000000 in
set_option maxRecDepth 100000 in
theorem c6_uses (l : Launch) (G : mG) {f : mE} {o : Nat} {a : Nat → Nat} {S P lo hi ou : Nat → Int32} {rc isr wd us ab gi wr wo : Int32} (hI : RI G f o a S P lo hi ou rc isr wd us ab gi wr wo) {n : Nat} (hn : S 56 = nI n) (hn16 : n ≤ 16) (k : Int32) : mC l G yX6_uses wsX6_uses ({ frames := 3, cells := 0, slots := 0, locals := 65 } : Room) f [.ref o, .int k] (fun v f1 => v = some (.int (tolI S k (fun j => S (57 + 66 * j + 51)))) ∧ f = f1) 0 0 := by
  refine mC.of (cc := cX6_uses) (maxL := 2) (ret := (some .int)) (by decide) rfl (Nat.le_of_ble_eq_true rfl) ?_
  intro pgm env s mt args below meth c A ls hx hb hml hr hlocks hown hname hts hK hE hA hM hl
  have hl : lv_has ls 2 [(0, .ref o), (1, .int k)] := hl
  refine lv_aload_n hx hb dX6_uses_0 rfl (lv_at hl 0 rfl) ?_
  refine lv_iload_n hx hb dX6_uses_1 rfl (lv_at hl 1 rfl) ?_
  refine lv_bipush (v := (nI 51)) hx hb dX6_uses_2 (by decide +kernel) ?_
  refine mm_V (As := [.int k, .int (nI 51)]) (rest := []) ⟨hx, hb, hml, hown, hts⟩ (c6_told l G hI hn hn16 k 51 (by decide)) (cwV 2 hts gX6_uses_X6_told rfl rfl rfl (by decide +kernel) ⟨Nat.le_of_ble_eq_true rfl, Nat.le_of_ble_eq_true rfl⟩) hK hE hA hM (mm_recv hK hM (hI.obj) (q := (RX6, TX6, 14)) rfl) rfl hl.1 rfl (Nat.le_of_ble_eq_true rfl) dX6_uses_4 ⟨Nat.le_of_ble_eq_true rfl, Nat.le_of_ble_eq_true rfl⟩ (fun v f1 Hp lcs hp hM => ?_)
  obtain ⟨rfl, hf⟩ := hp; subst hf
  exact mm_iret hx hb hlocks hr (Nat.le_of_ble_eq_true rfl) (Nat.le_of_ble_eq_true rfl) hM (⟨rfl, rfl⟩) dX6_uses_7
set_option maxHeartbeats 4000000 in
set_option maxRecDepth 100000 in
theorem c6_least (l : Launch) (G : mG) {f : mE} {o : Nat} {a : Nat → Nat} {S P lo hi ou : Nat → Int32} {rc isr wd us ab gi wr wo : Int32} (hI : RI G f o a S P lo hi ou rc isr wd us ab gi wr wo) {n : Nat} (hn : S 56 = nI n) (hn16 : n ≤ 16) (k x : Int32) : mC l G yX6_least wsX6_least ({ frames := 2, cells := 0, slots := 0, locals := 43 } : Room) f [.ref o, .int k, .int x] (fun v f1 => v = some (.int (tolI S k (fun j => if inB x 0 6 = true then S (57 + 66 * j + (52 + x.toNatClampNeg)) else -100002))) ∧ f = f1) 0 0 := by
  refine mC.of (cc := cX6_least) (maxL := 3) (ret := (some .int)) (by decide) rfl (Nat.le_of_ble_eq_true rfl) ?_
  intro pgm env s mt args below meth c A ls hx hb hml hr hlocks hown hname hts hK hE hA hM hl
  have hl : lv_has ls 3 [(0, .ref o), (1, .int k), (2, .int x)] := hl
  refine lv_aload_n hx hb dX6_least_0 rfl (lv_at hl 0 rfl) ?_
  refine lv_iload_n hx hb dX6_least_1 rfl (lv_at hl 1 rfl) ?_
  refine mm_V (As := [.int k]) (rest := []) ⟨hx, hb, hml, hown, hts⟩ (c6_isSentence l G hI k) (cwV 1 hts gX6_least_X6_isSentence rfl rfl rfl (by decide +kernel) ⟨Nat.le_of_ble_eq_true rfl, Nat.le_of_ble_eq_true rfl⟩) hK hE hA hM (mm_recv hK hM (hI.obj) (q := (RX6, TX6, 14)) rfl) rfl hl.1 rfl (Nat.le_of_ble_eq_true rfl) dX6_least_2 ⟨Nat.le_of_ble_eq_true rfl, Nat.le_of_ble_eq_true rfl⟩ (fun v f1 Hp lcs hp hM => ?_)
  obtain ⟨rfl, hf⟩ := hp; subst hf
  refine lvb_ne (tgt := 13) hx hb dX6_least_5 (by decide) (fun cz1 => ?_) (fun cz1 => ?_)
  · obtain ⟨j, jN, rfl⟩ := isS_nat hn hn16 cz1
    refine lv_iload_n hx hb dX6_least_13 rfl (lv_at hl 2 rfl) ?_
    refine mm_S (As := [.int x]) (rest := []) ⟨hx, hb, hml, hown, hts⟩ (c6_isFact l G _ x) (va_cwS 1 hts gX6_least_X6_isFact rfl rfl rfl (by decide +kernel) ⟨Nat.le_of_ble_eq_true rfl, Nat.le_of_ble_eq_true rfl⟩) hK hE hA hM rfl hl.1 rfl (Nat.le_of_ble_eq_true rfl) dX6_least_14 ⟨Nat.le_of_ble_eq_true rfl, Nat.le_of_ble_eq_true rfl⟩ (fun v f1 Hp lcs hp hM => ?_)
    obtain ⟨rfl, hf⟩ := hp; subst hf
    refine lvb_eq (tgt := 32) hx hb dX6_least_17 (by decide) (fun cz2 => ?_) (fun cz2 => ?_)
    · refine lv_ldc (v := (-100002)) hx hb hown (hts (.constant RX6 64 (-100002)) (List.mem_of_getElem? (i := 2) rfl)) dX6_least_32 ?_
      exact mm_iret hx hb hlocks hr (Nat.le_of_ble_eq_true rfl) (Nat.le_of_ble_eq_true rfl) hM (ret_v (tol_at hn hn16 jN (by rw [if_neg (by rw [cz2]; decide)]))) dX6_least_34
    obtain ⟨i, iN, rfl⟩ := inB_nat (K := 6) (by decide) cz2
    refine lv_aload_n hx hb dX6_least_20 rfl (lv_at hl 0 rfl) ?_
    refine lv_iload_n hx hb dX6_least_21 rfl (lv_at hl 1 rfl) ?_
    refine lv_bipush (v := (nI 52)) hx hb dX6_least_22 (by decide +kernel) ?_
    refine lv_iload_n hx hb dX6_least_24 rfl (lv_at hl 2 rfl) ?_
    refine ln_iadd 52 i hx hb dX6_least_25 ?_
    refine mm_V (As := [.int (nI j), .int (nI (52 + i))]) (rest := []) ⟨hx, hb, hml, hown, hts⟩ (c6_of l G hI j (52 + i) (by omega)) (cwV 2 hts gX6_least_X6_of rfl rfl rfl (by decide +kernel) ⟨Nat.le_of_ble_eq_true rfl, Nat.le_of_ble_eq_true rfl⟩) hK hE hA hM (mm_recv hK hM (hI.obj) (q := (RX6, TX6, 14)) rfl) rfl hl.1 rfl (Nat.le_of_ble_eq_true rfl) dX6_least_26 ⟨Nat.le_of_ble_eq_true rfl, Nat.le_of_ble_eq_true rfl⟩ (fun v f1 Hp lcs hp hM => ?_)
    obtain ⟨rfl, hf⟩ := hp; subst hf
    refine lv_goto (tgt := 34) hx hb dX6_least_29 (by decide) ?_
    exact mm_iret hx hb hlocks hr (Nat.le_of_ble_eq_true rfl) (Nat.le_of_ble_eq_true rfl) hM (ret_v (tol_at hn hn16 jN (by rw [if_pos cz2, nI_clamp (by omega)]))) dX6_least_34
  refine lv_ldc (v := (-100001)) hx hb hown (hts (.constant RX6 145 (-100001)) (List.mem_of_getElem? (i := 1) rfl)) dX6_least_8 ?_
  refine lv_goto (tgt := 34) hx hb dX6_least_10 (by decide) ?_
  exact mm_iret hx hb hlocks hr (Nat.le_of_ble_eq_true rfl) (Nat.le_of_ble_eq_true rfl) hM (ret_v (tol_no cz1)) dX6_least_34
set_option maxHeartbeats 4000000 in
set_option maxRecDepth 100000 in
theorem c6_greatest (l : Launch) (G : mG) {f : mE} {o : Nat} {a : Nat → Nat} {S P lo hi ou : Nat → Int32} {rc isr wd us ab gi wr wo : Int32} (hI : RI G f o a S P lo hi ou rc isr wd us ab gi wr wo) {n : Nat} (hn : S 56 = nI n) (hn16 : n ≤ 16) (k x : Int32) : mC l G yX6_greatest wsX6_greatest ({ frames := 2, cells := 0, slots := 0, locals := 43 } : Room) f [.ref o, .int k, .int x] (fun v f1 => v = some (.int (tolI S k (fun j => if inB x 0 6 = true then S (57 + 66 * j + (59 + x.toNatClampNeg)) else -100002))) ∧ f = f1) 0 0 := by
  refine mC.of (cc := cX6_greatest) (maxL := 3) (ret := (some .int)) (by decide) rfl (Nat.le_of_ble_eq_true rfl) ?_
  intro pgm env s mt args below meth c A ls hx hb hml hr hlocks hown hname hts hK hE hA hM hl
  have hl : lv_has ls 3 [(0, .ref o), (1, .int k), (2, .int x)] := hl
  refine lv_aload_n hx hb dX6_greatest_0 rfl (lv_at hl 0 rfl) ?_
  refine lv_iload_n hx hb dX6_greatest_1 rfl (lv_at hl 1 rfl) ?_
  refine mm_V (As := [.int k]) (rest := []) ⟨hx, hb, hml, hown, hts⟩ (c6_isSentence l G hI k) (cwV 1 hts gX6_greatest_X6_isSentence rfl rfl rfl (by decide +kernel) ⟨Nat.le_of_ble_eq_true rfl, Nat.le_of_ble_eq_true rfl⟩) hK hE hA hM (mm_recv hK hM (hI.obj) (q := (RX6, TX6, 14)) rfl) rfl hl.1 rfl (Nat.le_of_ble_eq_true rfl) dX6_greatest_2 ⟨Nat.le_of_ble_eq_true rfl, Nat.le_of_ble_eq_true rfl⟩ (fun v f1 Hp lcs hp hM => ?_)
  obtain ⟨rfl, hf⟩ := hp; subst hf
  refine lvb_ne (tgt := 13) hx hb dX6_greatest_5 (by decide) (fun cz1 => ?_) (fun cz1 => ?_)
  · obtain ⟨j, jN, rfl⟩ := isS_nat hn hn16 cz1
    refine lv_iload_n hx hb dX6_greatest_13 rfl (lv_at hl 2 rfl) ?_
    refine mm_S (As := [.int x]) (rest := []) ⟨hx, hb, hml, hown, hts⟩ (c6_isFact l G _ x) (va_cwS 1 hts gX6_greatest_X6_isFact rfl rfl rfl (by decide +kernel) ⟨Nat.le_of_ble_eq_true rfl, Nat.le_of_ble_eq_true rfl⟩) hK hE hA hM rfl hl.1 rfl (Nat.le_of_ble_eq_true rfl) dX6_greatest_14 ⟨Nat.le_of_ble_eq_true rfl, Nat.le_of_ble_eq_true rfl⟩ (fun v f1 Hp lcs hp hM => ?_)
    obtain ⟨rfl, hf⟩ := hp; subst hf
    refine lvb_eq (tgt := 32) hx hb dX6_greatest_17 (by decide) (fun cz2 => ?_) (fun cz2 => ?_)
    · refine lv_ldc (v := (-100002)) hx hb hown (hts (.constant RX6 64 (-100002)) (List.mem_of_getElem? (i := 2) rfl)) dX6_greatest_32 ?_
      exact mm_iret hx hb hlocks hr (Nat.le_of_ble_eq_true rfl) (Nat.le_of_ble_eq_true rfl) hM (ret_v (tol_at hn hn16 jN (by rw [if_neg (by rw [cz2]; decide)]))) dX6_greatest_34
    obtain ⟨i, iN, rfl⟩ := inB_nat (K := 6) (by decide) cz2
    refine lv_aload_n hx hb dX6_greatest_20 rfl (lv_at hl 0 rfl) ?_
    refine lv_iload_n hx hb dX6_greatest_21 rfl (lv_at hl 1 rfl) ?_
    refine lv_bipush (v := (nI 59)) hx hb dX6_greatest_22 (by decide +kernel) ?_
    refine lv_iload_n hx hb dX6_greatest_24 rfl (lv_at hl 2 rfl) ?_
    refine ln_iadd 59 i hx hb dX6_greatest_25 ?_
    refine mm_V (As := [.int (nI j), .int (nI (59 + i))]) (rest := []) ⟨hx, hb, hml, hown, hts⟩ (c6_of l G hI j (59 + i) (by omega)) (cwV 2 hts gX6_greatest_X6_of rfl rfl rfl (by decide +kernel) ⟨Nat.le_of_ble_eq_true rfl, Nat.le_of_ble_eq_true rfl⟩) hK hE hA hM (mm_recv hK hM (hI.obj) (q := (RX6, TX6, 14)) rfl) rfl hl.1 rfl (Nat.le_of_ble_eq_true rfl) dX6_greatest_26 ⟨Nat.le_of_ble_eq_true rfl, Nat.le_of_ble_eq_true rfl⟩ (fun v f1 Hp lcs hp hM => ?_)
    obtain ⟨rfl, hf⟩ := hp; subst hf
    refine lv_goto (tgt := 34) hx hb dX6_greatest_29 (by decide) ?_
    exact mm_iret hx hb hlocks hr (Nat.le_of_ble_eq_true rfl) (Nat.le_of_ble_eq_true rfl) hM (ret_v (tol_at hn hn16 jN (by rw [if_pos cz2, nI_clamp (by omega)]))) dX6_greatest_34
  refine lv_ldc (v := (-100001)) hx hb hown (hts (.constant RX6 145 (-100001)) (List.mem_of_getElem? (i := 1) rfl)) dX6_greatest_8 ?_
  refine lv_goto (tgt := 34) hx hb dX6_greatest_10 (by decide) ?_
  exact mm_iret hx hb hlocks hr (Nat.le_of_ble_eq_true rfl) (Nat.le_of_ble_eq_true rfl) hM (ret_v (tol_no cz1)) dX6_greatest_34
set_option maxHeartbeats 4000000 in
set_option maxRecDepth 100000 in
theorem c6_sharpness (l : Launch) (G : mG) {f : mE} {o : Nat} {a : Nat → Nat} {S P lo hi ou : Nat → Int32} {rc isr wd us ab gi wr wo : Int32} (hI : RI G f o a S P lo hi ou rc isr wd us ab gi wr wo) {n : Nat} (hn : S 56 = nI n) (hn16 : n ≤ 16) (k : Int32) : mC l G yX6_sharpness wsX6_sharpness ({ frames := 2, cells := 0, slots := 0, locals := 45 } : Room) f [.ref o, .int k] (fun v f1 => v = some (.int (tolI S k (fun j => nI (shaN S j)))) ∧ f = f1) 0 0 := by
  refine mC.of (cc := cX6_sharpness) (maxL := 2) (ret := (some .int)) (by decide) rfl (Nat.le_of_ble_eq_true rfl) ?_
  intro pgm env s mt args below meth c A ls hx hb hml hr hlocks hown hname hts hK hE hA hM hl
  have hl : lv_has ls 2 [(0, .ref o), (1, .int k)] := hl
  refine lv_aload_n hx hb dX6_sharpness_0 rfl (lv_at hl 0 rfl) ?_
  refine lv_iload_n hx hb dX6_sharpness_1 rfl (lv_at hl 1 rfl) ?_
  refine mm_V (As := [.int k]) (rest := []) ⟨hx, hb, hml, hown, hts⟩ (c6_isSentence l G hI k) (cwV 1 hts gX6_sharpness_X6_isSentence rfl rfl rfl (by decide +kernel) ⟨Nat.le_of_ble_eq_true rfl, Nat.le_of_ble_eq_true rfl⟩) hK hE hA hM (mm_recv hK hM (hI.obj) (q := (RX6, TX6, 14)) rfl) rfl hl.1 rfl (Nat.le_of_ble_eq_true rfl) dX6_sharpness_2 ⟨Nat.le_of_ble_eq_true rfl, Nat.le_of_ble_eq_true rfl⟩ (fun v f1 Hp lcs hp hM => ?_)
  obtain ⟨rfl, hf⟩ := hp; subst hf
  refine lvb_eq (tgt := 16) hx hb dX6_sharpness_5 (by decide) (fun cz1 => ?_) (fun cz1 => ?_)
  · refine lv_ldc (v := (-100001)) hx hb hown (hts (.constant RX6 145 (-100001)) (List.mem_of_getElem? (i := 1) rfl)) dX6_sharpness_16 ?_
    exact mm_iret hx hb hlocks hr (Nat.le_of_ble_eq_true rfl) (Nat.le_of_ble_eq_true rfl) hM (ret_v (tol_no cz1)) dX6_sharpness_18
  obtain ⟨j, jN, rfl⟩ := isS_nat hn hn16 cz1
  refine lv_aload_n hx hb dX6_sharpness_8 rfl (lv_at hl 0 rfl) ?_
  refine lv_iload_n hx hb dX6_sharpness_9 rfl (lv_at hl 1 rfl) ?_
  refine mm_V (As := [.int (nI j)]) (rest := []) ⟨hx, hb, hml, hown, hts⟩ (c6_sharpnessOf l G hI j (by omega)) (cwV 1 hts gX6_sharpness_X6_sharpnessOf rfl rfl rfl (by decide +kernel) ⟨Nat.le_of_ble_eq_true rfl, Nat.le_of_ble_eq_true rfl⟩) hK hE hA hM (mm_recv hK hM (hI.obj) (q := (RX6, TX6, 14)) rfl) rfl hl.1 rfl (Nat.le_of_ble_eq_true rfl) dX6_sharpness_10 ⟨Nat.le_of_ble_eq_true rfl, Nat.le_of_ble_eq_true rfl⟩ (fun v f1 Hp lcs hp hM => ?_)
  obtain ⟨rfl, hf⟩ := hp; subst hf
  refine lv_goto (tgt := 18) hx hb dX6_sharpness_13 (by decide) ?_
  exact mm_iret hx hb hlocks hr (Nat.le_of_ble_eq_true rfl) (Nat.le_of_ble_eq_true rfl) hM (ret_v (tol_at hn hn16 jN rfl)) dX6_sharpness_18
set_option maxHeartbeats 4000000 in
set_option maxRecDepth 100000 in
theorem c6_fact (l : Launch) (G : mG) {f : mE} {o : Nat} {a : Nat → Nat} {S P lo hi ou : Nat → Int32} {rc isr wd us ab gi wr wo : Int32} (hI : RI G f o a S P lo hi ou rc isr wd us ab gi wr wo) (x : Int32) : mC l G yX6_fact wsX6_fact ({ frames := 2, cells := 0, slots := 0, locals := 42 } : Room) f [.ref o, .int x] (fun v f1 => v = some (.int (if inB x 0 6 = true then S x.toNatClampNeg else -100002)) ∧ f = f1) 0 0 := by
  refine mC.of (cc := cX6_fact) (maxL := 2) (ret := (some .int)) (by decide) rfl (Nat.le_of_ble_eq_true rfl) ?_
  intro pgm env s mt args below meth c A ls hx hb hml hr hlocks hown hname hts hK hE hA hM hl
  have hl : lv_has ls 2 [(0, .ref o), (1, .int x)] := hl
  refine lv_iload_n hx hb dX6_fact_0 rfl (lv_at hl 1 rfl) ?_
  refine mm_S (As := [.int x]) (rest := []) ⟨hx, hb, hml, hown, hts⟩ (c6_isFact l G _ x) (va_cwS 1 hts gX6_fact_X6_isFact rfl rfl rfl (by decide +kernel) ⟨Nat.le_of_ble_eq_true rfl, Nat.le_of_ble_eq_true rfl⟩) hK hE hA hM rfl hl.1 rfl (Nat.le_of_ble_eq_true rfl) dX6_fact_1 ⟨Nat.le_of_ble_eq_true rfl, Nat.le_of_ble_eq_true rfl⟩ (fun v f1 Hp lcs hp hM => ?_)
  obtain ⟨rfl, hf⟩ := hp; subst hf
  refine lvb_eq (tgt := 16) hx hb dX6_fact_4 (by decide) (fun cz1 => ?_) (fun cz1 => ?_)
  · refine lv_ldc (v := (-100002)) hx hb hown (hts (.constant RX6 64 (-100002)) (List.mem_of_getElem? (i := 2) rfl)) dX6_fact_16 ?_
    exact mm_iret hx hb hlocks hr (Nat.le_of_ble_eq_true rfl) (Nat.le_of_ble_eq_true rfl) hM (ret_v (by rw [if_neg (by rw [cz1]; decide)])) dX6_fact_18
  obtain ⟨i, iN, rfl⟩ := inB_nat (K := 6) (by decide) cz1
  refine lv_aload_n hx hb dX6_fact_7 rfl (lv_at hl 0 rfl) ?_
  refine mm_get (C := RX6) (T := TX6) (N := 14) (k := 0) hx hb hts (fun _ h => List.mem_cons_of_mem _ (List.mem_append_right _ h)) hown hK hM (hI.obj) rfl (by decide) (hts (.fieldLink RX6 7 "SentenceRulesModel" "now" "[I") (List.mem_of_getElem? (i := 1) rfl)) rfl rfl dX6_fact_8 ?_
  refine lv_iload_n hx hb dX6_fact_11 rfl (lv_at hl 1 rfl) ?_
  refine mn_iald hx hb hK hM (hI.now) i (by omega) (by decide) dX6_fact_12 ?_
  refine lv_goto (tgt := 18) hx hb dX6_fact_13 (by decide) ?_
  exact mm_iret hx hb hlocks hr (Nat.le_of_ble_eq_true rfl) (Nat.le_of_ble_eq_true rfl) hM (ret_v (by rw [if_pos cz1, nI_clamp (by omega)])) dX6_fact_18
set_option maxHeartbeats 4000000 in
set_option maxRecDepth 100000 in
theorem c6_definition (l : Launch) (G : mG) {f : mE} {o : Nat} {a : Nat → Nat} {S P lo hi ou : Nat → Int32} {rc isr wd us ab gi wr wo : Int32} (hI : RI G f o a S P lo hi ou rc isr wd us ab gi wr wo) {n : Nat} (hn : S 56 = nI n) (hn16 : n ≤ 16) (w : Int32) : mC l G yX6_definition wsX6_definition ({ frames := 2, cells := 0, slots := 0, locals := 44 } : Room) f [.ref o, .int w] (fun v f1 => v = some (.int (if inB w 0 5 = true then defI S n w else -100002)) ∧ f = f1) 0 0 := by
  refine mC.of (cc := cX6_definition) (maxL := 2) (ret := (some .int)) (by decide) rfl (Nat.le_of_ble_eq_true rfl) ?_
  intro pgm env s mt args below meth c A ls hx hb hml hr hlocks hown hname hts hK hE hA hM hl
  have hl : lv_has ls 2 [(0, .ref o), (1, .int w)] := hl
  refine lv_iload_n hx hb dX6_definition_0 rfl (lv_at hl 1 rfl) ?_
  refine lv_iconst (v := (nI 0)) hx hb dX6_definition_1 (by decide +kernel) ?_
  refine lv_iconst (v := (nI 5)) hx hb dX6_definition_2 (by decide +kernel) ?_
  refine mm_S (As := [.int w, .int (nI 0), .int (nI 5)]) (rest := []) ⟨hx, hb, hml, hown, hts⟩ (c6_in l G _ w (nI 0) (nI 5)) (va_cwS 3 hts gX6_definition_X6_in rfl rfl rfl (by decide +kernel) ⟨Nat.le_of_ble_eq_true rfl, Nat.le_of_ble_eq_true rfl⟩) hK hE hA hM rfl hl.1 rfl (Nat.le_of_ble_eq_true rfl) dX6_definition_3 ⟨Nat.le_of_ble_eq_true rfl, Nat.le_of_ble_eq_true rfl⟩ (fun v f1 Hp lcs hp hM => ?_)
  obtain ⟨rfl, hf⟩ := hp; subst hf
  refine mv_top (y := (bI (inB w 0 5))) rfl ?_
  refine lvb_eq (tgt := 17) hx hb dX6_definition_6 (by decide) (fun cz1 => ?_) (fun cz1 => ?_)
  · refine lv_ldc (v := (-100002)) hx hb hown (hts (.constant RX6 64 (-100002)) (List.mem_of_getElem? (i := 1) rfl)) dX6_definition_17 ?_
    exact mm_iret hx hb hlocks hr (Nat.le_of_ble_eq_true rfl) (Nat.le_of_ble_eq_true rfl) hM (ret_v (by simp [cz1])) dX6_definition_19
  refine lv_aload_n hx hb dX6_definition_9 rfl (lv_at hl 0 rfl) ?_
  refine lv_iload_n hx hb dX6_definition_10 rfl (lv_at hl 1 rfl) ?_
  refine mm_V (As := [.int w]) (rest := []) ⟨hx, hb, hml, hown, hts⟩ (c6_definitionOf l G hI hn hn16 w) (cwV 1 hts gX6_definition_X6_definitionOf rfl rfl rfl (by decide +kernel) ⟨Nat.le_of_ble_eq_true rfl, Nat.le_of_ble_eq_true rfl⟩) hK hE hA hM (mm_recv hK hM (hI.obj) (q := (RX6, TX6, 14)) rfl) rfl hl.1 rfl (Nat.le_of_ble_eq_true rfl) dX6_definition_11 ⟨Nat.le_of_ble_eq_true rfl, Nat.le_of_ble_eq_true rfl⟩ (fun v f1 Hp lcs hp hM => ?_)
  obtain ⟨rfl, hf⟩ := hp; subst hf
  refine lv_goto (tgt := 19) hx hb dX6_definition_14 (by decide) ?_
  exact mm_iret hx hb hlocks hr (Nat.le_of_ble_eq_true rfl) (Nat.le_of_ble_eq_true rfl) hM (ret_v (by simp [cz1])) dX6_definition_19
set_option maxHeartbeats 4000000 in
set_option maxRecDepth 100000 in
theorem c6_sentences (l : Launch) (G : mG) {f : mE} {o : Nat} {a : Nat → Nat} {S P lo hi ou : Nat → Int32} {rc isr wd us ab gi wr wo : Int32} (hI : RI G f o a S P lo hi ou rc isr wd us ab gi wr wo) {n : Nat} (hn : S 56 = nI n) (hn16 : n ≤ 16) : mC l G yX6_sentences wsX6_sentences ({ frames := 0, cells := 0, slots := 0, locals := 0 } : Room) f [.ref o] (fun v f1 => v = some (.int (nI n)) ∧ f = f1) 0 0 := by
  refine mC.of (cc := cX6_sentences) (maxL := 1) (ret := (some .int)) (by decide) rfl (Nat.le_of_ble_eq_true rfl) ?_
  intro pgm env s mt args below meth c A ls hx hb hml hr hlocks hown hname hts hK hE hA hM hl
  have hl : lv_has ls 1 [(0, .ref o)] := hl
  refine lv_aload_n hx hb dX6_sentences_0 rfl (lv_at hl 0 rfl) ?_
  refine mm_get (C := RX6) (T := TX6) (N := 14) (k := 0) hx hb hts (fun _ h => List.mem_cons_of_mem _ (List.mem_append_right _ h)) hown hK hM (hI.obj) rfl (by decide) (hts (.fieldLink RX6 7 "SentenceRulesModel" "now" "[I") (List.mem_of_getElem? (i := 1) rfl)) rfl rfl dX6_sentences_1 ?_
  refine lv_bipush (v := (nI 56)) hx hb dX6_sentences_4 (by decide +kernel) ?_
  refine mn_iald hx hb hK hM (hI.now) 56 (by omega) (by decide) dX6_sentences_6 ?_
  refine mv_top hn ?_
  exact mm_iret hx hb hlocks hr (Nat.le_of_ble_eq_true rfl) (Nat.le_of_ble_eq_true rfl) hM (⟨rfl, rfl⟩) dX6_sentences_7
set_option maxHeartbeats 4000000 in
set_option maxRecDepth 100000 in
theorem c6_meet (l : Launch) (G : mG) {f : mE} {o : Nat} {a : Nat → Nat} {S P lo hi ou : Nat → Int32} {rc isr wd us ab gi wr wo : Int32} (hI : RI G f o a S P lo hi ou rc isr wd us ab gi wr wo) (x y : Nat) (hx6 : x < 16) (hy6 : y < 16) : mC l G yX6_meet wsX6_meet ({ frames := 1, cells := 0, slots := 0, locals := 22 } : Room) f [.ref o, .int (nI x), .int (nI y)] (fun v f1 => v = some (.int (bI (allN (meeQ S x y) 7))) ∧ RI G f1 o a S P (filN (metLo S x y) lo 7) (filN (metHi S x y) hi 7) ou rc isr wd us ab gi wr wo) 0 0 := by
  refine mC.of (cc := cX6_meet) (maxL := 5) (ret := (some .boolean)) (by decide) rfl (Nat.le_of_ble_eq_true rfl) ?_
  intro pgm env s mt args below meth c A ls hx hb hml hr hlocks hown hname hts hK hE hA hM hl
  have hl : lv_has ls 5 [(0, .ref o), (1, .int (nI x)), (2, .int (nI y))] := hl
  refine lv_iconst (v := (nI 1)) hx hb dX6_meet_0 (by decide +kernel) ?_
  refine lv_istore_n (lv' := [(3, .int (nI 1)), (0, .ref o), (1, .int (nI x)), (2, .int (nI y))]) hx hb dX6_meet_1 rfl hl (by decide) rfl (fun ls hl => ?_)
  refine lv_iconst (v := (nI 0)) hx hb dX6_meet_2 (by decide +kernel) ?_
  refine lv_istore (lv' := [(4, .int (nI 0)), (3, .int (nI 1)), (0, .ref o), (1, .int (nI x)), (2, .int (nI y))]) hx hb dX6_meet_3 hl (by decide) rfl (fun ls hl => ?_)
  have loopZ : ∀ (fuel : Nat) (i : Nat) (aw : Int32) (fz : mE) (Hp : Heap) (lcs : List Loc) (ls : Array Slot) (hiN : i ≤ 7) (hr0 : aw = bI (allN (meeQ S x y) i)) (hIz : RI G fz o a S P (filN (metLo S x y) lo i) (filN (metHi S x y) hi i) ou rc isr wd us ab gi wr wo) (hfu : 7 - i < fuel) (hM : mM G A s.heap fz Hp lcs) (hl : lv_has ls 5 [(0, .ref o), (1, .int (nI x)), (2, .int (nI y)), (3, .int aw), (4, .int (nI i))]), W pgm l env ({ frames := 1, cells := 0, slots := 0, locals := 22 } : Room) s mt args below meth c Hp lcs 0 0 (MQ below (mQc G A (fun v f1 => v = some (.int (bI (allN (meeQ S x y) 7))) ∧ RI G f1 o a S P (filN (metLo S x y) lo 7) (filN (metHi S x y) hi 7) ou rc isr wd us ab gi wr wo)) args s 0 0 A) (F0 mt 5 ls []) := by
    intro fuel
    induction fuel with
    | zero => intro i aw fz Hp lcs ls hiN hr0 hIz hfu; exact absurd hfu (Nat.not_lt_zero _)
    | succ fuel ih =>
      intro i aw fz Hp lcs ls hiN hr0 hIz hfu hM hl
      subst hr0
      have hI := hIz
      refine lv_iload hx hb dX6_meet_5 (lv_at hl 4 rfl) ?_
      refine lv_bipush (v := (nI 7)) hx hb dX6_meet_7 (by decide +kernel) ?_
      refine ln_icmp_ge i 7 (by omega) (by omega) (tgt := 105) hx hb dX6_meet_9 (by decide) (fun cz1 => ?_) (fun cz1 => ?_)
      · refine lv_iload_n hx hb dX6_meet_105 rfl (lv_at hl 3 rfl) ?_
        exact mm_zret hx hb hlocks hr (by first | rfl | exact bI_nar _) (Nat.le_of_ble_eq_true rfl) (Nat.le_of_ble_eq_true rfl) hM ((by have hz : i = 7 := (by omega); subst hz; exact ⟨rfl, hI⟩)) dX6_meet_106
      refine lv_aload_n hx hb dX6_meet_12 rfl (lv_at hl 0 rfl) ?_
      refine mm_get (C := RX6) (T := TX6) (N := 14) (k := 6) hx hb hts (fun _ h => List.mem_cons_of_mem _ (List.mem_append_right _ h)) hown hK hM (hI.obj) rfl (by decide) (hts (.fieldLink RX6 19 "SentenceRulesModel" "low" "[I") (List.mem_of_getElem? (i := 1) rfl)) rfl rfl dX6_meet_13 ?_
      refine lv_iload hx hb dX6_meet_16 (lv_at hl 4 rfl) ?_
      refine lv_aload_n hx hb dX6_meet_18 rfl (lv_at hl 0 rfl) ?_
      refine lv_iload_n hx hb dX6_meet_19 rfl (lv_at hl 1 rfl) ?_
      refine lv_bipush (v := (nI 52)) hx hb dX6_meet_20 (by decide +kernel) ?_
      refine lv_iload hx hb dX6_meet_22 (lv_at hl 4 rfl) ?_
      refine ln_iadd 52 i hx hb dX6_meet_24 ?_
      refine mm_V (As := [.int (nI x), .int (nI (52 + i))]) (rest := [.int (nI i), .ref (a 3)]) ⟨hx, hb, hml, hown, hts⟩ (c6_of l G hI x (52 + i) (by omega)) (cwV 2 hts gX6_meet_X6_of rfl rfl rfl (by decide +kernel) ⟨Nat.le_of_ble_eq_true rfl, Nat.le_of_ble_eq_true rfl⟩) hK hE hA hM (mm_recv hK hM (hI.obj) (q := (RX6, TX6, 14)) rfl) rfl hl.1 rfl (Nat.le_of_ble_eq_true rfl) dX6_meet_25 ⟨Nat.le_of_ble_eq_true rfl, Nat.le_of_ble_eq_true rfl⟩ (fun v f1 Hp lcs hp hM => ?_)
      obtain ⟨rfl, hf⟩ := hp; subst hf
      refine lv_aload_n hx hb dX6_meet_28 rfl (lv_at hl 0 rfl) ?_
      refine lv_iload_n hx hb dX6_meet_29 rfl (lv_at hl 2 rfl) ?_
      refine lv_bipush (v := (nI 52)) hx hb dX6_meet_30 (by decide +kernel) ?_
      refine lv_iload hx hb dX6_meet_32 (lv_at hl 4 rfl) ?_
      refine ln_iadd 52 i hx hb dX6_meet_34 ?_
      refine mm_V (As := [.int (nI y), .int (nI (52 + i))]) (rest := [.int (S (57 + 66 * x + (52 + i))), .int (nI i), .ref (a 3)]) ⟨hx, hb, hml, hown, hts⟩ (c6_of l G hI y (52 + i) (by omega)) (cwV 2 hts gX6_meet_X6_of rfl rfl rfl (by decide +kernel) ⟨Nat.le_of_ble_eq_true rfl, Nat.le_of_ble_eq_true rfl⟩) hK hE hA hM (mm_recv hK hM (hI.obj) (q := (RX6, TX6, 14)) rfl) rfl hl.1 rfl (Nat.le_of_ble_eq_true rfl) dX6_meet_35 ⟨Nat.le_of_ble_eq_true rfl, Nat.le_of_ble_eq_true rfl⟩ (fun v f1 Hp lcs hp hM => ?_)
      obtain ⟨rfl, hf⟩ := hp; subst hf
      refine mm_S (As := [.int (S (57 + 66 * x + (52 + i))), .int (S (57 + 66 * y + (52 + i)))]) (rest := [.int (nI i), .ref (a 3)]) ⟨hx, hb, hml, hown, hts⟩ (c6_greater l G _ (S (57 + 66 * x + (52 + i))) (S (57 + 66 * y + (52 + i)))) (va_cwS 2 hts gX6_meet_X6_greater rfl rfl rfl (by decide +kernel) ⟨Nat.le_of_ble_eq_true rfl, Nat.le_of_ble_eq_true rfl⟩) hK hE hA hM rfl hl.1 rfl (Nat.le_of_ble_eq_true rfl) dX6_meet_38 ⟨Nat.le_of_ble_eq_true rfl, Nat.le_of_ble_eq_true rfl⟩ (fun v f1 Hp lcs hp hM => ?_)
      obtain ⟨rfl, hf⟩ := hp; subst hf
      refine mn_iast hx hb hK hM (hI.low) i (by omega) (by decide) dX6_meet_41 (fun Hp lcs hM => ?_)
      have hI := hI.setLow (upd (filN (metLo S x y) lo i) i (if (S (57 + 66 * y + (52 + i))) < (S (57 + 66 * x + (52 + i))) then (S (57 + 66 * x + (52 + i))) else (S (57 + 66 * y + (52 + i)))))
      refine lv_aload_n hx hb dX6_meet_42 rfl (lv_at hl 0 rfl) ?_
      refine mm_get (C := RX6) (T := TX6) (N := 14) (k := 7) hx hb hts (fun _ h => List.mem_cons_of_mem _ (List.mem_append_right _ h)) hown hK hM (hI.obj) rfl (by decide) (hts (.fieldLink RX6 22 "SentenceRulesModel" "high" "[I") (List.mem_of_getElem? (i := 2) rfl)) rfl rfl dX6_meet_43 ?_
      refine lv_iload hx hb dX6_meet_46 (lv_at hl 4 rfl) ?_
      refine lv_aload_n hx hb dX6_meet_48 rfl (lv_at hl 0 rfl) ?_
      refine lv_iload_n hx hb dX6_meet_49 rfl (lv_at hl 1 rfl) ?_
      refine lv_bipush (v := (nI 59)) hx hb dX6_meet_50 (by decide +kernel) ?_
      refine lv_iload hx hb dX6_meet_52 (lv_at hl 4 rfl) ?_
      refine ln_iadd 59 i hx hb dX6_meet_54 ?_
      refine mm_V (As := [.int (nI x), .int (nI (59 + i))]) (rest := [.int (nI i), .ref (a 4)]) ⟨hx, hb, hml, hown, hts⟩ (c6_of l G hI x (59 + i) (by omega)) (cwV 2 hts gX6_meet_X6_of rfl rfl rfl (by decide +kernel) ⟨Nat.le_of_ble_eq_true rfl, Nat.le_of_ble_eq_true rfl⟩) hK hE hA hM (mm_recv hK hM (hI.obj) (q := (RX6, TX6, 14)) rfl) rfl hl.1 rfl (Nat.le_of_ble_eq_true rfl) dX6_meet_55 ⟨Nat.le_of_ble_eq_true rfl, Nat.le_of_ble_eq_true rfl⟩ (fun v f1 Hp lcs hp hM => ?_)
      obtain ⟨rfl, hf⟩ := hp; subst hf
      refine lv_aload_n hx hb dX6_meet_58 rfl (lv_at hl 0 rfl) ?_
      refine lv_iload_n hx hb dX6_meet_59 rfl (lv_at hl 2 rfl) ?_
      refine lv_bipush (v := (nI 59)) hx hb dX6_meet_60 (by decide +kernel) ?_
      refine lv_iload hx hb dX6_meet_62 (lv_at hl 4 rfl) ?_
      refine ln_iadd 59 i hx hb dX6_meet_64 ?_
      refine mm_V (As := [.int (nI y), .int (nI (59 + i))]) (rest := [.int (S (57 + 66 * x + (59 + i))), .int (nI i), .ref (a 4)]) ⟨hx, hb, hml, hown, hts⟩ (c6_of l G hI y (59 + i) (by omega)) (cwV 2 hts gX6_meet_X6_of rfl rfl rfl (by decide +kernel) ⟨Nat.le_of_ble_eq_true rfl, Nat.le_of_ble_eq_true rfl⟩) hK hE hA hM (mm_recv hK hM (hI.obj) (q := (RX6, TX6, 14)) rfl) rfl hl.1 rfl (Nat.le_of_ble_eq_true rfl) dX6_meet_65 ⟨Nat.le_of_ble_eq_true rfl, Nat.le_of_ble_eq_true rfl⟩ (fun v f1 Hp lcs hp hM => ?_)
      obtain ⟨rfl, hf⟩ := hp; subst hf
      refine mm_S (As := [.int (S (57 + 66 * x + (59 + i))), .int (S (57 + 66 * y + (59 + i)))]) (rest := [.int (nI i), .ref (a 4)]) ⟨hx, hb, hml, hown, hts⟩ (c6_smaller l G _ (S (57 + 66 * x + (59 + i))) (S (57 + 66 * y + (59 + i)))) (va_cwS 2 hts gX6_meet_X6_smaller rfl rfl rfl (by decide +kernel) ⟨Nat.le_of_ble_eq_true rfl, Nat.le_of_ble_eq_true rfl⟩) hK hE hA hM rfl hl.1 rfl (Nat.le_of_ble_eq_true rfl) dX6_meet_68 ⟨Nat.le_of_ble_eq_true rfl, Nat.le_of_ble_eq_true rfl⟩ (fun v f1 Hp lcs hp hM => ?_)
      obtain ⟨rfl, hf⟩ := hp; subst hf
      refine mn_iast hx hb hK hM (hI.high) i (by omega) (by decide) dX6_meet_71 (fun Hp lcs hM => ?_)
      have hI := hI.setHigh (upd (filN (metHi S x y) hi i) i (if (S (57 + 66 * x + (59 + i))) < (S (57 + 66 * y + (59 + i))) then (S (57 + 66 * x + (59 + i))) else (S (57 + 66 * y + (59 + i)))))
      refine lv_iload_n hx hb dX6_meet_72 rfl (lv_at hl 3 rfl) ?_
      refine lvb_eq (tgt := 97) hx hb dX6_meet_73 (by decide) (fun cz2 => ?_) (fun cz2 => ?_)
      · refine lv_iconst (v := (nI 0)) hx hb dX6_meet_97 (by decide +kernel) ?_
        refine lv_istore_n (lv' := [(3, .int (nI 0)), (0, .ref o), (1, .int (nI x)), (2, .int (nI y)), (4, .int (nI i))]) hx hb dX6_meet_98 rfl hl (by decide) rfl (fun ls hl => ?_)
        refine lv_iinc (v := (nI (i + 1))) (lv' := [(4, .int (nI (i + 1))), (3, .int (nI 0)), (0, .ref o), (1, .int (nI x)), (2, .int (nI y))]) hx hb dX6_meet_99 hl (k := 4) rfl (nI_add _ _) (by decide) rfl (fun ls hl => ?_)
        refine lv_goto (tgt := 5) hx hb dX6_meet_102 (by decide) ?_
        exact ih (i + 1) _ _ _ _ ls (by omega) (by simp [allN, bI, nI_lit, meeQ, pk_us, cz1, cz2]) (by rw [← filN_s, ← filN_s]; exact hI) (by omega) hM (lv_sub hl [2, 3, 4, 1, 0] rfl)
      refine lv_aload_n hx hb dX6_meet_76 rfl (lv_at hl 0 rfl) ?_
      refine mm_get (C := RX6) (T := TX6) (N := 14) (k := 6) hx hb hts (fun _ h => List.mem_cons_of_mem _ (List.mem_append_right _ h)) hown hK hM (hI.obj) rfl (by decide) (hts (.fieldLink RX6 19 "SentenceRulesModel" "low" "[I") (List.mem_of_getElem? (i := 1) rfl)) rfl rfl dX6_meet_77 ?_
      refine lv_iload hx hb dX6_meet_80 (lv_at hl 4 rfl) ?_
      refine mn_iald hx hb hK hM (hI.low) i (by omega) (by decide) dX6_meet_82 ?_
      refine lv_aload_n hx hb dX6_meet_83 rfl (lv_at hl 0 rfl) ?_
      refine mm_get (C := RX6) (T := TX6) (N := 14) (k := 7) hx hb hts (fun _ h => List.mem_cons_of_mem _ (List.mem_append_right _ h)) hown hK hM (hI.obj) rfl (by decide) (hts (.fieldLink RX6 22 "SentenceRulesModel" "high" "[I") (List.mem_of_getElem? (i := 2) rfl)) rfl rfl dX6_meet_84 ?_
      refine lv_iload hx hb dX6_meet_87 (lv_at hl 4 rfl) ?_
      refine mn_iald hx hb hK hM (hI.high) i (by omega) (by decide) dX6_meet_89 ?_
      refine mv_top (y := metHi S x y i) pk_us ?_
      refine mv_snd (y := metLo S x y i) pk_us ?_
      refine lv_icmp_gt (tgt := 97) hx hb dX6_meet_90 (by decide) (fun cz3 => ?_) (fun cz3 => ?_)
      · refine lv_iconst (v := (nI 0)) hx hb dX6_meet_97 (by decide +kernel) ?_
        refine lv_istore_n (lv' := [(3, .int (nI 0)), (0, .ref o), (1, .int (nI x)), (2, .int (nI y)), (4, .int (nI i))]) hx hb dX6_meet_98 rfl hl (by decide) rfl (fun ls hl => ?_)
        refine lv_iinc (v := (nI (i + 1))) (lv' := [(4, .int (nI (i + 1))), (3, .int (nI 0)), (0, .ref o), (1, .int (nI x)), (2, .int (nI y))]) hx hb dX6_meet_99 hl (k := 4) rfl (nI_add _ _) (by decide) rfl (fun ls hl => ?_)
        refine lv_goto (tgt := 5) hx hb dX6_meet_102 (by decide) ?_
        exact ih (i + 1) _ _ _ _ ls (by omega) (by simp [allN, bI, nI_lit, meeQ, pk_us, cz1, cz2, cz3]) (by rw [← filN_s, ← filN_s]; exact hI) (by omega) hM (lv_sub hl [2, 3, 4, 1, 0] rfl)
      refine lv_iconst (v := (nI 1)) hx hb dX6_meet_93 (by decide +kernel) ?_
      refine lv_goto (tgt := 98) hx hb dX6_meet_94 (by decide) ?_
      refine lv_istore_n (lv' := [(3, .int (nI 1)), (0, .ref o), (1, .int (nI x)), (2, .int (nI y)), (4, .int (nI i))]) hx hb dX6_meet_98 rfl hl (by decide) rfl (fun ls hl => ?_)
      refine lv_iinc (v := (nI (i + 1))) (lv' := [(4, .int (nI (i + 1))), (3, .int (nI 1)), (0, .ref o), (1, .int (nI x)), (2, .int (nI y))]) hx hb dX6_meet_99 hl (k := 4) rfl (nI_add _ _) (by decide) rfl (fun ls hl => ?_)
      refine lv_goto (tgt := 5) hx hb dX6_meet_102 (by decide) ?_
      exact ih (i + 1) _ _ _ _ ls (by omega) (by simp [allN, bI, nI_lit, meeQ, pk_us, cz1, cz2, cz3]) (by rw [← filN_s, ← filN_s]; exact hI) (by omega) hM (lv_sub hl [2, 3, 4, 1, 0] rfl)
  exact loopZ 8 0 _ _ _ _ ls (Nat.zero_le _) (by simp [allN, bI, nI_lit]) (by rw [filN_0, filN_0]; exact hI) (by omega) hM (lv_sub hl [2, 3, 4, 1, 0] rfl)
set_option maxHeartbeats 4000000 in
set_option maxRecDepth 100000 in
theorem c6_hasRegion (l : Launch) (G : mG) {f : mE} {o : Nat} {a : Nat → Nat} {S P lo hi ou : Nat → Int32} {rc isr wd us ab gi wr wo : Int32} (hI : RI G f o a S P lo hi ou rc isr wd us ab gi wr wo) (k : Nat) (hk : k < 16) : mC l G yX6_hasRegion wsX6_hasRegion ({ frames := 1, cells := 0, slots := 0, locals := 22 } : Room) f [.ref o, .int (nI k)] (fun v f1 => v = some (.int (bI (allN (hrgQ S lo hi k) 7))) ∧ f = f1) 0 0 := by
  refine mC.of (cc := cX6_hasRegion) (maxL := 4) (ret := (some .boolean)) (by decide) rfl (Nat.le_of_ble_eq_true rfl) ?_
  intro pgm env s mt args below meth c A ls hx hb hml hr hlocks hown hname hts hK hE hA hM hl
  have hl : lv_has ls 4 [(0, .ref o), (1, .int (nI k))] := hl
  refine lv_iconst (v := (nI 1)) hx hb dX6_hasRegion_0 (by decide +kernel) ?_
  refine lv_istore_n (lv' := [(2, .int (nI 1)), (0, .ref o), (1, .int (nI k))]) hx hb dX6_hasRegion_1 rfl hl (by decide) rfl (fun ls hl => ?_)
  refine lv_iconst (v := (nI 0)) hx hb dX6_hasRegion_2 (by decide +kernel) ?_
  refine lv_istore_n (lv' := [(3, .int (nI 0)), (2, .int (nI 1)), (0, .ref o), (1, .int (nI k))]) hx hb dX6_hasRegion_3 rfl hl (by decide) rfl (fun ls hl => ?_)
  have loopZ : ∀ (fuel : Nat) (i : Nat) (aw : Int32) (Hp : Heap) (lcs : List Loc) (ls : Array Slot) (hiN : i ≤ 7) (hr0 : aw = bI (allN (hrgQ S lo hi k) i)) (hfu : 7 - i < fuel) (hM : mM G A s.heap f Hp lcs) (hl : lv_has ls 4 [(0, .ref o), (1, .int (nI k)), (2, .int aw), (3, .int (nI i))]), W pgm l env ({ frames := 1, cells := 0, slots := 0, locals := 22 } : Room) s mt args below meth c Hp lcs 0 0 (MQ below (mQc G A (fun v f1 => v = some (.int (bI (allN (hrgQ S lo hi k) 7))) ∧ f = f1)) args s 0 0 A) (F0 mt 4 ls []) := by
    intro fuel
    induction fuel with
    | zero => intro i aw Hp lcs ls hiN hr0 hfu; exact absurd hfu (Nat.not_lt_zero _)
    | succ fuel ih =>
      intro i aw Hp lcs ls hiN hr0 hfu hM hl
      subst hr0
      refine lv_iload_n hx hb dX6_hasRegion_4 rfl (lv_at hl 3 rfl) ?_
      refine lv_bipush (v := (nI 7)) hx hb dX6_hasRegion_5 (by decide +kernel) ?_
      refine ln_icmp_ge i 7 (by omega) (by omega) (tgt := 62) hx hb dX6_hasRegion_7 (by decide) (fun cz1 => ?_) (fun cz1 => ?_)
      · refine lv_iload_n hx hb dX6_hasRegion_62 rfl (lv_at hl 2 rfl) ?_
        exact mm_zret hx hb hlocks hr (by first | rfl | exact bI_nar _) (Nat.le_of_ble_eq_true rfl) (Nat.le_of_ble_eq_true rfl) hM ((by have hz : i = 7 := (by omega); subst hz; exact ⟨rfl, rfl⟩)) dX6_hasRegion_63
      refine lv_iload_n hx hb dX6_hasRegion_10 rfl (lv_at hl 2 rfl) ?_
      refine lvb_eq (tgt := 54) hx hb dX6_hasRegion_11 (by decide) (fun cz2 => ?_) (fun cz2 => ?_)
      · refine lv_iconst (v := (nI 0)) hx hb dX6_hasRegion_54 (by decide +kernel) ?_
        refine lv_istore_n (lv' := [(2, .int (nI 0)), (0, .ref o), (1, .int (nI k)), (3, .int (nI i))]) hx hb dX6_hasRegion_55 rfl hl (by decide) rfl (fun ls hl => ?_)
        refine lv_iinc (v := (nI (i + 1))) (lv' := [(3, .int (nI (i + 1))), (2, .int (nI 0)), (0, .ref o), (1, .int (nI k))]) hx hb dX6_hasRegion_56 hl (k := 3) rfl (nI_add _ _) (by decide) rfl (fun ls hl => ?_)
        refine lv_goto (tgt := 4) hx hb dX6_hasRegion_59 (by decide) ?_
        exact ih (i + 1) _ _ _ ls (by omega) (by simp [allN, bI, nI_lit, hrgQ, cz1, cz2]) (by omega) hM (lv_sub hl [2, 3, 1, 0] rfl)
      refine lv_aload_n hx hb dX6_hasRegion_14 rfl (lv_at hl 0 rfl) ?_
      refine lv_iload_n hx hb dX6_hasRegion_15 rfl (lv_at hl 1 rfl) ?_
      refine lv_bipush (v := (nI 52)) hx hb dX6_hasRegion_16 (by decide +kernel) ?_
      refine lv_iload_n hx hb dX6_hasRegion_18 rfl (lv_at hl 3 rfl) ?_
      refine ln_iadd 52 i hx hb dX6_hasRegion_19 ?_
      refine mm_V (As := [.int (nI k), .int (nI (52 + i))]) (rest := []) ⟨hx, hb, hml, hown, hts⟩ (c6_of l G hI k (52 + i) (by omega)) (cwV 2 hts gX6_hasRegion_X6_of rfl rfl rfl (by decide +kernel) ⟨Nat.le_of_ble_eq_true rfl, Nat.le_of_ble_eq_true rfl⟩) hK hE hA hM (mm_recv hK hM (hI.obj) (q := (RX6, TX6, 14)) rfl) rfl hl.1 rfl (Nat.le_of_ble_eq_true rfl) dX6_hasRegion_20 ⟨Nat.le_of_ble_eq_true rfl, Nat.le_of_ble_eq_true rfl⟩ (fun v f1 Hp lcs hp hM => ?_)
      obtain ⟨rfl, hf⟩ := hp; subst hf
      refine lv_aload_n hx hb dX6_hasRegion_23 rfl (lv_at hl 0 rfl) ?_
      refine mm_get (C := RX6) (T := TX6) (N := 14) (k := 6) hx hb hts (fun _ h => List.mem_cons_of_mem _ (List.mem_append_right _ h)) hown hK hM (hI.obj) rfl (by decide) (hts (.fieldLink RX6 19 "SentenceRulesModel" "low" "[I") (List.mem_of_getElem? (i := 1) rfl)) rfl rfl dX6_hasRegion_24 ?_
      refine lv_iload_n hx hb dX6_hasRegion_27 rfl (lv_at hl 3 rfl) ?_
      refine mn_iald hx hb hK hM (hI.low) i (by omega) (by decide) dX6_hasRegion_28 ?_
      refine lv_icmp_ne (tgt := 54) hx hb dX6_hasRegion_29 (by decide) (fun cz3 => ?_) (fun cz3 => ?_)
      · refine lv_iconst (v := (nI 0)) hx hb dX6_hasRegion_54 (by decide +kernel) ?_
        refine lv_istore_n (lv' := [(2, .int (nI 0)), (0, .ref o), (1, .int (nI k)), (3, .int (nI i))]) hx hb dX6_hasRegion_55 rfl hl (by decide) rfl (fun ls hl => ?_)
        refine lv_iinc (v := (nI (i + 1))) (lv' := [(3, .int (nI (i + 1))), (2, .int (nI 0)), (0, .ref o), (1, .int (nI k))]) hx hb dX6_hasRegion_56 hl (k := 3) rfl (nI_add _ _) (by decide) rfl (fun ls hl => ?_)
        refine lv_goto (tgt := 4) hx hb dX6_hasRegion_59 (by decide) ?_
        exact ih (i + 1) _ _ _ ls (by omega) (by simp [allN, bI, nI_lit, hrgQ, cz1, cz2, cz3]) (by omega) hM (lv_sub hl [2, 3, 1, 0] rfl)
      refine lv_aload_n hx hb dX6_hasRegion_32 rfl (lv_at hl 0 rfl) ?_
      refine lv_iload_n hx hb dX6_hasRegion_33 rfl (lv_at hl 1 rfl) ?_
      refine lv_bipush (v := (nI 59)) hx hb dX6_hasRegion_34 (by decide +kernel) ?_
      refine lv_iload_n hx hb dX6_hasRegion_36 rfl (lv_at hl 3 rfl) ?_
      refine ln_iadd 59 i hx hb dX6_hasRegion_37 ?_
      refine mm_V (As := [.int (nI k), .int (nI (59 + i))]) (rest := []) ⟨hx, hb, hml, hown, hts⟩ (c6_of l G hI k (59 + i) (by omega)) (cwV 2 hts gX6_hasRegion_X6_of rfl rfl rfl (by decide +kernel) ⟨Nat.le_of_ble_eq_true rfl, Nat.le_of_ble_eq_true rfl⟩) hK hE hA hM (mm_recv hK hM (hI.obj) (q := (RX6, TX6, 14)) rfl) rfl hl.1 rfl (Nat.le_of_ble_eq_true rfl) dX6_hasRegion_38 ⟨Nat.le_of_ble_eq_true rfl, Nat.le_of_ble_eq_true rfl⟩ (fun v f1 Hp lcs hp hM => ?_)
      obtain ⟨rfl, hf⟩ := hp; subst hf
      refine lv_aload_n hx hb dX6_hasRegion_41 rfl (lv_at hl 0 rfl) ?_
      refine mm_get (C := RX6) (T := TX6) (N := 14) (k := 7) hx hb hts (fun _ h => List.mem_cons_of_mem _ (List.mem_append_right _ h)) hown hK hM (hI.obj) rfl (by decide) (hts (.fieldLink RX6 22 "SentenceRulesModel" "high" "[I") (List.mem_of_getElem? (i := 2) rfl)) rfl rfl dX6_hasRegion_42 ?_
      refine lv_iload_n hx hb dX6_hasRegion_45 rfl (lv_at hl 3 rfl) ?_
      refine mn_iald hx hb hK hM (hI.high) i (by omega) (by decide) dX6_hasRegion_46 ?_
      refine lv_icmp_ne (tgt := 54) hx hb dX6_hasRegion_47 (by decide) (fun cz4 => ?_) (fun cz4 => ?_)
      · refine lv_iconst (v := (nI 0)) hx hb dX6_hasRegion_54 (by decide +kernel) ?_
        refine lv_istore_n (lv' := [(2, .int (nI 0)), (0, .ref o), (1, .int (nI k)), (3, .int (nI i))]) hx hb dX6_hasRegion_55 rfl hl (by decide) rfl (fun ls hl => ?_)
        refine lv_iinc (v := (nI (i + 1))) (lv' := [(3, .int (nI (i + 1))), (2, .int (nI 0)), (0, .ref o), (1, .int (nI k))]) hx hb dX6_hasRegion_56 hl (k := 3) rfl (nI_add _ _) (by decide) rfl (fun ls hl => ?_)
        refine lv_goto (tgt := 4) hx hb dX6_hasRegion_59 (by decide) ?_
        exact ih (i + 1) _ _ _ ls (by omega) (by simp [allN, bI, nI_lit, hrgQ, cz1, cz2, cz3, cz4]) (by omega) hM (lv_sub hl [2, 3, 1, 0] rfl)
      refine lv_iconst (v := (nI 1)) hx hb dX6_hasRegion_50 (by decide +kernel) ?_
      refine lv_goto (tgt := 55) hx hb dX6_hasRegion_51 (by decide) ?_
      refine lv_istore_n (lv' := [(2, .int (nI 1)), (0, .ref o), (1, .int (nI k)), (3, .int (nI i))]) hx hb dX6_hasRegion_55 rfl hl (by decide) rfl (fun ls hl => ?_)
      refine lv_iinc (v := (nI (i + 1))) (lv' := [(3, .int (nI (i + 1))), (2, .int (nI 1)), (0, .ref o), (1, .int (nI k))]) hx hb dX6_hasRegion_56 hl (k := 3) rfl (nI_add _ _) (by decide) rfl (fun ls hl => ?_)
      refine lv_goto (tgt := 4) hx hb dX6_hasRegion_59 (by decide) ?_
      exact ih (i + 1) _ _ _ ls (by omega) (by simp [allN, bI, nI_lit, hrgQ, cz1, cz2, cz3, cz4]) (by omega) hM (lv_sub hl [2, 3, 1, 0] rfl)
  exact loopZ (7 + 1) 0 _ _ _ ls (Nat.zero_le _) (by simp [allN, bI, nI_lit]) (by omega) hM (lv_sub hl [2, 3, 1, 0] rfl)
set_option maxHeartbeats 4000000 in
set_option maxRecDepth 100000 in
theorem c6_contradict (l : Launch) (G : mG) {f : mE} {o : Nat} {a : Nat → Nat} {S P lo hi ou : Nat → Int32} {rc isr wd us ab gi wr wo : Int32} (hI : RI G f o a S P lo hi ou rc isr wd us ab gi wr wo) {n : Nat} (hn : S 56 = nI n) (hn16 : n ≤ 16) (x y : Nat) (hx6 : x < 16) (hy6 : y < 16) : mC l G yX6_contradict wsX6_contradict ({ frames := 3, cells := 0, slots := 0, locals := 68 } : Room) f [.ref o, .int (nI x), .int (nI y)] (fun v f1 => v = some (.int (bI (ctdB S n x y))) ∧ ∃ lo1 hi1, RI G f1 o a S P lo1 hi1 ou rc isr wd us ab gi wr wo) 0 0 := by
  refine mC.of (cc := cX6_contradict) (maxL := 5) (ret := (some .boolean)) (by decide) rfl (Nat.le_of_ble_eq_true rfl) ?_
  intro pgm env s mt args below meth c A ls hx hb hml hr hlocks hown hname hts hK hE hA hM hl
  have hl : lv_has ls 5 [(0, .ref o), (1, .int (nI x)), (2, .int (nI y))] := hl
  refine lv_aload_n hx hb dX6_contradict_0 rfl (lv_at hl 0 rfl) ?_
  refine lv_iload_n hx hb dX6_contradict_1 rfl (lv_at hl 1 rfl) ?_
  refine lv_bipush (v := (nI 49)) hx hb dX6_contradict_2 (by decide +kernel) ?_
  refine mm_V (As := [.int (nI x), .int (nI 49)]) (rest := []) ⟨hx, hb, hml, hown, hts⟩ (c6_of l G hI x 49 (by omega)) (cwV 2 hts gX6_contradict_X6_of rfl rfl rfl (by decide +kernel) ⟨Nat.le_of_ble_eq_true rfl, Nat.le_of_ble_eq_true rfl⟩) hK hE hA hM (mm_recv hK hM (hI.obj) (q := (RX6, TX6, 14)) rfl) rfl hl.1 rfl (Nat.le_of_ble_eq_true rfl) dX6_contradict_4 ⟨Nat.le_of_ble_eq_true rfl, Nat.le_of_ble_eq_true rfl⟩ (fun v f1 Hp lcs hp hM => ?_)
  obtain ⟨rfl, hf⟩ := hp; subst hf
  refine lv_istore_n (lv' := [(3, .int (S (57 + 66 * x + 49))), (0, .ref o), (1, .int (nI x)), (2, .int (nI y))]) hx hb dX6_contradict_7 rfl hl (by decide) rfl (fun ls hl => ?_)
  refine lv_iload_n hx hb dX6_contradict_8 rfl (lv_at hl 0 rfl) ?_
  refine lv_bipush (v := (nI 10)) hx hb dX6_contradict_9 (by decide +kernel) ?_
  refine lv_icmp_ge (tgt := 69) hx hb dX6_contradict_11 (by decide) (fun cz1 => ?_) (fun cz1 => ?_)
  · refine lv_iconst (v := (nI 0)) hx hb dX6_contradict_69 (by decide +kernel) ?_
    exact mm_zret hx hb hlocks hr (by first | rfl | exact bI_nar _) (Nat.le_of_ble_eq_true rfl) (Nat.le_of_ble_eq_true rfl) hM (⟨by rw [show ctdB S n x y = false from ctdB_f (by simp [ctdP, cz1, Nat.not_lt])]; rfl, _, _, hI⟩) dX6_contradict_70
  refine lv_aload_n hx hb dX6_contradict_14 rfl (lv_at hl 1 rfl) ?_
  refine lv_iload_n hx hb dX6_contradict_15 rfl (lv_at hl 3 rfl) ?_
  refine lv_bipush (v := (nI 49)) hx hb dX6_contradict_16 (by decide +kernel) ?_
  refine mm_V (As := [.int (nI y), .int (nI 49)]) (rest := []) ⟨hx, hb, hml, hown, hts⟩ (c6_of l G hI y 49 (by omega)) (cwV 2 hts gX6_contradict_X6_of rfl rfl rfl (by decide +kernel) ⟨Nat.le_of_ble_eq_true rfl, Nat.le_of_ble_eq_true rfl⟩) hK hE hA hM (mm_recv hK hM (hI.obj) (q := (RX6, TX6, 14)) rfl) rfl hl.1 rfl (Nat.le_of_ble_eq_true rfl) dX6_contradict_18 ⟨Nat.le_of_ble_eq_true rfl, Nat.le_of_ble_eq_true rfl⟩ (fun v f1 Hp lcs hp hM => ?_)
  obtain ⟨rfl, hf⟩ := hp; subst hf
  refine lv_iload_n hx hb dX6_contradict_21 rfl (lv_at hl 0 rfl) ?_
  refine lv_icmp_ne (tgt := 69) hx hb dX6_contradict_22 (by decide) (fun cz2 => ?_) (fun cz2 => ?_)
  · refine lv_iconst (v := (nI 0)) hx hb dX6_contradict_69 (by decide +kernel) ?_
    exact mm_zret hx hb hlocks hr (by first | rfl | exact bI_nar _) (Nat.le_of_ble_eq_true rfl) (Nat.le_of_ble_eq_true rfl) hM (⟨by rw [show ctdB S n x y = false from ctdB_f (by simp [ctdP, cz1, cz2, Nat.not_lt])]; rfl, _, _, hI⟩) dX6_contradict_70
  refine lv_aload_n hx hb dX6_contradict_25 rfl (lv_at hl 1 rfl) ?_
  refine lv_iload_n hx hb dX6_contradict_26 rfl (lv_at hl 2 rfl) ?_
  refine lv_bipush (v := (nI 50)) hx hb dX6_contradict_27 (by decide +kernel) ?_
  refine mm_V (As := [.int (nI x), .int (nI 50)]) (rest := []) ⟨hx, hb, hml, hown, hts⟩ (c6_of l G hI x 50 (by omega)) (cwV 2 hts gX6_contradict_X6_of rfl rfl rfl (by decide +kernel) ⟨Nat.le_of_ble_eq_true rfl, Nat.le_of_ble_eq_true rfl⟩) hK hE hA hM (mm_recv hK hM (hI.obj) (q := (RX6, TX6, 14)) rfl) rfl hl.1 rfl (Nat.le_of_ble_eq_true rfl) dX6_contradict_29 ⟨Nat.le_of_ble_eq_true rfl, Nat.le_of_ble_eq_true rfl⟩ (fun v f1 Hp lcs hp hM => ?_)
  obtain ⟨rfl, hf⟩ := hp; subst hf
  refine lv_aload_n hx hb dX6_contradict_32 rfl (lv_at hl 1 rfl) ?_
  refine lv_iload_n hx hb dX6_contradict_33 rfl (lv_at hl 3 rfl) ?_
  refine lv_bipush (v := (nI 50)) hx hb dX6_contradict_34 (by decide +kernel) ?_
  refine mm_V (As := [.int (nI y), .int (nI 50)]) (rest := [.int (S (57 + 66 * x + 50))]) ⟨hx, hb, hml, hown, hts⟩ (c6_of l G hI y 50 (by omega)) (cwV 2 hts gX6_contradict_X6_of rfl rfl rfl (by decide +kernel) ⟨Nat.le_of_ble_eq_true rfl, Nat.le_of_ble_eq_true rfl⟩) hK hE hA hM (mm_recv hK hM (hI.obj) (q := (RX6, TX6, 14)) rfl) rfl hl.1 rfl (Nat.le_of_ble_eq_true rfl) dX6_contradict_36 ⟨Nat.le_of_ble_eq_true rfl, Nat.le_of_ble_eq_true rfl⟩ (fun v f1 Hp lcs hp hM => ?_)
  obtain ⟨rfl, hf⟩ := hp; subst hf
  refine lv_icmp_eq (tgt := 69) hx hb dX6_contradict_39 (by decide) (fun cz3 => ?_) (fun cz3 => ?_)
  · refine lv_iconst (v := (nI 0)) hx hb dX6_contradict_69 (by decide +kernel) ?_
    exact mm_zret hx hb hlocks hr (by first | rfl | exact bI_nar _) (Nat.le_of_ble_eq_true rfl) (Nat.le_of_ble_eq_true rfl) hM (⟨by rw [show ctdB S n x y = false from ctdB_f (by simp [ctdP, cz1, cz2, cz3, Nat.not_lt])]; rfl, _, _, hI⟩) dX6_contradict_70
  refine lv_aload_n hx hb dX6_contradict_42 rfl (lv_at hl 1 rfl) ?_
  refine lv_iload_n hx hb dX6_contradict_43 rfl (lv_at hl 2 rfl) ?_
  refine lv_iload_n hx hb dX6_contradict_44 rfl (lv_at hl 3 rfl) ?_
  refine mm_V (As := [.int (nI x), .int (nI y)]) (rest := []) ⟨hx, hb, hml, hown, hts⟩ (c6_isStrictly l G hI x y (by omega) (by omega)) (cwV 2 hts gX6_contradict_X6_isStrictly rfl rfl rfl (by decide +kernel) ⟨Nat.le_of_ble_eq_true rfl, Nat.le_of_ble_eq_true rfl⟩) hK hE hA hM (mm_recv hK hM (hI.obj) (q := (RX6, TX6, 14)) rfl) rfl hl.1 rfl (Nat.le_of_ble_eq_true rfl) dX6_contradict_45 ⟨Nat.le_of_ble_eq_true rfl, Nat.le_of_ble_eq_true rfl⟩ (fun v f1 Hp lcs hp hM => ?_)
  obtain ⟨rfl, hf⟩ := hp; subst hf
  refine lvb_ne (tgt := 69) hx hb dX6_contradict_48 (by decide) (fun cz4 => ?_) (fun cz4 => ?_)
  · refine lv_iconst (v := (nI 0)) hx hb dX6_contradict_69 (by decide +kernel) ?_
    exact mm_zret hx hb hlocks hr (by first | rfl | exact bI_nar _) (Nat.le_of_ble_eq_true rfl) (Nat.le_of_ble_eq_true rfl) hM (⟨by rw [show ctdB S n x y = false from ctdB_f (by simp [ctdP, cz1, cz2, cz3, cz4, Nat.not_lt])]; rfl, _, _, hI⟩) dX6_contradict_70
  refine lv_aload_n hx hb dX6_contradict_51 rfl (lv_at hl 1 rfl) ?_
  refine lv_iload_n hx hb dX6_contradict_52 rfl (lv_at hl 3 rfl) ?_
  refine lv_iload_n hx hb dX6_contradict_53 rfl (lv_at hl 2 rfl) ?_
  refine mm_V (As := [.int (nI y), .int (nI x)]) (rest := []) ⟨hx, hb, hml, hown, hts⟩ (c6_isStrictly l G hI y x (by omega) (by omega)) (cwV 2 hts gX6_contradict_X6_isStrictly rfl rfl rfl (by decide +kernel) ⟨Nat.le_of_ble_eq_true rfl, Nat.le_of_ble_eq_true rfl⟩) hK hE hA hM (mm_recv hK hM (hI.obj) (q := (RX6, TX6, 14)) rfl) rfl hl.1 rfl (Nat.le_of_ble_eq_true rfl) dX6_contradict_54 ⟨Nat.le_of_ble_eq_true rfl, Nat.le_of_ble_eq_true rfl⟩ (fun v f1 Hp lcs hp hM => ?_)
  obtain ⟨rfl, hf⟩ := hp; subst hf
  refine lvb_ne (tgt := 69) hx hb dX6_contradict_57 (by decide) (fun cz5 => ?_) (fun cz5 => ?_)
  · refine lv_iconst (v := (nI 0)) hx hb dX6_contradict_69 (by decide +kernel) ?_
    exact mm_zret hx hb hlocks hr (by first | rfl | exact bI_nar _) (Nat.le_of_ble_eq_true rfl) (Nat.le_of_ble_eq_true rfl) hM (⟨by rw [show ctdB S n x y = false from ctdB_f (by simp [ctdP, cz1, cz2, cz3, cz4, cz5, Nat.not_lt])]; rfl, _, _, hI⟩) dX6_contradict_70
  refine lv_aload_n hx hb dX6_contradict_60 rfl (lv_at hl 1 rfl) ?_
  refine lv_iload_n hx hb dX6_contradict_61 rfl (lv_at hl 2 rfl) ?_
  refine lv_iload_n hx hb dX6_contradict_62 rfl (lv_at hl 3 rfl) ?_
  refine mm_V (As := [.int (nI x), .int (nI y)]) (rest := []) ⟨hx, hb, hml, hown, hts⟩ (c6_meet l G hI x y (by omega) (by omega)) (cwV 2 hts gX6_contradict_X6_meet rfl rfl rfl (by decide +kernel) ⟨Nat.le_of_ble_eq_true rfl, Nat.le_of_ble_eq_true rfl⟩) hK hE hA hM (mm_recv hK hM (hI.obj) (q := (RX6, TX6, 14)) rfl) rfl hl.1 rfl (Nat.le_of_ble_eq_true rfl) dX6_contradict_63 ⟨Nat.le_of_ble_eq_true rfl, Nat.le_of_ble_eq_true rfl⟩ (fun v gz6 Hp lcs hp hM => ?_)
  obtain ⟨rfl, hI⟩ := hp
  refine lvb_ne (tgt := 71) hx hb dX6_contradict_66 (by decide) (fun cz7 => ?_) (fun cz7 => ?_)
  · refine lv_iconst (v := (nI 0)) hx hb dX6_contradict_71 (by decide +kernel) ?_
    refine lv_istore (lv' := [(4, .int (nI 0)), (3, .int (S (57 + 66 * x + 49))), (0, .ref o), (1, .int (nI x)), (2, .int (nI y))]) hx hb dX6_contradict_72 hl (by decide) rfl (fun ls hl => ?_)
    have loopZ : ∀ (fuel : Nat) (i : Nat) (Hp : Heap) (lcs : List Loc) (ls : Array Slot) (hiN : i ≤ n) (hall : ∀ j, j < i → ctdQ S x y j = false) (hfu : n - i < fuel) (hM : mM G A s.heap gz6 Hp lcs) (hl : lv_has ls 5 [(0, .ref o), (1, .int (nI x)), (2, .int (nI y)), (3, .int (S (57 + 66 * x + 49))), (4, .int (nI i))]), W pgm l env ({ frames := 3, cells := 0, slots := 0, locals := 68 } : Room) s mt args below meth c Hp lcs 0 0 (MQ below (mQc G A (fun v f1 => v = some (.int (bI (ctdB S n x y))) ∧ ∃ lo1 hi1, RI G f1 o a S P lo1 hi1 ou rc isr wd us ab gi wr wo)) args s 0 0 A) (F0 mt 74 ls []) := by
      intro fuel
      induction fuel with
      | zero => intro i Hp lcs ls hiN hall hfu; exact absurd hfu (Nat.not_lt_zero _)
      | succ fuel ih =>
        intro i Hp lcs ls hiN hall hfu hM hl
        refine lv_iload hx hb dX6_contradict_74 (lv_at hl 4 rfl) ?_
        refine lv_aload_n hx hb dX6_contradict_76 rfl (lv_at hl 0 rfl) ?_
        refine mm_get (C := RX6) (T := TX6) (N := 14) (k := 0) hx hb hts (fun _ h => List.mem_cons_of_mem _ (List.mem_append_right _ h)) hown hK hM (hI.obj) rfl (by decide) (hts (.fieldLink RX6 7 "SentenceRulesModel" "now" "[I") (List.mem_of_getElem? (i := 1) rfl)) rfl rfl dX6_contradict_77 ?_
        refine lv_bipush (v := (nI 56)) hx hb dX6_contradict_80 (by decide +kernel) ?_
        refine mn_iald hx hb hK hM (hI.now) 56 (by omega) (by decide) dX6_contradict_82 ?_
        refine mv_top hn ?_
        refine ln_icmp_ge i n (by omega) (by omega) (tgt := 115) hx hb dX6_contradict_83 (by decide) (fun cz8 => ?_) (fun cz8 => ?_)
        · refine lv_iconst (v := (nI 1)) hx hb dX6_contradict_115 (by decide +kernel) ?_
          exact mm_zret hx hb hlocks hr (by first | rfl | exact bI_nar _) (Nat.le_of_ble_eq_true rfl) (Nat.le_of_ble_eq_true rfl) hM (⟨by rw [show ctdB S n x y = true from ctdB_t (by simp [ctdP, cz1, cz2, cz3, cz4, cz5, cz7]) (exN_no (fun j hj => hall j (by omega)))]; rfl, _, _, hI⟩) dX6_contradict_116
        refine lv_aload_n hx hb dX6_contradict_86 rfl (lv_at hl 0 rfl) ?_
        refine lv_iload hx hb dX6_contradict_87 (lv_at hl 4 rfl) ?_
        refine lv_bipush (v := (nI 49)) hx hb dX6_contradict_89 (by decide +kernel) ?_
        refine mm_V (As := [.int (nI i), .int (nI 49)]) (rest := []) ⟨hx, hb, hml, hown, hts⟩ (c6_of l G hI i 49 (by omega)) (cwV 2 hts gX6_contradict_X6_of rfl rfl rfl (by decide +kernel) ⟨Nat.le_of_ble_eq_true rfl, Nat.le_of_ble_eq_true rfl⟩) hK hE hA hM (mm_recv hK hM (hI.obj) (q := (RX6, TX6, 14)) rfl) rfl hl.1 rfl (Nat.le_of_ble_eq_true rfl) dX6_contradict_91 ⟨Nat.le_of_ble_eq_true rfl, Nat.le_of_ble_eq_true rfl⟩ (fun v f1 Hp lcs hp hM => ?_)
        obtain ⟨rfl, hf⟩ := hp; subst hf
        refine lv_iload_n hx hb dX6_contradict_94 rfl (lv_at hl 3 rfl) ?_
        refine lv_icmp_ne (tgt := 109) hx hb dX6_contradict_95 (by decide) (fun cz9 => ?_) (fun cz9 => ?_)
        · refine lv_iinc (v := (nI (i + 1))) (lv' := [(4, .int (nI (i + 1))), (0, .ref o), (1, .int (nI x)), (2, .int (nI y)), (3, .int (S (57 + 66 * x + 49)))]) hx hb dX6_contradict_109 hl (k := 4) rfl (nI_add _ _) (by decide) rfl (fun ls hl => ?_)
          refine lv_goto (tgt := 74) hx hb dX6_contradict_112 (by decide) ?_
          exact ih (i + 1) _ _ ls (by omega) (fun j hj => (Nat.lt_succ_iff_lt_or_eq.mp hj).elim (hall j) (fun z => by subst z; simp [ctdQ, cz8, cz9])) (by omega) hM (lv_sub hl [1, 2, 3, 4, 0] rfl)
        refine lv_aload_n hx hb dX6_contradict_98 rfl (lv_at hl 0 rfl) ?_
        refine lv_iload hx hb dX6_contradict_99 (lv_at hl 4 rfl) ?_
        refine mm_V (As := [.int (nI i)]) (rest := []) ⟨hx, hb, hml, hown, hts⟩ (c6_hasRegion l G hI i (by omega)) (cwV 1 hts gX6_contradict_X6_hasRegion rfl rfl rfl (by decide +kernel) ⟨Nat.le_of_ble_eq_true rfl, Nat.le_of_ble_eq_true rfl⟩) hK hE hA hM (mm_recv hK hM (hI.obj) (q := (RX6, TX6, 14)) rfl) rfl hl.1 rfl (Nat.le_of_ble_eq_true rfl) dX6_contradict_101 ⟨Nat.le_of_ble_eq_true rfl, Nat.le_of_ble_eq_true rfl⟩ (fun v f1 Hp lcs hp hM => ?_)
        obtain ⟨rfl, hf⟩ := hp; subst hf
        refine mv_top (congrArg bI (hrg_fil _ _ _ _ _ _)) ?_
        refine lvb_eq (tgt := 109) hx hb dX6_contradict_104 (by decide) (fun cz10 => ?_) (fun cz10 => ?_)
        · refine lv_iinc (v := (nI (i + 1))) (lv' := [(4, .int (nI (i + 1))), (0, .ref o), (1, .int (nI x)), (2, .int (nI y)), (3, .int (S (57 + 66 * x + 49)))]) hx hb dX6_contradict_109 hl (k := 4) rfl (nI_add _ _) (by decide) rfl (fun ls hl => ?_)
          refine lv_goto (tgt := 74) hx hb dX6_contradict_112 (by decide) ?_
          exact ih (i + 1) _ _ ls (by omega) (fun j hj => (Nat.lt_succ_iff_lt_or_eq.mp hj).elim (hall j) (fun z => by subst z; simp [ctdQ, cz8, cz9, cz10])) (by omega) hM (lv_sub hl [1, 2, 3, 4, 0] rfl)
        refine lv_iconst (v := (nI 0)) hx hb dX6_contradict_107 (by decide +kernel) ?_
        exact mm_zret hx hb hlocks hr (by first | rfl | exact bI_nar _) (Nat.le_of_ble_eq_true rfl) (Nat.le_of_ble_eq_true rfl) hM (⟨by rw [show ctdB S n x y = false from ctdB_x (exN_yes (i := i) (by omega) (by simp [ctdQ, cz8, cz9, cz10]))]; rfl, _, _, hI⟩) dX6_contradict_108
    exact loopZ (n + 1) 0 _ _ ls (Nat.zero_le _) (fun j hj => absurd hj (Nat.not_lt_zero j)) (by omega) hM (lv_sub hl [2, 3, 4, 1, 0] rfl)
  refine lv_iconst (v := (nI 0)) hx hb dX6_contradict_69 (by decide +kernel) ?_
  exact mm_zret hx hb hlocks hr (by first | rfl | exact bI_nar _) (Nat.le_of_ble_eq_true rfl) (Nat.le_of_ble_eq_true rfl) hM (⟨by rw [show ctdB S n x y = false from ctdB_f (by simp [ctdP, cz1, cz2, cz3, cz4, cz5, cz7, Nat.not_lt])]; rfl, _, _, hI⟩) dX6_contradict_70
