/-! THE REFERENCE: telling, and along the borders -/
theorem allN_s (q : Nat → Bool) (i : Nat) : allN q (i + 1) = (allN q i && q i) := rfl
theorem bIfv {b : Bool} (h : b = false) : some (Value.int (nI 0)) = some (Value.int (bI b)) := by rw [h]; rfl
def caA (S : Nat → Int32) (n : Nat) (ab : Int32) : Bool := decide (ab < nI 10) || decide (defI S n (ab - nI 10) = -100005)
def caW (S : Nat → Int32) (n : Nat) (us : Int32) (w : Nat) : Bool := decide ((us >>> (nI w &&& 31)) &&& nI 1 = 0) || !decide (defI S n (nI w) = -100005)
def caF (lo hi : Nat → Int32) (i : Nat) : Bool := !decide (hi i < lo i)
def canB (S : Nat → Int32) (n cn : Nat) (ir wt : Bool) (lo hi : Nat → Int32) (ab : Int32) : Bool := decide ((errF S cn 0 ir wt 0).1 = -100005) && (caA S n (rsAll S n cn lo hi ab).2.2.2.1 && allN (caW S n (rsAll S n cn lo hi ab).2.2.1) 6 && allN (caF (rsAll S n cn lo hi ab).1 (rsAll S n cn lo hi ab).2.1) 7)
theorem canB_e {S : Nat → Int32} {n cn : Nat} {ir wt : Bool} {lo hi : Nat → Int32} {ab : Int32} (h : canB S n cn ir wt lo hi ab = true) : (errF S cn 0 ir wt 0).1 = -100005 := by
  rw [canB, Bool.and_eq_true] at h; exact of_decide_eq_true h.1
def telC (S : Nat → Int32) (n i : Nat) : Nat → Int32 := fun j => if 57 + 66 * n ≤ j ∧ j < 57 + 66 * n + i then S (7 + (j - (57 + 66 * n))) else S j
theorem telC_0 (S : Nat → Int32) (n : Nat) : telC S n 0 = S := by funext j; unfold telC; rw [if_neg (by omega)]
theorem telC_s {S : Nat → Int32} {n i : Nat} (hi : i < 49) : upd (telC S n i) (57 + 66 * n + i) (telC S n i (7 + i)) = telC S n (i + 1) := by
  funext j
  unfold upd telC
  by_cases h : j = 57 + 66 * n + i
  · subst h
    rw [if_pos rfl, if_neg (by omega), if_pos ⟨by omega, by omega⟩]
    congr 1; omega
  · rw [if_neg h]
    by_cases h2 : 57 + 66 * n ≤ j ∧ j < 57 + 66 * n + i
    · rw [if_pos h2, if_pos ⟨h2.1, by omega⟩]
    · rw [if_neg h2, if_neg (by omega)]
def telU (S : Nat → Int32) (n : Nat) (ab gi us : Int32) : Nat → Int32 := upd (upd (upd (telC S n 49) (57 + 66 * n + 49) ab) (57 + 66 * n + 50) gi) (57 + 66 * n + 51) us
theorem telU_lo {S : Nat → Int32} {n j : Nat} {ab gi us : Int32} (h : j < 57) : telU S n ab gi us j = S j := by
  rw [telU, pk_un (by omega), pk_un (by omega), pk_un (by omega), telC, if_neg (by omega)]
def telF (T lo hi : Nat → Int32) (b i : Nat) : Nat → Int32 := fun j => if b + 52 ≤ j ∧ j < b + 52 + i then lo (j - (b + 52)) else if b + 59 ≤ j ∧ j < b + 59 + i then hi (j - (b + 59)) else T j
theorem telF_0 (T lo hi : Nat → Int32) (b : Nat) : telF T lo hi b 0 = T := by funext j; unfold telF; rw [if_neg (by omega), if_neg (by omega)]
theorem telF_lo {T lo hi : Nat → Int32} {b i j : Nat} (h : j < b) : telF T lo hi b i j = T j := by unfold telF; rw [if_neg (by omega), if_neg (by omega)]
theorem telF_s {T lo hi : Nat → Int32} {b i : Nat} (hi7 : i < 7) : upd (upd (telF T lo hi b i) (b + 52 + i) (lo i)) (b + 59 + i) (hi i) = telF T lo hi b (i + 1) := by
  funext j
  unfold upd telF
  by_cases h : j = b + 59 + i
  · subst h
    rw [if_pos rfl, if_neg (by omega), if_pos ⟨by omega, by omega⟩]
    congr 1; omega
  · rw [if_neg h]
    by_cases h3 : j = b + 52 + i
    · subst h3
      rw [if_pos rfl, if_pos ⟨by omega, by omega⟩]
      congr 1; omega
    · rw [if_neg h3]
      by_cases h2 : b + 52 ≤ j ∧ j < b + 52 + i
      · rw [if_pos h2, if_pos ⟨h2.1, by omega⟩]
      · rw [if_neg h2]
        by_cases h4 : b + 59 ≤ j ∧ j < b + 59 + i
        · rw [if_pos h4, if_neg (by omega), if_pos ⟨h4.1, by omega⟩]
        · rw [if_neg h4, if_neg (by omega), if_neg (by omega)]
def telO (S : Nat → Int32) (n cn : Nat) (ir wt : Bool) (lo hi : Nat → Int32) (ab : Int32) : Bool := canB S n cn ir wt lo hi ab && !decide (n = 16)
def telV (S : Nat → Int32) (n cn : Nat) (ir wt : Bool) (lo hi : Nat → Int32) (ab : Int32) : Int32 := if canB S n cn ir wt lo hi ab = true then (if n = 16 then -100004 else nI n) else -100003
def telZ (S : Nat → Int32) (n : Nat) (z : (Nat → Int32) × (Nat → Int32) × Int32 × Int32 × Int32) : Nat → Int32 := upd (upd (telF (telU S n z.2.2.2.1 z.2.2.2.2 z.2.2.1) z.1 z.2.1 (57 + 66 * n) 7) 56 (nI (n + 1))) 7 (nI 0)
theorem borS_gt {x b z : Int32} (h : b = -100005 ∨ x < b) : borS x b z = -100005 ∨ x < borS x b z := by
  unfold borS
  by_cases h1 : z ≤ x
  · rw [if_pos h1]; exact h
  · rw [if_neg h1]
    by_cases h2 : b = -100005
    · rw [if_pos h2]; exact Or.inr (Int32.not_le.mp h1)
    · rw [if_neg h2]
      by_cases h3 : b ≤ z
      · rw [if_pos h3]; exact h
      · rw [if_neg h3]; exact Or.inr (Int32.not_le.mp h1)
theorem borL_gt (S : Nat → Int32) (k : Nat) (x : Int32) : ∀ n, borL S k x n = -100005 ∨ x < borL S k x n
  | 0 => Or.inl rfl
  | n + 1 => by rw [borL_s]; exact borS_gt (borS_gt (borL_gt S k x n))
theorem greatestF_le (z : Int32) : greatestF z ≤ 73048 := by unfold greatestF; split <;> decide
theorem borI_gt (S : Nat → Int32) (n k : Nat) (x : Int32) : borI S n k x = -100005 ∨ (x < borI S n k x ∧ borI S n k x ≤ greatestF (nI k)) := by
  unfold borI
  by_cases h : borL S k x n = -100005 ∨ greatestF (nI k) < borL S k x n
  · rw [if_pos h]; exact Or.inl rfl
  · rw [if_neg h]
    exact Or.inr ⟨(borL_gt S k x n).resolve_left (fun z => h (Or.inl z)), Int32.not_lt.mp (fun z => h (Or.inr z))⟩
def ncM (v : Int32) : Nat := if v = -100005 then 0 else (73050 - v.toInt).toNat + 1
theorem borI_M {S : Nat → Int32} {n k : Nat} {x : Int32} (h : ¬ x = -100005) : ncM (borI S n k x) < ncM x := by
  unfold ncM
  rw [if_neg h]
  rcases borI_gt S n k x with e | e
  · rw [if_pos e]; omega
  · split
    · omega
    · have h1 := Int32.lt_iff_toInt_lt.mp e.1
      have h2 := Int32.le_iff_toInt_le.mp (Int32.le_trans e.2 (greatestF_le _))
      have h3 : (73048 : Int32).toInt = 73048 := by decide
      omega
def ncF (S : Nat → Int32) (wo : Int32) (n : Nat) (r : Int32) (k : Nat) (stop : Int32 → Bool) : Nat → Int32 → Int32
  | 0, v => v
  | m + 1, v => if v = -100005 then v else if stop (ansI (upd S k v) wo n r) = true then v else ncF S wo n r k stop m (borI S n k v)
theorem ncF_st {S : Nat → Int32} {wo : Int32} {n : Nat} {r : Int32} {k : Nat} {stop : Int32 → Bool} : ∀ {m m2 : Nat} {v : Int32}, ncM v < m → ncM v < m2 → ncF S wo n r k stop m v = ncF S wo n r k stop m2 v
  | 0, _, v, h, _ => absurd h (Nat.not_lt_zero _)
  | _ + 1, 0, v, _, h => absurd h (Nat.not_lt_zero _)
  | m + 1, m2 + 1, v, h, h2 => by
    rw [ncF, ncF]
    split
    · rfl
    · rename_i hv
      split
      · rfl
      · have := borI_M (S := S) (n := n) (k := k) hv
        exact ncF_st (by omega) (by omega)
theorem ncF_1 {S : Nat → Int32} {wo : Int32} {n : Nat} {r : Int32} {k : Nat} {stop : Int32 → Bool} {m : Nat} {v : Int32} (h : v = -100005) : ncF S wo n r k stop (m + 1) v = v := by rw [ncF, if_pos h]
theorem ncF_2 {S : Nat → Int32} {wo : Int32} {n : Nat} {r : Int32} {k : Nat} {stop : Int32 → Bool} {m : Nat} {v : Int32} (h : ¬ v = -100005) (h2 : stop (ansI (upd S k v) wo n r) = true) : ncF S wo n r k stop (m + 1) v = v := by rw [ncF, if_neg h, if_pos h2]
theorem ncF_3 {S : Nat → Int32} {wo : Int32} {n : Nat} {r : Int32} {k : Nat} {stop : Int32 → Bool} {m : Nat} {v z : Int32} (h : ¬ v = -100005) (h2 : stop (ansI (upd S k v) wo n r) = false) (hf : ∀ m, ncM v < m → ncF S wo n r k stop m v = z) (hm : ncM (borI S n k v) < m) : ncF S wo n r k stop m (borI S n k v) = z := by
  have hb := borI_M (S := S) (n := n) (k := k) h
  rw [ncF_st hm (show ncM (borI S n k v) < ncM v from hb), ← hf (ncM v + 1) (Nat.lt_succ_self _), ncF, if_neg h, if_neg (by rw [h2]; decide)]
def ncZ (S : Nat → Int32) (wo : Int32) (n : Nat) (r : Int32) (k : Nat) (stop : Int32 → Bool) (v : Int32) : Int32 := ncF S wo n r k stop (ncM v + 1) v
def a6_nextChange (S : Nat → Int32) (wo : Int32) (n : Nat) (r k : Int32) : Int32 := if inB r 0 3 = true ∧ inB k 0 6 = true then ncZ S wo n r k.toNatClampNeg (fun z => !decide (z = ansI S wo n r)) (borI S n k.toNatClampNeg (S k.toNatClampNeg)) else -100002
def a6_leastFor (S : Nat → Int32) (wo : Int32) (n : Nat) (r k x : Int32) : Int32 := if inB r 0 3 = true ∧ inB k 0 6 = true ∧ inB x (-9999) 9999 = true then ncZ S wo n r k.toNatClampNeg (fun z => decide (z = x)) (leastF k) else -100002
set_option maxHeartbeats 4000000 in
set_option maxRecDepth 100000 in
theorem c6_canTell (l : Launch) (G : mG) {f : mE} {ir wt : Bool} {o : Nat} {a : Nat → Nat} {S P lo hi ou : Nat → Int32} {rc us ab gi wr wo : Int32} (hI : RI G f o a S P lo hi ou rc (bI ir) (bI wt) us ab gi wr wo) {n : Nat} (hn : S 56 = nI n) (hn16 : n ≤ 16) {cn : Nat} (hc : S 7 = nI cn) (hc24 : cn ≤ 24) : mC l G yX6_canTell wsX6_canTell ({ frames := 4, cells := 0, slots := 0, locals := 92 } : Room) f [.ref o] (fun v f1 => v = some (.int (bI (canB S n cn ir wt lo hi ab))) ∧ ∃ l1 h1 u1 a1 g1, RI G f1 o a S P l1 h1 ou rc (bI (errF S cn 0 ir wt 0).2.1) (bI (errF S cn 0 ir wt 0).2.2) u1 a1 g1 wr wo ∧ ((errF S cn 0 ir wt 0).1 = -100005 → l1 = (rsAll S n cn lo hi ab).1 ∧ h1 = (rsAll S n cn lo hi ab).2.1 ∧ u1 = (rsAll S n cn lo hi ab).2.2.1 ∧ a1 = (rsAll S n cn lo hi ab).2.2.2.1 ∧ g1 = (rsAll S n cn lo hi ab).2.2.2.2)) 0 0 := by
  refine mC.of (cc := cX6_canTell) (maxL := 3) (ret := (some .boolean)) (by decide) rfl (Nat.le_of_ble_eq_true rfl) ?_
  intro pgm env s mt args below meth c A ls hx hb hml hr hlocks hown hname hts hK hE hA hM hl
  have hl : lv_has ls 3 [(0, .ref o)] := hl
  refine lv_aload_n hx hb dX6_canTell_0 rfl (lv_at hl 0 rfl) ?_
  refine mm_V (As := []) (rest := []) ⟨hx, hb, hml, hown, hts⟩ (c6_error l G hI hc hc24) (cwV 0 hts gX6_canTell_X6_error rfl rfl rfl (by decide +kernel) ⟨Nat.le_of_ble_eq_true rfl, Nat.le_of_ble_eq_true rfl⟩) hK hE hA hM (mm_recv hK hM (hI.obj) (q := (RX6, TX6, 14)) rfl) rfl hl.1 rfl (Nat.le_of_ble_eq_true rfl) dX6_canTell_1 ⟨Nat.le_of_ble_eq_true rfl, Nat.le_of_ble_eq_true rfl⟩ (fun v f9 Hp lcs hp hM => ?_)
  obtain ⟨rfl, hI⟩ := hp
  refine lv_ldc (v := (-100005)) hx hb hown (hts (.constant RX6 28 (-100005)) (List.mem_of_getElem? (i := 1) rfl)) dX6_canTell_4 ?_
  refine lv_icmp_eq (tgt := 11) hx hb dX6_canTell_6 (by decide) (fun cz1 => ?_) (fun cz1 => ?_)
  · refine lv_aload_n hx hb dX6_canTell_11 rfl (lv_at hl 0 rfl) ?_
    refine mm_V (As := []) (rest := []) ⟨hx, hb, hml, hown, hts⟩ (c6_readSentence l G hI hn hn16 hc hc24) (cwV 0 hts gX6_canTell_X6_readSentence rfl rfl rfl (by decide +kernel) ⟨Nat.le_of_ble_eq_true rfl, Nat.le_of_ble_eq_true rfl⟩) hK hE hA hM (mm_recv hK hM (hI.obj) (q := (RX6, TX6, 14)) rfl) rfl hl.1 rfl (Nat.le_of_ble_eq_true rfl) dX6_canTell_12 ⟨Nat.le_of_ble_eq_true rfl, Nat.le_of_ble_eq_true rfl⟩ (fun v gz2 Hp lcs hp hM => ?_)
    obtain ⟨rfl, hI⟩ := hp
    have loopZ : ∀ (fuel : Nat) (i : Nat) (aw : Int32) (Hp : Heap) (lcs : List Loc) (ls : Array Slot) (hiN : i ≤ 6) (hr0 : aw = bI (caA S n (rsAll S n cn lo hi ab).2.2.2.1 && allN (caW S n (rsAll S n cn lo hi ab).2.2.1) i)) (hfu : 6 - i < fuel) (hM : mM G A s.heap gz2 Hp lcs) (hl : lv_has ls 3 [(0, .ref o), (1, .int aw), (2, .int (nI i))]), W pgm l env ({ frames := 4, cells := 0, slots := 0, locals := 92 } : Room) s mt args below meth c Hp lcs 0 0 (MQ below (mQc G A (fun v f1 => v = some (.int (bI (canB S n cn ir wt lo hi ab))) ∧ ∃ l1 h1 u1 a1 g1, RI G f1 o a S P l1 h1 ou rc (bI (errF S cn 0 ir wt 0).2.1) (bI (errF S cn 0 ir wt 0).2.2) u1 a1 g1 wr wo ∧ ((errF S cn 0 ir wt 0).1 = -100005 → l1 = (rsAll S n cn lo hi ab).1 ∧ h1 = (rsAll S n cn lo hi ab).2.1 ∧ u1 = (rsAll S n cn lo hi ab).2.2.1 ∧ a1 = (rsAll S n cn lo hi ab).2.2.2.1 ∧ g1 = (rsAll S n cn lo hi ab).2.2.2.2))) args s 0 0 A) (F0 mt 48 ls []) := by
      intro fuel
      induction fuel with
      | zero => intro i aw Hp lcs ls hiN hr0 hfu; exact absurd hfu (Nat.not_lt_zero _)
      | succ fuel ih =>
        intro i aw Hp lcs ls hiN hr0 hfu hM hl
        subst hr0
        refine lv_iload_n hx hb dX6_canTell_48 rfl (lv_at hl 2 rfl) ?_
        refine lv_bipush (v := (nI 6)) hx hb dX6_canTell_49 (by decide +kernel) ?_
        refine ln_icmp_ge i 6 (by omega) (by omega) (tgt := 91) hx hb dX6_canTell_51 (by decide) (fun cz3 => ?_) (fun cz3 => ?_)
        · refine lv_iconst (v := (nI 0)) hx hb dX6_canTell_91 (by decide +kernel) ?_
          refine lv_istore_n (lv' := [(2, .int (nI 0)), (0, .ref o), (1, .int (bI (caA S n (rsAll S n cn lo hi ab).2.2.2.1 && allN (caW S n (rsAll S n cn lo hi ab).2.2.1) i)))]) hx hb dX6_canTell_92 rfl hl (by decide) rfl (fun ls hl => ?_)
          have loopZ : ∀ (fuelB : Nat) (i : Nat) (aw : Int32) (Hp : Heap) (lcs : List Loc) (ls : Array Slot) (hiN : i ≤ 7) (hr0 : aw = bI (caA S n (rsAll S n cn lo hi ab).2.2.2.1 && allN (caW S n (rsAll S n cn lo hi ab).2.2.1) 6 && allN (caF (rsAll S n cn lo hi ab).1 (rsAll S n cn lo hi ab).2.1) i)) (hfuB : 7 - i < fuelB) (hM : mM G A s.heap gz2 Hp lcs) (hl : lv_has ls 3 [(0, .ref o), (1, .int aw), (2, .int (nI i))]), W pgm l env ({ frames := 4, cells := 0, slots := 0, locals := 92 } : Room) s mt args below meth c Hp lcs 0 0 (MQ below (mQc G A (fun v f1 => v = some (.int (bI (canB S n cn ir wt lo hi ab))) ∧ ∃ l1 h1 u1 a1 g1, RI G f1 o a S P l1 h1 ou rc (bI (errF S cn 0 ir wt 0).2.1) (bI (errF S cn 0 ir wt 0).2.2) u1 a1 g1 wr wo ∧ ((errF S cn 0 ir wt 0).1 = -100005 → l1 = (rsAll S n cn lo hi ab).1 ∧ h1 = (rsAll S n cn lo hi ab).2.1 ∧ u1 = (rsAll S n cn lo hi ab).2.2.1 ∧ a1 = (rsAll S n cn lo hi ab).2.2.2.1 ∧ g1 = (rsAll S n cn lo hi ab).2.2.2.2))) args s 0 0 A) (F0 mt 93 ls []) := by
            intro fuelB
            induction fuelB with
            | zero => intro i aw Hp lcs ls hiN hr0 hfuB; exact absurd hfuB (Nat.not_lt_zero _)
            | succ fuelB ihB =>
              intro i aw Hp lcs ls hiN hr0 hfuB hM hl
              subst hr0
              refine lv_iload_n hx hb dX6_canTell_93 rfl (lv_at hl 2 rfl) ?_
              refine lv_bipush (v := (nI 7)) hx hb dX6_canTell_94 (by decide +kernel) ?_
              refine ln_icmp_ge i 7 (by omega) (by omega) (tgt := 130) hx hb dX6_canTell_96 (by decide) (fun cz4 => ?_) (fun cz4 => ?_)
              · refine lv_iload_n hx hb dX6_canTell_130 rfl (lv_at hl 1 rfl) ?_
                exact mm_zret hx hb hlocks hr (by first | rfl | exact bI_nar _) (Nat.le_of_ble_eq_true rfl) (Nat.le_of_ble_eq_true rfl) hM (⟨by have hz : i = 7 := (by omega); subst hz; rw [canB]; simp [cz1], _, _, _, _, _, hI, fun _ => ⟨rfl, rfl, rfl, rfl, rfl⟩⟩) dX6_canTell_131
              refine lv_iload_n hx hb dX6_canTell_99 rfl (lv_at hl 1 rfl) ?_
              refine lvb_eq (tgt := 122) hx hb dX6_canTell_100 (by decide) (fun cz5 => ?_) (fun cz5 => ?_)
              · refine lv_iconst (v := (nI 0)) hx hb dX6_canTell_122 (by decide +kernel) ?_
                refine lv_istore_n (lv' := [(1, .int (nI 0)), (0, .ref o), (2, .int (nI i))]) hx hb dX6_canTell_123 rfl hl (by decide) rfl (fun ls hl => ?_)
                refine lv_iinc (v := (nI (i + 1))) (lv' := [(2, .int (nI (i + 1))), (1, .int (nI 0)), (0, .ref o)]) hx hb dX6_canTell_124 hl (k := 2) rfl (nI_add _ _) (by decide) rfl (fun ls hl => ?_)
                refine lv_goto (tgt := 93) hx hb dX6_canTell_127 (by decide) ?_
                exact ihB (i + 1) _ _ _ ls (by omega) (bIf (by rw [allN_s (caF (rsAll S n cn lo hi ab).1 (rsAll S n cn lo hi ab).2.1) i, ← Bool.and_assoc]; simp [caF, cz4, cz5])) (by omega) hM (lv_sub hl [2, 1, 0] rfl)
              refine lv_aload_n hx hb dX6_canTell_103 rfl (lv_at hl 0 rfl) ?_
              refine mm_get (C := RX6) (T := TX6) (N := 14) (k := 6) hx hb hts (fun _ h => List.mem_cons_of_mem _ (List.mem_append_right _ h)) hown hK hM (hI.obj) rfl (by decide) (hts (.fieldLink RX6 19 "SentenceRulesModel" "low" "[I") (List.mem_of_getElem? (i := 4) rfl)) rfl rfl dX6_canTell_104 ?_
              refine lv_iload_n hx hb dX6_canTell_107 rfl (lv_at hl 2 rfl) ?_
              refine mn_iald hx hb hK hM (hI.low) i (by omega) (by decide) dX6_canTell_108 ?_
              refine lv_aload_n hx hb dX6_canTell_109 rfl (lv_at hl 0 rfl) ?_
              refine mm_get (C := RX6) (T := TX6) (N := 14) (k := 7) hx hb hts (fun _ h => List.mem_cons_of_mem _ (List.mem_append_right _ h)) hown hK hM (hI.obj) rfl (by decide) (hts (.fieldLink RX6 22 "SentenceRulesModel" "high" "[I") (List.mem_of_getElem? (i := 5) rfl)) rfl rfl dX6_canTell_110 ?_
              refine lv_iload_n hx hb dX6_canTell_113 rfl (lv_at hl 2 rfl) ?_
              refine mn_iald hx hb hK hM (hI.high) i (by omega) (by decide) dX6_canTell_114 ?_
              refine lv_icmp_gt (tgt := 122) hx hb dX6_canTell_115 (by decide) (fun cz6 => ?_) (fun cz6 => ?_)
              · refine lv_iconst (v := (nI 0)) hx hb dX6_canTell_122 (by decide +kernel) ?_
                refine lv_istore_n (lv' := [(1, .int (nI 0)), (0, .ref o), (2, .int (nI i))]) hx hb dX6_canTell_123 rfl hl (by decide) rfl (fun ls hl => ?_)
                refine lv_iinc (v := (nI (i + 1))) (lv' := [(2, .int (nI (i + 1))), (1, .int (nI 0)), (0, .ref o)]) hx hb dX6_canTell_124 hl (k := 2) rfl (nI_add _ _) (by decide) rfl (fun ls hl => ?_)
                refine lv_goto (tgt := 93) hx hb dX6_canTell_127 (by decide) ?_
                exact ihB (i + 1) _ _ _ ls (by omega) (bIf (by rw [allN_s (caF (rsAll S n cn lo hi ab).1 (rsAll S n cn lo hi ab).2.1) i, ← Bool.and_assoc]; simp [caF, cz4, cz5, cz6])) (by omega) hM (lv_sub hl [2, 1, 0] rfl)
              refine lv_iconst (v := (nI 1)) hx hb dX6_canTell_118 (by decide +kernel) ?_
              refine lv_goto (tgt := 123) hx hb dX6_canTell_119 (by decide) ?_
              refine lv_istore_n (lv' := [(1, .int (nI 1)), (0, .ref o), (2, .int (nI i))]) hx hb dX6_canTell_123 rfl hl (by decide) rfl (fun ls hl => ?_)
              refine lv_iinc (v := (nI (i + 1))) (lv' := [(2, .int (nI (i + 1))), (1, .int (nI 1)), (0, .ref o)]) hx hb dX6_canTell_124 hl (k := 2) rfl (nI_add _ _) (by decide) rfl (fun ls hl => ?_)
              refine lv_goto (tgt := 93) hx hb dX6_canTell_127 (by decide) ?_
              exact ihB (i + 1) _ _ _ ls (by omega) (bIt (by rw [allN_s (caF (rsAll S n cn lo hi ab).1 (rsAll S n cn lo hi ab).2.1) i, ← Bool.and_assoc]; simp [caF, cz4, cz5, cz6])) (by omega) hM (lv_sub hl [2, 1, 0] rfl)
          exact loopZ 8 0 _ _ _ ls (Nat.zero_le _) (by have hz : i = 6 := (by omega); subst hz; simp [allN]) (by omega) hM (lv_sub hl [1, 2, 0] rfl)
        refine lv_iload_n hx hb dX6_canTell_54 rfl (lv_at hl 1 rfl) ?_
        refine lvb_eq (tgt := 83) hx hb dX6_canTell_55 (by decide) (fun cz7 => ?_) (fun cz7 => ?_)
        · refine lv_iconst (v := (nI 0)) hx hb dX6_canTell_83 (by decide +kernel) ?_
          refine lv_istore_n (lv' := [(1, .int (nI 0)), (0, .ref o), (2, .int (nI i))]) hx hb dX6_canTell_84 rfl hl (by decide) rfl (fun ls hl => ?_)
          refine lv_iinc (v := (nI (i + 1))) (lv' := [(2, .int (nI (i + 1))), (1, .int (nI 0)), (0, .ref o)]) hx hb dX6_canTell_85 hl (k := 2) rfl (nI_add _ _) (by decide) rfl (fun ls hl => ?_)
          refine lv_goto (tgt := 48) hx hb dX6_canTell_88 (by decide) ?_
          exact ih (i + 1) _ _ _ ls (by omega) (bIf (by rw [allN_s, ← Bool.and_assoc]; simp [caW, cz3, cz7])) (by omega) hM (lv_sub hl [2, 1, 0] rfl)
        refine lv_aload_n hx hb dX6_canTell_58 rfl (lv_at hl 0 rfl) ?_
        refine mm_get (C := RX6) (T := TX6) (N := 14) (k := 8) hx hb hts (fun _ h => List.mem_cons_of_mem _ (List.mem_append_right _ h)) hown hK hM (hI.obj) rfl (by decide) (hts (.fieldLink RX6 100 "SentenceRulesModel" "used" "I") (List.mem_of_getElem? (i := 3) rfl)) rfl rfl dX6_canTell_59 ?_
        refine lv_iload_n hx hb dX6_canTell_62 rfl (lv_at hl 2 rfl) ?_
        refine lv_ishr hx hb dX6_canTell_63 ?_
        refine lv_iconst (v := (nI 1)) hx hb dX6_canTell_64 (by decide +kernel) ?_
        refine lv_iand hx hb dX6_canTell_65 ?_
        refine lv_if_eq (tgt := 79) hx hb dX6_canTell_66 (by decide) (fun cz8 => ?_) (fun cz8 => ?_)
        · refine lv_iconst (v := (nI 1)) hx hb dX6_canTell_79 (by decide +kernel) ?_
          refine lv_goto (tgt := 84) hx hb dX6_canTell_80 (by decide) ?_
          refine lv_istore_n (lv' := [(1, .int (nI 1)), (0, .ref o), (2, .int (nI i))]) hx hb dX6_canTell_84 rfl hl (by decide) rfl (fun ls hl => ?_)
          refine lv_iinc (v := (nI (i + 1))) (lv' := [(2, .int (nI (i + 1))), (1, .int (nI 1)), (0, .ref o)]) hx hb dX6_canTell_85 hl (k := 2) rfl (nI_add _ _) (by decide) rfl (fun ls hl => ?_)
          refine lv_goto (tgt := 48) hx hb dX6_canTell_88 (by decide) ?_
          exact ih (i + 1) _ _ _ ls (by omega) (bIt (by rw [allN_s, ← Bool.and_assoc]; simp [caW, cz3, cz7, cz8])) (by omega) hM (lv_sub hl [2, 1, 0] rfl)
        refine lv_aload_n hx hb dX6_canTell_69 rfl (lv_at hl 0 rfl) ?_
        refine lv_iload_n hx hb dX6_canTell_70 rfl (lv_at hl 2 rfl) ?_
        refine mm_V (As := [.int (nI i)]) (rest := []) ⟨hx, hb, hml, hown, hts⟩ (c6_definitionOf l G hI hn hn16 (nI i)) (cwV 1 hts gX6_canTell_X6_definitionOf rfl rfl rfl (by decide +kernel) ⟨Nat.le_of_ble_eq_true rfl, Nat.le_of_ble_eq_true rfl⟩) hK hE hA hM (mm_recv hK hM (hI.obj) (q := (RX6, TX6, 14)) rfl) rfl hl.1 rfl (Nat.le_of_ble_eq_true rfl) dX6_canTell_71 ⟨Nat.le_of_ble_eq_true rfl, Nat.le_of_ble_eq_true rfl⟩ (fun v f1 Hp lcs hp hM => ?_)
        obtain ⟨rfl, hf⟩ := hp; subst hf
        refine lv_ldc (v := (-100005)) hx hb hown (hts (.constant RX6 28 (-100005)) (List.mem_of_getElem? (i := 1) rfl)) dX6_canTell_74 ?_
        refine lv_icmp_eq (tgt := 83) hx hb dX6_canTell_76 (by decide) (fun cz9 => ?_) (fun cz9 => ?_)
        · refine lv_iconst (v := (nI 0)) hx hb dX6_canTell_83 (by decide +kernel) ?_
          refine lv_istore_n (lv' := [(1, .int (nI 0)), (0, .ref o), (2, .int (nI i))]) hx hb dX6_canTell_84 rfl hl (by decide) rfl (fun ls hl => ?_)
          refine lv_iinc (v := (nI (i + 1))) (lv' := [(2, .int (nI (i + 1))), (1, .int (nI 0)), (0, .ref o)]) hx hb dX6_canTell_85 hl (k := 2) rfl (nI_add _ _) (by decide) rfl (fun ls hl => ?_)
          refine lv_goto (tgt := 48) hx hb dX6_canTell_88 (by decide) ?_
          exact ih (i + 1) _ _ _ ls (by omega) (bIf (by rw [allN_s, ← Bool.and_assoc]; simp [caW, cz3, cz7, cz8, cz9])) (by omega) hM (lv_sub hl [2, 1, 0] rfl)
        refine lv_iconst (v := (nI 1)) hx hb dX6_canTell_79 (by decide +kernel) ?_
        refine lv_goto (tgt := 84) hx hb dX6_canTell_80 (by decide) ?_
        refine lv_istore_n (lv' := [(1, .int (nI 1)), (0, .ref o), (2, .int (nI i))]) hx hb dX6_canTell_84 rfl hl (by decide) rfl (fun ls hl => ?_)
        refine lv_iinc (v := (nI (i + 1))) (lv' := [(2, .int (nI (i + 1))), (1, .int (nI 1)), (0, .ref o)]) hx hb dX6_canTell_85 hl (k := 2) rfl (nI_add _ _) (by decide) rfl (fun ls hl => ?_)
        refine lv_goto (tgt := 48) hx hb dX6_canTell_88 (by decide) ?_
        exact ih (i + 1) _ _ _ ls (by omega) (bIt (by rw [allN_s, ← Bool.and_assoc]; simp [caW, cz3, cz7, cz8, cz9])) (by omega) hM (lv_sub hl [2, 1, 0] rfl)
    refine lv_aload_n hx hb dX6_canTell_15 rfl (lv_at hl 0 rfl) ?_
    refine mm_get (C := RX6) (T := TX6) (N := 14) (k := 9) hx hb hts (fun _ h => List.mem_cons_of_mem _ (List.mem_append_right _ h)) hown hK hM (hI.obj) rfl (by decide) (hts (.fieldLink RX6 122 "SentenceRulesModel" "about" "I") (List.mem_of_getElem? (i := 2) rfl)) rfl rfl dX6_canTell_16 ?_
    refine lv_bipush (v := (nI 10)) hx hb dX6_canTell_19 (by decide +kernel) ?_
    refine lv_icmp_lt (tgt := 40) hx hb dX6_canTell_21 (by decide) (fun cz10 => ?_) (fun cz10 => ?_)
    · refine lv_iconst (v := (nI 1)) hx hb dX6_canTell_40 (by decide +kernel) ?_
      refine lv_goto (tgt := 45) hx hb dX6_canTell_41 (by decide) ?_
      refine lv_istore_n (lv' := [(1, .int (nI 1)), (0, .ref o)]) hx hb dX6_canTell_45 rfl hl (by decide) rfl (fun ls hl => ?_)
      refine lv_iconst (v := (nI 0)) hx hb dX6_canTell_46 (by decide +kernel) ?_
      refine lv_istore_n (lv' := [(2, .int (nI 0)), (1, .int (nI 1)), (0, .ref o)]) hx hb dX6_canTell_47 rfl hl (by decide) rfl (fun ls hl => ?_)
      exact loopZ 7 0 _ _ _ ls (Nat.zero_le _) (bIt (by simp [caA, allN, cz1, cz10])) (by omega) hM (lv_sub hl [2, 1, 0] rfl)
    refine lv_aload_n hx hb dX6_canTell_24 rfl (lv_at hl 0 rfl) ?_
    refine lv_aload_n hx hb dX6_canTell_25 rfl (lv_at hl 0 rfl) ?_
    refine mm_get (C := RX6) (T := TX6) (N := 14) (k := 9) hx hb hts (fun _ h => List.mem_cons_of_mem _ (List.mem_append_right _ h)) hown hK hM (hI.obj) rfl (by decide) (hts (.fieldLink RX6 122 "SentenceRulesModel" "about" "I") (List.mem_of_getElem? (i := 2) rfl)) rfl rfl dX6_canTell_26 ?_
    refine lv_bipush (v := (nI 10)) hx hb dX6_canTell_29 (by decide +kernel) ?_
    refine lv_isub hx hb dX6_canTell_31 ?_
    refine mm_V (As := [.int (((rsAll S n cn lo hi ab).2.2.2.1) - (nI 10))]) (rest := []) ⟨hx, hb, hml, hown, hts⟩ (c6_definitionOf l G hI hn hn16 (((rsAll S n cn lo hi ab).2.2.2.1) - (nI 10))) (cwV 1 hts gX6_canTell_X6_definitionOf rfl rfl rfl (by decide +kernel) ⟨Nat.le_of_ble_eq_true rfl, Nat.le_of_ble_eq_true rfl⟩) hK hE hA hM (mm_recv hK hM (hI.obj) (q := (RX6, TX6, 14)) rfl) rfl hl.1 rfl (Nat.le_of_ble_eq_true rfl) dX6_canTell_32 ⟨Nat.le_of_ble_eq_true rfl, Nat.le_of_ble_eq_true rfl⟩ (fun v f1 Hp lcs hp hM => ?_)
    obtain ⟨rfl, hf⟩ := hp; subst hf
    refine lv_ldc (v := (-100005)) hx hb hown (hts (.constant RX6 28 (-100005)) (List.mem_of_getElem? (i := 1) rfl)) dX6_canTell_35 ?_
    refine lv_icmp_ne (tgt := 44) hx hb dX6_canTell_37 (by decide) (fun cz11 => ?_) (fun cz11 => ?_)
    · refine lv_iconst (v := (nI 0)) hx hb dX6_canTell_44 (by decide +kernel) ?_
      refine lv_istore_n (lv' := [(1, .int (nI 0)), (0, .ref o)]) hx hb dX6_canTell_45 rfl hl (by decide) rfl (fun ls hl => ?_)
      refine lv_iconst (v := (nI 0)) hx hb dX6_canTell_46 (by decide +kernel) ?_
      refine lv_istore_n (lv' := [(2, .int (nI 0)), (1, .int (nI 0)), (0, .ref o)]) hx hb dX6_canTell_47 rfl hl (by decide) rfl (fun ls hl => ?_)
      exact loopZ 7 0 _ _ _ ls (Nat.zero_le _) (bIf (by simp [caA, allN, cz1, cz10, cz11])) (by omega) hM (lv_sub hl [2, 1, 0] rfl)
    refine lv_iconst (v := (nI 1)) hx hb dX6_canTell_40 (by decide +kernel) ?_
    refine lv_goto (tgt := 45) hx hb dX6_canTell_41 (by decide) ?_
    refine lv_istore_n (lv' := [(1, .int (nI 1)), (0, .ref o)]) hx hb dX6_canTell_45 rfl hl (by decide) rfl (fun ls hl => ?_)
    refine lv_iconst (v := (nI 0)) hx hb dX6_canTell_46 (by decide +kernel) ?_
    refine lv_istore_n (lv' := [(2, .int (nI 0)), (1, .int (nI 1)), (0, .ref o)]) hx hb dX6_canTell_47 rfl hl (by decide) rfl (fun ls hl => ?_)
    exact loopZ 7 0 _ _ _ ls (Nat.zero_le _) (bIt (by simp [caA, allN, cz1, cz10, cz11])) (by omega) hM (lv_sub hl [2, 1, 0] rfl)
  refine lv_iconst (v := (nI 0)) hx hb dX6_canTell_9 (by decide +kernel) ?_
  exact mm_zret hx hb hlocks hr (by first | rfl | exact bI_nar _) (Nat.le_of_ble_eq_true rfl) (Nat.le_of_ble_eq_true rfl) hM (⟨bIfv (by rw [canB]; simp [cz1]), _, _, _, _, _, hI, fun z => absurd z cz1⟩) dX6_canTell_10
set_option maxHeartbeats 4000000 in
set_option maxRecDepth 100000 in
theorem c6_tell (l : Launch) (G : mG) {f : mE} {ir wt : Bool} {q : Nat} {o : Nat} {a : Nat → Nat} {S P lo hi ou : Nat → Int32} {us ab gi wr wo : Int32} (hI : RI G f o a S P lo hi ou (nI q) (bI ir) (bI wt) us ab gi wr wo) (hq : q ≤ 8) {n : Nat} (hn : S 56 = nI n) (hn16 : n ≤ 16) {cn : Nat} (hc : S 7 = nI cn) (hc24 : cn ≤ 24) : mC l G yX6_tell wsX6_tell ({ frames := 5, cells := 0, slots := 0, locals := 114 } : Room) f [.ref o] (fun v f1 => v = some (.int (telV S n cn ir wt lo hi ab)) ∧ ∃ l2 h2 u2 a2 g2, RI G f1 o a (if (telO S n cn ir wt lo hi ab) = true then telZ S n (rsAll S n cn lo hi ab) else S) (if (telO S n cn ir wt lo hi ab) = true then recP S P q else P) l2 h2 ou (nI (if (telO S n cn ir wt lo hi ab) = true then recN q else q)) (bI (errF S cn 0 ir wt 0).2.1) (bI (errF S cn 0 ir wt 0).2.2) u2 a2 g2 wr wo) 0 0 := by
  refine mC.of (cc := cX6_tell) (maxL := 3) (ret := (some .int)) (by decide) rfl (Nat.le_of_ble_eq_true rfl) ?_
  intro pgm env s mt args below meth c A ls hx hb hml hr hlocks hown hname hts hK hE hA hM hl
  have hl : lv_has ls 3 [(0, .ref o)] := hl
  refine lv_aload_n hx hb dX6_tell_0 rfl (lv_at hl 0 rfl) ?_
  refine mm_V (As := []) (rest := []) ⟨hx, hb, hml, hown, hts⟩ (c6_canTell l G hI hn hn16 hc hc24) (cwV 0 hts gX6_tell_X6_canTell rfl rfl rfl (by decide +kernel) ⟨Nat.le_of_ble_eq_true rfl, Nat.le_of_ble_eq_true rfl⟩) hK hE hA hM (mm_recv hK hM (hI.obj) (q := (RX6, TX6, 14)) rfl) rfl hl.1 rfl (Nat.le_of_ble_eq_true rfl) dX6_tell_1 ⟨Nat.le_of_ble_eq_true rfl, Nat.le_of_ble_eq_true rfl⟩ (fun v gz1 Hp lcs hp hM => ?_)
  obtain ⟨rfl, l1, h1, u1, a1, g1, hI, hfz⟩ := hp
  refine lvb_ne (tgt := 10) hx hb dX6_tell_4 (by decide) (fun cz2 => ?_) (fun cz2 => ?_)
  · refine lv_aload_n hx hb dX6_tell_10 rfl (lv_at hl 0 rfl) ?_
    refine mm_get (C := RX6) (T := TX6) (N := 14) (k := 0) hx hb hts (fun _ h => List.mem_cons_of_mem _ (List.mem_append_right _ h)) hown hK hM (hI.obj) rfl (by decide) (hts (.fieldLink RX6 7 "SentenceRulesModel" "now" "[I") (List.mem_of_getElem? (i := 2) rfl)) rfl rfl dX6_tell_11 ?_
    refine lv_bipush (v := (nI 56)) hx hb dX6_tell_14 (by decide +kernel) ?_
    refine mn_iald hx hb hK hM (hI.now) 56 (by omega) (by decide) dX6_tell_16 ?_
    refine mv_top hn ?_
    refine lv_bipush (v := (nI 16)) hx hb dX6_tell_17 (by decide +kernel) ?_
    refine ln_icmp_ne n 16 (by omega) (by omega) (tgt := 25) hx hb dX6_tell_19 (by decide) (fun cz3 => ?_) (fun cz3 => ?_)
    · refine lv_aload_n hx hb dX6_tell_25 rfl (lv_at hl 0 rfl) ?_
      refine mm_V (As := []) (rest := []) ⟨hx, hb, hml, hown, hts⟩ (c6_record l G hI hq) (cwV 0 hts gX6_tell_X6_record rfl rfl rfl (by decide +kernel) ⟨Nat.le_of_ble_eq_true rfl, Nat.le_of_ble_eq_true rfl⟩) hK hE hA hM (mm_recv hK hM (hI.obj) (q := (RX6, TX6, 14)) rfl) rfl hl.1 rfl (Nat.le_of_ble_eq_true rfl) dX6_tell_26 ⟨Nat.le_of_ble_eq_true rfl, Nat.le_of_ble_eq_true rfl⟩ (fun v gz4 Hp lcs hp hM => ?_)
      obtain ⟨rfl, hI⟩ := hp
      refine lv_bipush (v := (nI 57)) hx hb dX6_tell_29 (by decide +kernel) ?_
      refine lv_bipush (v := (nI 66)) hx hb dX6_tell_31 (by decide +kernel) ?_
      refine lv_aload_n hx hb dX6_tell_33 rfl (lv_at hl 0 rfl) ?_
      refine mm_get (C := RX6) (T := TX6) (N := 14) (k := 0) hx hb hts (fun _ h => List.mem_cons_of_mem _ (List.mem_append_right _ h)) hown hK hM (hI.obj) rfl (by decide) (hts (.fieldLink RX6 7 "SentenceRulesModel" "now" "[I") (List.mem_of_getElem? (i := 2) rfl)) rfl rfl dX6_tell_34 ?_
      refine lv_bipush (v := (nI 56)) hx hb dX6_tell_37 (by decide +kernel) ?_
      refine mn_iald hx hb hK hM (hI.now) 56 (by omega) (by decide) dX6_tell_39 ?_
      refine mv_top hn ?_
      refine ln_imul 66 n hx hb dX6_tell_40 ?_
      refine ln_iadd 57 (66 * n) hx hb dX6_tell_41 ?_
      refine lv_istore_n (lv' := [(1, .int (nI (57 + (66 * n)))), (0, .ref o)]) hx hb dX6_tell_42 rfl hl (by decide) rfl (fun ls hl => ?_)
      refine lv_iconst (v := (nI 0)) hx hb dX6_tell_43 (by decide +kernel) ?_
      refine lv_istore_n (lv' := [(2, .int (nI 0)), (1, .int (nI (57 + (66 * n)))), (0, .ref o)]) hx hb dX6_tell_44 rfl hl (by decide) rfl (fun ls hl => ?_)
      have loopY : ∀ (fuel : Nat) (i : Nat) (fz : mE) (Hp : Heap) (lcs : List Loc) (ls : Array Slot) (hiN : i ≤ 49) (hIz : RI G fz o a (telC S n i) (recP S P q) l1 h1 ou (nI (recN q)) (bI (errF S cn 0 ir wt 0).2.1) (bI (errF S cn 0 ir wt 0).2.2) u1 a1 g1 wr wo) (hfu : 49 - i < fuel) (hM : mM G A s.heap fz Hp lcs) (hl : lv_has ls 3 [(0, .ref o), (1, .int (nI (57 + 66 * n))), (2, .int (nI i))]), W pgm l env ({ frames := 5, cells := 0, slots := 0, locals := 114 } : Room) s mt args below meth c Hp lcs 0 0 (MQ below (mQc G A (fun v f1 => v = some (.int (telV S n cn ir wt lo hi ab)) ∧ ∃ l2 h2 u2 a2 g2, RI G f1 o a (if (telO S n cn ir wt lo hi ab) = true then telZ S n (rsAll S n cn lo hi ab) else S) (if (telO S n cn ir wt lo hi ab) = true then recP S P q else P) l2 h2 ou (nI (if (telO S n cn ir wt lo hi ab) = true then recN q else q)) (bI (errF S cn 0 ir wt 0).2.1) (bI (errF S cn 0 ir wt 0).2.2) u2 a2 g2 wr wo)) args s 0 0 A) (F0 mt 45 ls []) := by
        intro fuel
        induction fuel with
        | zero => intro i fz Hp lcs ls hiN hIz hfu; exact absurd hfu (Nat.not_lt_zero _)
        | succ fuel ih =>
          intro i fz Hp lcs ls hiN hIz hfu hM hl
          have hI := hIz
          refine lv_iload_n hx hb dX6_tell_45 rfl (lv_at hl 2 rfl) ?_
          refine lv_bipush (v := (nI 49)) hx hb dX6_tell_46 (by decide +kernel) ?_
          refine ln_icmp_ge i 49 (by omega) (by omega) (tgt := 74) hx hb dX6_tell_48 (by decide) (fun cz5 => ?_) (fun cz5 => ?_)
          · have hz7 : i = 49 := (by omega)
            subst hz7
            refine lv_aload_n hx hb dX6_tell_74 rfl (lv_at hl 0 rfl) ?_
            refine mm_get (C := RX6) (T := TX6) (N := 14) (k := 0) hx hb hts (fun _ h => List.mem_cons_of_mem _ (List.mem_append_right _ h)) hown hK hM (hI.obj) rfl (by decide) (hts (.fieldLink RX6 7 "SentenceRulesModel" "now" "[I") (List.mem_of_getElem? (i := 2) rfl)) rfl rfl dX6_tell_75 ?_
            refine lv_iload_n hx hb dX6_tell_78 rfl (lv_at hl 1 rfl) ?_
            refine lv_bipush (v := (nI 49)) hx hb dX6_tell_79 (by decide +kernel) ?_
            refine ln_iadd (57 + 66 * n) 49 hx hb dX6_tell_81 ?_
            refine lv_aload_n hx hb dX6_tell_82 rfl (lv_at hl 0 rfl) ?_
            refine mm_get (C := RX6) (T := TX6) (N := 14) (k := 9) hx hb hts (fun _ h => List.mem_cons_of_mem _ (List.mem_append_right _ h)) hown hK hM (hI.obj) rfl (by decide) (hts (.fieldLink RX6 122 "SentenceRulesModel" "about" "I") (List.mem_of_getElem? (i := 4) rfl)) rfl rfl dX6_tell_83 ?_
            refine mn_iast hx hb hK hM (hI.now) ((57 + 66 * n) + 49) (by omega) (by decide) dX6_tell_86 (fun Hp lcs hM => ?_)
            have hI := hI.setNow (upd (telC S n 49) ((57 + 66 * n) + 49) a1)
            refine lv_aload_n hx hb dX6_tell_87 rfl (lv_at hl 0 rfl) ?_
            refine mm_get (C := RX6) (T := TX6) (N := 14) (k := 0) hx hb hts (fun _ h => List.mem_cons_of_mem _ (List.mem_append_right _ h)) hown hK hM (hI.obj) rfl (by decide) (hts (.fieldLink RX6 7 "SentenceRulesModel" "now" "[I") (List.mem_of_getElem? (i := 2) rfl)) rfl rfl dX6_tell_88 ?_
            refine lv_iload_n hx hb dX6_tell_91 rfl (lv_at hl 1 rfl) ?_
            refine lv_bipush (v := (nI 50)) hx hb dX6_tell_92 (by decide +kernel) ?_
            refine ln_iadd (57 + 66 * n) 50 hx hb dX6_tell_94 ?_
            refine lv_aload_n hx hb dX6_tell_95 rfl (lv_at hl 0 rfl) ?_
            refine mm_get (C := RX6) (T := TX6) (N := 14) (k := 10) hx hb hts (fun _ h => List.mem_cons_of_mem _ (List.mem_append_right _ h)) hown hK hM (hI.obj) rfl (by decide) (hts (.fieldLink RX6 119 "SentenceRulesModel" "gives" "I") (List.mem_of_getElem? (i := 5) rfl)) rfl rfl dX6_tell_96 ?_
            refine mn_iast hx hb hK hM (hI.now) ((57 + 66 * n) + 50) (by omega) (by decide) dX6_tell_99 (fun Hp lcs hM => ?_)
            have hI := hI.setNow (upd (upd (telC S n 49) ((57 + 66 * n) + 49) a1) ((57 + 66 * n) + 50) g1)
            refine lv_aload_n hx hb dX6_tell_100 rfl (lv_at hl 0 rfl) ?_
            refine mm_get (C := RX6) (T := TX6) (N := 14) (k := 0) hx hb hts (fun _ h => List.mem_cons_of_mem _ (List.mem_append_right _ h)) hown hK hM (hI.obj) rfl (by decide) (hts (.fieldLink RX6 7 "SentenceRulesModel" "now" "[I") (List.mem_of_getElem? (i := 2) rfl)) rfl rfl dX6_tell_101 ?_
            refine lv_iload_n hx hb dX6_tell_104 rfl (lv_at hl 1 rfl) ?_
            refine lv_bipush (v := (nI 51)) hx hb dX6_tell_105 (by decide +kernel) ?_
            refine ln_iadd (57 + 66 * n) 51 hx hb dX6_tell_107 ?_
            refine lv_aload_n hx hb dX6_tell_108 rfl (lv_at hl 0 rfl) ?_
            refine mm_get (C := RX6) (T := TX6) (N := 14) (k := 8) hx hb hts (fun _ h => List.mem_cons_of_mem _ (List.mem_append_right _ h)) hown hK hM (hI.obj) rfl (by decide) (hts (.fieldLink RX6 100 "SentenceRulesModel" "used" "I") (List.mem_of_getElem? (i := 6) rfl)) rfl rfl dX6_tell_109 ?_
            refine mn_iast hx hb hK hM (hI.now) ((57 + 66 * n) + 51) (by omega) (by decide) dX6_tell_112 (fun Hp lcs hM => ?_)
            have hI := hI.setNow (upd (upd (upd (telC S n 49) ((57 + 66 * n) + 49) a1) ((57 + 66 * n) + 50) g1) ((57 + 66 * n) + 51) u1)
            have hI := hI.cS (show _ = (telU S n a1 g1 u1) from rfl)
            refine lv_iconst (v := (nI 0)) hx hb dX6_tell_113 (by decide +kernel) ?_
            refine lv_istore_n (lv' := [(2, .int (nI 0)), (0, .ref o), (1, .int (nI (57 + 66 * n)))]) hx hb dX6_tell_114 rfl hl (by decide) rfl (fun ls hl => ?_)
            have loopZ : ∀ (fuelB : Nat) (i : Nat) (fz : mE) (Hp : Heap) (lcs : List Loc) (ls : Array Slot) (hiN : i ≤ 7) (hIz : RI G fz o a (telF (telU S n a1 g1 u1) l1 h1 (57 + 66 * n) i) (recP S P q) l1 h1 ou (nI (recN q)) (bI (errF S cn 0 ir wt 0).2.1) (bI (errF S cn 0 ir wt 0).2.2) u1 a1 g1 wr wo) (hfuB : 7 - i < fuelB) (hM : mM G A s.heap fz Hp lcs) (hl : lv_has ls 3 [(0, .ref o), (1, .int (nI (57 + 66 * n))), (2, .int (nI i))]), W pgm l env ({ frames := 5, cells := 0, slots := 0, locals := 114 } : Room) s mt args below meth c Hp lcs 0 0 (MQ below (mQc G A (fun v f1 => v = some (.int (telV S n cn ir wt lo hi ab)) ∧ ∃ l2 h2 u2 a2 g2, RI G f1 o a (if (telO S n cn ir wt lo hi ab) = true then telZ S n (rsAll S n cn lo hi ab) else S) (if (telO S n cn ir wt lo hi ab) = true then recP S P q else P) l2 h2 ou (nI (if (telO S n cn ir wt lo hi ab) = true then recN q else q)) (bI (errF S cn 0 ir wt 0).2.1) (bI (errF S cn 0 ir wt 0).2.2) u2 a2 g2 wr wo)) args s 0 0 A) (F0 mt 115 ls []) := by
              intro fuelB
              induction fuelB with
              | zero => intro i fz Hp lcs ls hiN hIz hfuB; exact absurd hfuB (Nat.not_lt_zero _)
              | succ fuelB ihB =>
                intro i fz Hp lcs ls hiN hIz hfuB hM hl
                have hI := hIz
                refine lv_iload_n hx hb dX6_tell_115 rfl (lv_at hl 2 rfl) ?_
                refine lv_bipush (v := (nI 7)) hx hb dX6_tell_116 (by decide +kernel) ?_
                refine ln_icmp_ge i 7 (by omega) (by omega) (tgt := 161) hx hb dX6_tell_118 (by decide) (fun cz6 => ?_) (fun cz6 => ?_)
                · have hz7 : i = 7 := (by omega)
                  subst hz7
                  refine lv_aload_n hx hb dX6_tell_161 rfl (lv_at hl 0 rfl) ?_
                  refine mm_get (C := RX6) (T := TX6) (N := 14) (k := 0) hx hb hts (fun _ h => List.mem_cons_of_mem _ (List.mem_append_right _ h)) hown hK hM (hI.obj) rfl (by decide) (hts (.fieldLink RX6 7 "SentenceRulesModel" "now" "[I") (List.mem_of_getElem? (i := 2) rfl)) rfl rfl dX6_tell_162 ?_
                  refine lv_bipush (v := (nI 56)) hx hb dX6_tell_165 (by decide +kernel) ?_
                  refine lv_dup2_11 hx hb dX6_tell_167 rfl rfl ?_
                  refine mn_iald hx hb hK hM (hI.now) 56 (by omega) (by decide) dX6_tell_168 ?_
                  refine mv_top ((telF_lo (by omega)).trans ((telU_lo (by omega)).trans hn)) ?_
                  refine lv_iconst (v := (nI 1)) hx hb dX6_tell_169 (by decide +kernel) ?_
                  refine ln_iadd n 1 hx hb dX6_tell_170 ?_
                  refine mn_iast hx hb hK hM (hI.now) 56 (by omega) (by decide) dX6_tell_171 (fun Hp lcs hM => ?_)
                  have hI := hI.setNow (upd (telF (telU S n a1 g1 u1) l1 h1 (57 + 66 * n) 7) 56 (nI (n + 1)))
                  refine lv_aload_n hx hb dX6_tell_172 rfl (lv_at hl 0 rfl) ?_
                  refine mm_get (C := RX6) (T := TX6) (N := 14) (k := 0) hx hb hts (fun _ h => List.mem_cons_of_mem _ (List.mem_append_right _ h)) hown hK hM (hI.obj) rfl (by decide) (hts (.fieldLink RX6 7 "SentenceRulesModel" "now" "[I") (List.mem_of_getElem? (i := 2) rfl)) rfl rfl dX6_tell_173 ?_
                  refine lv_bipush (v := (nI 7)) hx hb dX6_tell_176 (by decide +kernel) ?_
                  refine lv_iconst (v := (nI 0)) hx hb dX6_tell_178 (by decide +kernel) ?_
                  refine mn_iast hx hb hK hM (hI.now) 7 (by omega) (by decide) dX6_tell_179 (fun Hp lcs hM => ?_)
                  have hI := hI.setNow (upd (upd (telF (telU S n a1 g1 u1) l1 h1 (57 + 66 * n) 7) 56 (nI (n + 1))) 7 (nI 0))
                  refine lv_aload_n hx hb dX6_tell_180 rfl (lv_at hl 0 rfl) ?_
                  refine mm_get (C := RX6) (T := TX6) (N := 14) (k := 0) hx hb hts (fun _ h => List.mem_cons_of_mem _ (List.mem_append_right _ h)) hown hK hM (hI.obj) rfl (by decide) (hts (.fieldLink RX6 7 "SentenceRulesModel" "now" "[I") (List.mem_of_getElem? (i := 2) rfl)) rfl rfl dX6_tell_181 ?_
                  refine lv_bipush (v := (nI 56)) hx hb dX6_tell_184 (by decide +kernel) ?_
                  refine mn_iald hx hb hK hM (hI.now) 56 (by omega) (by decide) dX6_tell_186 ?_
                  refine mv_top ((pk_un (by omega)).trans pk_us) ?_
                  refine lv_iconst (v := (nI 1)) hx hb dX6_tell_187 (by decide +kernel) ?_
                  refine ln_isub (n + 1) 1 (by omega) hx hb dX6_tell_188 ?_
                  refine mv_top (y := (nI n)) (congrArg nI (by omega)) ?_
                  exact mm_iret hx hb hlocks hr (Nat.le_of_ble_eq_true rfl) (Nat.le_of_ble_eq_true rfl) hM (⟨by rw [telV, if_pos cz2, if_neg cz3], _, _, _, _, _, by rw [show (telO S n cn ir wt lo hi ab) = true by (rw [telO, cz2]; simp [cz3]), if_pos rfl, if_pos rfl, if_pos rfl]; obtain ⟨rfl, rfl, rfl, rfl, rfl⟩ := hfz (canB_e cz2); exact hI⟩) dX6_tell_189
                refine lv_aload_n hx hb dX6_tell_121 rfl (lv_at hl 0 rfl) ?_
                refine mm_get (C := RX6) (T := TX6) (N := 14) (k := 0) hx hb hts (fun _ h => List.mem_cons_of_mem _ (List.mem_append_right _ h)) hown hK hM (hI.obj) rfl (by decide) (hts (.fieldLink RX6 7 "SentenceRulesModel" "now" "[I") (List.mem_of_getElem? (i := 2) rfl)) rfl rfl dX6_tell_122 ?_
                refine lv_iload_n hx hb dX6_tell_125 rfl (lv_at hl 1 rfl) ?_
                refine lv_bipush (v := (nI 52)) hx hb dX6_tell_126 (by decide +kernel) ?_
                refine ln_iadd (57 + 66 * n) 52 hx hb dX6_tell_128 ?_
                refine lv_iload_n hx hb dX6_tell_129 rfl (lv_at hl 2 rfl) ?_
                refine ln_iadd ((57 + 66 * n) + 52) i hx hb dX6_tell_130 ?_
                refine lv_aload_n hx hb dX6_tell_131 rfl (lv_at hl 0 rfl) ?_
                refine mm_get (C := RX6) (T := TX6) (N := 14) (k := 6) hx hb hts (fun _ h => List.mem_cons_of_mem _ (List.mem_append_right _ h)) hown hK hM (hI.obj) rfl (by decide) (hts (.fieldLink RX6 19 "SentenceRulesModel" "low" "[I") (List.mem_of_getElem? (i := 7) rfl)) rfl rfl dX6_tell_132 ?_
                refine lv_iload_n hx hb dX6_tell_135 rfl (lv_at hl 2 rfl) ?_
                refine mn_iald hx hb hK hM (hI.low) i (by omega) (by decide) dX6_tell_136 ?_
                refine mn_iast hx hb hK hM (hI.now) (((57 + 66 * n) + 52) + i) (by omega) (by decide) dX6_tell_137 (fun Hp lcs hM => ?_)
                have hI := hI.setNow (upd (telF (telU S n a1 g1 u1) l1 h1 (57 + 66 * n) i) (((57 + 66 * n) + 52) + i) (l1 i))
                refine lv_aload_n hx hb dX6_tell_138 rfl (lv_at hl 0 rfl) ?_
                refine mm_get (C := RX6) (T := TX6) (N := 14) (k := 0) hx hb hts (fun _ h => List.mem_cons_of_mem _ (List.mem_append_right _ h)) hown hK hM (hI.obj) rfl (by decide) (hts (.fieldLink RX6 7 "SentenceRulesModel" "now" "[I") (List.mem_of_getElem? (i := 2) rfl)) rfl rfl dX6_tell_139 ?_
                refine lv_iload_n hx hb dX6_tell_142 rfl (lv_at hl 1 rfl) ?_
                refine lv_bipush (v := (nI 59)) hx hb dX6_tell_143 (by decide +kernel) ?_
                refine ln_iadd (57 + 66 * n) 59 hx hb dX6_tell_145 ?_
                refine lv_iload_n hx hb dX6_tell_146 rfl (lv_at hl 2 rfl) ?_
                refine ln_iadd ((57 + 66 * n) + 59) i hx hb dX6_tell_147 ?_
                refine lv_aload_n hx hb dX6_tell_148 rfl (lv_at hl 0 rfl) ?_
                refine mm_get (C := RX6) (T := TX6) (N := 14) (k := 7) hx hb hts (fun _ h => List.mem_cons_of_mem _ (List.mem_append_right _ h)) hown hK hM (hI.obj) rfl (by decide) (hts (.fieldLink RX6 22 "SentenceRulesModel" "high" "[I") (List.mem_of_getElem? (i := 8) rfl)) rfl rfl dX6_tell_149 ?_
                refine lv_iload_n hx hb dX6_tell_152 rfl (lv_at hl 2 rfl) ?_
                refine mn_iald hx hb hK hM (hI.high) i (by omega) (by decide) dX6_tell_153 ?_
                refine mn_iast hx hb hK hM (hI.now) (((57 + 66 * n) + 59) + i) (by omega) (by decide) dX6_tell_154 (fun Hp lcs hM => ?_)
                have hI := hI.setNow (upd (upd (telF (telU S n a1 g1 u1) l1 h1 (57 + 66 * n) i) (((57 + 66 * n) + 52) + i) (l1 i)) (((57 + 66 * n) + 59) + i) (h1 i))
                refine lv_iinc (v := (nI (i + 1))) (lv' := [(2, .int (nI (i + 1))), (0, .ref o), (1, .int (nI (57 + 66 * n)))]) hx hb dX6_tell_155 hl (k := 2) rfl (nI_add _ _) (by decide) rfl (fun ls hl => ?_)
                refine lv_goto (tgt := 115) hx hb dX6_tell_158 (by decide) ?_
                exact ihB (i + 1) _ _ _ ls (by omega) (hI.cS (telF_s (by omega))) (by omega) hM (lv_sub hl [1, 2, 0] rfl)
            exact loopZ 8 0 _ _ _ ls (Nat.zero_le _) (by rw [telF_0]; exact hI) (by omega) hM (lv_sub hl [1, 2, 0] rfl)
          refine lv_aload_n hx hb dX6_tell_51 rfl (lv_at hl 0 rfl) ?_
          refine mm_get (C := RX6) (T := TX6) (N := 14) (k := 0) hx hb hts (fun _ h => List.mem_cons_of_mem _ (List.mem_append_right _ h)) hown hK hM (hI.obj) rfl (by decide) (hts (.fieldLink RX6 7 "SentenceRulesModel" "now" "[I") (List.mem_of_getElem? (i := 2) rfl)) rfl rfl dX6_tell_52 ?_
          refine lv_iload_n hx hb dX6_tell_55 rfl (lv_at hl 1 rfl) ?_
          refine lv_iload_n hx hb dX6_tell_56 rfl (lv_at hl 2 rfl) ?_
          refine ln_iadd (57 + 66 * n) i hx hb dX6_tell_57 ?_
          refine lv_aload_n hx hb dX6_tell_58 rfl (lv_at hl 0 rfl) ?_
          refine mm_get (C := RX6) (T := TX6) (N := 14) (k := 0) hx hb hts (fun _ h => List.mem_cons_of_mem _ (List.mem_append_right _ h)) hown hK hM (hI.obj) rfl (by decide) (hts (.fieldLink RX6 7 "SentenceRulesModel" "now" "[I") (List.mem_of_getElem? (i := 2) rfl)) rfl rfl dX6_tell_59 ?_
          refine lv_bipush (v := (nI 7)) hx hb dX6_tell_62 (by decide +kernel) ?_
          refine lv_iload_n hx hb dX6_tell_64 rfl (lv_at hl 2 rfl) ?_
          refine ln_iadd 7 i hx hb dX6_tell_65 ?_
          refine mn_iald hx hb hK hM (hI.now) (7 + i) (by omega) (by decide) dX6_tell_66 ?_
          refine mn_iast hx hb hK hM (hI.now) ((57 + 66 * n) + i) (by omega) (by decide) dX6_tell_67 (fun Hp lcs hM => ?_)
          have hI := hI.setNow (upd (telC S n i) ((57 + 66 * n) + i) ((telC S n i) (7 + i)))
          refine lv_iinc (v := (nI (i + 1))) (lv' := [(2, .int (nI (i + 1))), (0, .ref o), (1, .int (nI (57 + 66 * n)))]) hx hb dX6_tell_68 hl (k := 2) rfl (nI_add _ _) (by decide) rfl (fun ls hl => ?_)
          refine lv_goto (tgt := 45) hx hb dX6_tell_71 (by decide) ?_
          exact ih (i + 1) _ _ _ ls (by omega) (hI.cS (telC_s (by omega))) (by omega) hM (lv_sub hl [1, 2, 0] rfl)
      exact loopY 50 0 _ _ _ ls (Nat.zero_le _) (by rw [telC_0]; exact hI) (by omega) hM (lv_sub hl [2, 1, 0] rfl)
    refine lv_ldc (v := (-100004)) hx hb hown (hts (.constant RX6 69 (-100004)) (List.mem_of_getElem? (i := 3) rfl)) dX6_tell_22 ?_
    exact mm_iret hx hb hlocks hr (Nat.le_of_ble_eq_true rfl) (Nat.le_of_ble_eq_true rfl) hM (⟨by rw [telV, if_pos cz2, if_pos cz3], _, _, _, _, _, by rw [show (telO S n cn ir wt lo hi ab) = false by (rw [telO, cz2]; simp [cz3])]; exact hI⟩) dX6_tell_24
  refine lv_ldc (v := (-100003)) hx hb hown (hts (.constant RX6 73 (-100003)) (List.mem_of_getElem? (i := 1) rfl)) dX6_tell_7 ?_
  exact mm_iret hx hb hlocks hr (Nat.le_of_ble_eq_true rfl) (Nat.le_of_ble_eq_true rfl) hM (⟨by rw [telV, if_neg (by rw [cz2]; decide)], _, _, _, _, _, by rw [show (telO S n cn ir wt lo hi ab) = false by (rw [telO, cz2]; rfl)]; exact hI⟩) dX6_tell_9
set_option maxHeartbeats 4000000 in
set_option maxRecDepth 100000 in
theorem c6_nextChange (l : Launch) (G : mG) {f : mE} {o : Nat} {a : Nat → Nat} {S P lo hi ou : Nat → Int32} {rc isr wd us ab gi wr wo : Int32} (hI : RI G f o a S P lo hi ou rc isr wd us ab gi wr wo) {n : Nat} (hn : S 56 = nI n) (hn16 : n ≤ 16) (r k : Int32) : mC l G yX6_nextChange wsX6_nextChange ({ frames := 6, cells := 0, slots := 0, locals := 140 } : Room) f [.ref o, .int r, .int k] (fun v f1 => v = some (.int (a6_nextChange S wo n r k)) ∧ RI G f1 o a S P lo hi ou rc isr wd us ab gi wr wo) 0 0 := by
  refine mC.of (cc := cX6_nextChange) (maxL := 5) (ret := (some .int)) (by decide) rfl (Nat.le_of_ble_eq_true rfl) ?_
  intro pgm env s mt args below meth c A ls hx hb hml hr hlocks hown hname hts hK hE hA hM hl
  have hl : lv_has ls 5 [(0, .ref o), (1, .int r), (2, .int k)] := hl
  refine lv_iload_n hx hb dX6_nextChange_0 rfl (lv_at hl 1 rfl) ?_
  refine mm_S (As := [.int r]) (rest := []) ⟨hx, hb, hml, hown, hts⟩ (c6_isResult l G _ r) (va_cwS 1 hts gX6_nextChange_X6_isResult rfl rfl rfl (by decide +kernel) ⟨Nat.le_of_ble_eq_true rfl, Nat.le_of_ble_eq_true rfl⟩) hK hE hA hM rfl hl.1 rfl (Nat.le_of_ble_eq_true rfl) dX6_nextChange_1 ⟨Nat.le_of_ble_eq_true rfl, Nat.le_of_ble_eq_true rfl⟩ (fun v f1 Hp lcs hp hM => ?_)
  obtain ⟨rfl, hf⟩ := hp; subst hf
  refine lvb_eq (tgt := 14) hx hb dX6_nextChange_4 (by decide) (fun cz1 => ?_) (fun cz1 => ?_)
  · refine lv_ldc (v := (-100002)) hx hb hown (hts (.constant RX6 64 (-100002)) (List.mem_of_getElem? (i := 1) rfl)) dX6_nextChange_14 ?_
    exact mm_iret hx hb hlocks hr (Nat.le_of_ble_eq_true rfl) (Nat.le_of_ble_eq_true rfl) hM (⟨by rw [a6_nextChange]; simp [cz1], hI⟩) dX6_nextChange_16
  refine lv_iload_n hx hb dX6_nextChange_7 rfl (lv_at hl 2 rfl) ?_
  refine mm_S (As := [.int k]) (rest := []) ⟨hx, hb, hml, hown, hts⟩ (c6_isFact l G _ k) (va_cwS 1 hts gX6_nextChange_X6_isFact rfl rfl rfl (by decide +kernel) ⟨Nat.le_of_ble_eq_true rfl, Nat.le_of_ble_eq_true rfl⟩) hK hE hA hM rfl hl.1 rfl (Nat.le_of_ble_eq_true rfl) dX6_nextChange_8 ⟨Nat.le_of_ble_eq_true rfl, Nat.le_of_ble_eq_true rfl⟩ (fun v f1 Hp lcs hp hM => ?_)
  obtain ⟨rfl, hf⟩ := hp; subst hf
  refine lvb_ne (tgt := 17) hx hb dX6_nextChange_11 (by decide) (fun cz2 => ?_) (fun cz2 => ?_)
  · obtain ⟨i, iN, rfl⟩ := inB_nat (K := 6) (by decide) cz2
    refine lv_aload_n hx hb dX6_nextChange_17 rfl (lv_at hl 0 rfl) ?_
    refine lv_iload_n hx hb dX6_nextChange_18 rfl (lv_at hl 1 rfl) ?_
    refine mm_V (As := [.int r]) (rest := []) ⟨hx, hb, hml, hown, hts⟩ (c6_answerNow l G hI hn hn16 r) (cwV 1 hts gX6_nextChange_X6_answerNow rfl rfl rfl (by decide +kernel) ⟨Nat.le_of_ble_eq_true rfl, Nat.le_of_ble_eq_true rfl⟩) hK hE hA hM (mm_recv hK hM (hI.obj) (q := (RX6, TX6, 14)) rfl) rfl hl.1 rfl (Nat.le_of_ble_eq_true rfl) dX6_nextChange_19 ⟨Nat.le_of_ble_eq_true rfl, Nat.le_of_ble_eq_true rfl⟩ (fun v f1 Hp lcs hp hM => ?_)
    obtain ⟨rfl, hf⟩ := hp; subst hf
    refine lv_istore_n (lv' := [(3, .int (ansI S wo n r)), (0, .ref o), (1, .int r), (2, .int (nI i))]) hx hb dX6_nextChange_22 rfl hl (by decide) rfl (fun ls hl => ?_)
    refine lv_aload_n hx hb dX6_nextChange_23 rfl (lv_at hl 1 rfl) ?_
    refine lv_iload_n hx hb dX6_nextChange_24 rfl (lv_at hl 3 rfl) ?_
    refine lv_aload_n hx hb dX6_nextChange_25 rfl (lv_at hl 1 rfl) ?_
    refine mm_get (C := RX6) (T := TX6) (N := 14) (k := 0) hx hb hts (fun _ h => List.mem_cons_of_mem _ (List.mem_append_right _ h)) hown hK hM (hI.obj) rfl (by decide) (hts (.fieldLink RX6 7 "SentenceRulesModel" "now" "[I") (List.mem_of_getElem? (i := 2) rfl)) rfl rfl dX6_nextChange_26 ?_
    refine lv_iload_n hx hb dX6_nextChange_29 rfl (lv_at hl 3 rfl) ?_
    refine mn_iald hx hb hK hM (hI.now) i (by omega) (by decide) dX6_nextChange_30 ?_
    refine mm_V (As := [.int (nI i), .int (S i)]) (rest := []) ⟨hx, hb, hml, hown, hts⟩ (c6_border l G hI hn hn16 i (by omega) (S i)) (cwV 2 hts gX6_nextChange_X6_border rfl rfl rfl (by decide +kernel) ⟨Nat.le_of_ble_eq_true rfl, Nat.le_of_ble_eq_true rfl⟩) hK hE hA hM (mm_recv hK hM (hI.obj) (q := (RX6, TX6, 14)) rfl) rfl hl.1 rfl (Nat.le_of_ble_eq_true rfl) dX6_nextChange_31 ⟨Nat.le_of_ble_eq_true rfl, Nat.le_of_ble_eq_true rfl⟩ (fun v f1 Hp lcs hp hM => ?_)
    obtain ⟨rfl, hf⟩ := hp; subst hf
    refine lv_istore (lv' := [(4, .int (borI S n i (S i))), (3, .int (ansI S wo n r)), (0, .ref o), (1, .int r), (2, .int (nI i))]) hx hb dX6_nextChange_34 hl (by decide) rfl (fun ls hl => ?_)
    have loopZ : ∀ (fuel : Nat) (v : Int32) (fz : mE) (Hp : Heap) (lcs : List Loc) (ls : Array Slot) (hfin : ∀ m, ncM v < m → ncF S wo n r i (fun z => !decide (z = ansI S wo n r)) m v = ncZ S wo n r i (fun z => !decide (z = ansI S wo n r)) (borI S n i (S i))) (hIz : RI G fz o a S P lo hi ou rc isr wd us ab gi wr wo) (hfu : ncM v < fuel) (hM : mM G A s.heap fz Hp lcs) (hl : lv_has ls 5 [(0, .ref o), (1, .int r), (2, .int (nI i)), (3, .int (ansI S wo n r)), (4, .int v)]), W pgm l env ({ frames := 6, cells := 0, slots := 0, locals := 140 } : Room) s mt args below meth c Hp lcs 0 0 (MQ below (mQc G A (fun v f1 => v = some (.int (a6_nextChange S wo n r (nI i))) ∧ RI G f1 o a S P lo hi ou rc isr wd us ab gi wr wo)) args s 0 0 A) (F0 mt 36 ls []) := by
      intro fuel
      induction fuel with
      | zero => intro v fz Hp lcs ls hfin hIz hfu; exact absurd hfu (Nat.not_lt_zero _)
      | succ fuel ih =>
        intro v fz Hp lcs ls hfin hIz hfu hM hl
        have hI := hIz
        refine lv_iload hx hb dX6_nextChange_36 (lv_at hl 4 rfl) ?_
        refine lv_ldc (v := (-100005)) hx hb hown (hts (.constant RX6 28 (-100005)) (List.mem_of_getElem? (i := 3) rfl)) dX6_nextChange_38 ?_
        refine lv_icmp_eq (tgt := 67) hx hb dX6_nextChange_40 (by decide) (fun cz3 => ?_) (fun cz3 => ?_)
        · refine lv_iload hx hb dX6_nextChange_67 (lv_at hl 4 rfl) ?_
          exact mm_iret hx hb hlocks hr (Nat.le_of_ble_eq_true rfl) (Nat.le_of_ble_eq_true rfl) hM (⟨congrArg (fun z => some (Value.int z)) (by rw [a6_nextChange, if_pos (by simp [cz1, cz2]), nI_clamp (by omega), ← hfin (ncM v + 1) (Nat.lt_succ_self _)]; exact (ncF_1 cz3).symm), hI⟩) dX6_nextChange_69
        refine lv_aload_n hx hb dX6_nextChange_43 rfl (lv_at hl 0 rfl) ?_
        refine lv_iload_n hx hb dX6_nextChange_44 rfl (lv_at hl 1 rfl) ?_
        refine lv_iload_n hx hb dX6_nextChange_45 rfl (lv_at hl 2 rfl) ?_
        refine lv_iload hx hb dX6_nextChange_46 (lv_at hl 4 rfl) ?_
        refine mm_V (As := [.int r, .int (nI i), .int v]) (rest := []) ⟨hx, hb, hml, hown, hts⟩ (c6_answerWith l G hI hn hn16 r i (by omega) v) (cwV 3 hts gX6_nextChange_X6_answerWith rfl rfl rfl (by decide +kernel) ⟨Nat.le_of_ble_eq_true rfl, Nat.le_of_ble_eq_true rfl⟩) hK hE hA hM (mm_recv hK hM (hI.obj) (q := (RX6, TX6, 14)) rfl) rfl hl.1 rfl (Nat.le_of_ble_eq_true rfl) dX6_nextChange_48 ⟨Nat.le_of_ble_eq_true rfl, Nat.le_of_ble_eq_true rfl⟩ (fun v gz4 Hp lcs hp hM => ?_)
        obtain ⟨rfl, hI⟩ := hp
        refine lv_iload_n hx hb dX6_nextChange_51 rfl (lv_at hl 3 rfl) ?_
        refine lv_icmp_ne (tgt := 67) hx hb dX6_nextChange_52 (by decide) (fun cz5 => ?_) (fun cz5 => ?_)
        · refine lv_iload hx hb dX6_nextChange_67 (lv_at hl 4 rfl) ?_
          exact mm_iret hx hb hlocks hr (Nat.le_of_ble_eq_true rfl) (Nat.le_of_ble_eq_true rfl) hM (⟨congrArg (fun z => some (Value.int z)) (by rw [a6_nextChange, if_pos (by simp [cz1, cz2]), nI_clamp (by omega), ← hfin (ncM v + 1) (Nat.lt_succ_self _)]; exact (ncF_2 cz3 (by simp [cz5])).symm), hI⟩) dX6_nextChange_69
        refine lv_aload_n hx hb dX6_nextChange_55 rfl (lv_at hl 0 rfl) ?_
        refine lv_iload_n hx hb dX6_nextChange_56 rfl (lv_at hl 2 rfl) ?_
        refine lv_iload hx hb dX6_nextChange_57 (lv_at hl 4 rfl) ?_
        refine mm_V (As := [.int (nI i), .int v]) (rest := []) ⟨hx, hb, hml, hown, hts⟩ (c6_border l G hI hn hn16 i (by omega) v) (cwV 2 hts gX6_nextChange_X6_border rfl rfl rfl (by decide +kernel) ⟨Nat.le_of_ble_eq_true rfl, Nat.le_of_ble_eq_true rfl⟩) hK hE hA hM (mm_recv hK hM (hI.obj) (q := (RX6, TX6, 14)) rfl) rfl hl.1 rfl (Nat.le_of_ble_eq_true rfl) dX6_nextChange_59 ⟨Nat.le_of_ble_eq_true rfl, Nat.le_of_ble_eq_true rfl⟩ (fun v f1 Hp lcs hp hM => ?_)
        obtain ⟨rfl, hf⟩ := hp; subst hf
        refine lv_istore (lv' := [(4, .int (borI S n i v)), (0, .ref o), (1, .int r), (2, .int (nI i)), (3, .int (ansI S wo n r))]) hx hb dX6_nextChange_62 hl (by decide) rfl (fun ls hl => ?_)
        refine lv_goto (tgt := 36) hx hb dX6_nextChange_64 (by decide) ?_
        exact ih _ _ _ _ ls (fun m hm => (ncF_3 cz3 (by simp [cz5]) hfin hm)) hI (Nat.lt_of_lt_of_le (borI_M cz3) (Nat.le_of_lt_succ hfu)) hM (lv_sub hl [1, 2, 3, 4, 0] rfl)
    exact loopZ (ncM (borI S n i (S i)) + 1) _ _ _ _ ls (fun m hm => ncF_st hm (Nat.lt_succ_self _)) hI (Nat.lt_succ_self _) hM (lv_sub hl [2, 3, 4, 1, 0] rfl)
  refine lv_ldc (v := (-100002)) hx hb hown (hts (.constant RX6 64 (-100002)) (List.mem_of_getElem? (i := 1) rfl)) dX6_nextChange_14 ?_
  exact mm_iret hx hb hlocks hr (Nat.le_of_ble_eq_true rfl) (Nat.le_of_ble_eq_true rfl) hM (⟨by rw [a6_nextChange]; simp [cz1, cz2], hI⟩) dX6_nextChange_16
set_option maxHeartbeats 4000000 in
set_option maxRecDepth 100000 in
theorem c6_leastFor (l : Launch) (G : mG) {f : mE} {o : Nat} {a : Nat → Nat} {S P lo hi ou : Nat → Int32} {rc isr wd us ab gi wr wo : Int32} (hI : RI G f o a S P lo hi ou rc isr wd us ab gi wr wo) {n : Nat} (hn : S 56 = nI n) (hn16 : n ≤ 16) (r k x : Int32) : mC l G yX6_leastFor wsX6_leastFor ({ frames := 6, cells := 0, slots := 0, locals := 140 } : Room) f [.ref o, .int r, .int k, .int x] (fun v f1 => v = some (.int (a6_leastFor S wo n r k x)) ∧ RI G f1 o a S P lo hi ou rc isr wd us ab gi wr wo) 0 0 := by
  refine mC.of (cc := cX6_leastFor) (maxL := 5) (ret := (some .int)) (by decide) rfl (Nat.le_of_ble_eq_true rfl) ?_
  intro pgm env s mt args below meth c A ls hx hb hml hr hlocks hown hname hts hK hE hA hM hl
  have hl : lv_has ls 5 [(0, .ref o), (1, .int r), (2, .int k), (3, .int x)] := hl
  refine lv_iload_n hx hb dX6_leastFor_0 rfl (lv_at hl 1 rfl) ?_
  refine mm_S (As := [.int r]) (rest := []) ⟨hx, hb, hml, hown, hts⟩ (c6_isResult l G _ r) (va_cwS 1 hts gX6_leastFor_X6_isResult rfl rfl rfl (by decide +kernel) ⟨Nat.le_of_ble_eq_true rfl, Nat.le_of_ble_eq_true rfl⟩) hK hE hA hM rfl hl.1 rfl (Nat.le_of_ble_eq_true rfl) dX6_leastFor_1 ⟨Nat.le_of_ble_eq_true rfl, Nat.le_of_ble_eq_true rfl⟩ (fun v f1 Hp lcs hp hM => ?_)
  obtain ⟨rfl, hf⟩ := hp; subst hf
  refine lvb_eq (tgt := 27) hx hb dX6_leastFor_4 (by decide) (fun cz1 => ?_) (fun cz1 => ?_)
  · refine lv_ldc (v := (-100002)) hx hb hown (hts (.constant RX6 64 (-100002)) (List.mem_of_getElem? (i := 1) rfl)) dX6_leastFor_27 ?_
    exact mm_iret hx hb hlocks hr (Nat.le_of_ble_eq_true rfl) (Nat.le_of_ble_eq_true rfl) hM (⟨by rw [a6_leastFor]; simp [cz1], hI⟩) dX6_leastFor_29
  refine lv_iload_n hx hb dX6_leastFor_7 rfl (lv_at hl 2 rfl) ?_
  refine mm_S (As := [.int k]) (rest := []) ⟨hx, hb, hml, hown, hts⟩ (c6_isFact l G _ k) (va_cwS 1 hts gX6_leastFor_X6_isFact rfl rfl rfl (by decide +kernel) ⟨Nat.le_of_ble_eq_true rfl, Nat.le_of_ble_eq_true rfl⟩) hK hE hA hM rfl hl.1 rfl (Nat.le_of_ble_eq_true rfl) dX6_leastFor_8 ⟨Nat.le_of_ble_eq_true rfl, Nat.le_of_ble_eq_true rfl⟩ (fun v f1 Hp lcs hp hM => ?_)
  obtain ⟨rfl, hf⟩ := hp; subst hf
  refine lvb_eq (tgt := 27) hx hb dX6_leastFor_11 (by decide) (fun cz2 => ?_) (fun cz2 => ?_)
  · refine lv_ldc (v := (-100002)) hx hb hown (hts (.constant RX6 64 (-100002)) (List.mem_of_getElem? (i := 1) rfl)) dX6_leastFor_27 ?_
    exact mm_iret hx hb hlocks hr (Nat.le_of_ble_eq_true rfl) (Nat.le_of_ble_eq_true rfl) hM (⟨by rw [a6_leastFor]; simp [cz1, cz2], hI⟩) dX6_leastFor_29
  refine lv_iload_n hx hb dX6_leastFor_14 rfl (lv_at hl 3 rfl) ?_
  refine lv_sipush (v := (-9999)) hx hb dX6_leastFor_15 (by decide +kernel) ?_
  refine lv_sipush (v := (nI 9999)) hx hb dX6_leastFor_18 (by decide +kernel) ?_
  refine mm_S (As := [.int x, .int (-9999), .int (nI 9999)]) (rest := []) ⟨hx, hb, hml, hown, hts⟩ (c6_in l G _ x (-9999) (nI 9999)) (va_cwS 3 hts gX6_leastFor_X6_in rfl rfl rfl (by decide +kernel) ⟨Nat.le_of_ble_eq_true rfl, Nat.le_of_ble_eq_true rfl⟩) hK hE hA hM rfl hl.1 rfl (Nat.le_of_ble_eq_true rfl) dX6_leastFor_21 ⟨Nat.le_of_ble_eq_true rfl, Nat.le_of_ble_eq_true rfl⟩ (fun v f1 Hp lcs hp hM => ?_)
  obtain ⟨rfl, hf⟩ := hp; subst hf
  refine mv_top (y := (bI (inB x (-9999) 9999))) rfl ?_
  refine lvb_ne (tgt := 30) hx hb dX6_leastFor_24 (by decide) (fun cz3 => ?_) (fun cz3 => ?_)
  · obtain ⟨i, iN, rfl⟩ := inB_nat (K := 6) (by decide) cz2
    refine lv_iload_n hx hb dX6_leastFor_30 rfl (lv_at hl 2 rfl) ?_
    refine mm_S (As := [.int (nI i)]) (rest := []) ⟨hx, hb, hml, hown, hts⟩ (c6_leastOf l G _ (nI i)) (va_cwS 1 hts gX6_leastFor_X6_leastOf rfl rfl rfl (by decide +kernel) ⟨Nat.le_of_ble_eq_true rfl, Nat.le_of_ble_eq_true rfl⟩) hK hE hA hM rfl hl.1 rfl (Nat.le_of_ble_eq_true rfl) dX6_leastFor_31 ⟨Nat.le_of_ble_eq_true rfl, Nat.le_of_ble_eq_true rfl⟩ (fun v f1 Hp lcs hp hM => ?_)
    obtain ⟨rfl, hf⟩ := hp; subst hf
    refine lv_istore (lv' := [(4, .int (leastF (nI i))), (0, .ref o), (1, .int r), (2, .int (nI i)), (3, .int x)]) hx hb dX6_leastFor_34 hl (by decide) rfl (fun ls hl => ?_)
    have loopZ : ∀ (fuel : Nat) (v : Int32) (fz : mE) (Hp : Heap) (lcs : List Loc) (ls : Array Slot) (hfin : ∀ m, ncM v < m → ncF S wo n r i (fun z => decide (z = x)) m v = ncZ S wo n r i (fun z => decide (z = x)) (leastF (nI i))) (hIz : RI G fz o a S P lo hi ou rc isr wd us ab gi wr wo) (hfu : ncM v < fuel) (hM : mM G A s.heap fz Hp lcs) (hl : lv_has ls 5 [(0, .ref o), (1, .int r), (2, .int (nI i)), (3, .int x), (4, .int v)]), W pgm l env ({ frames := 6, cells := 0, slots := 0, locals := 140 } : Room) s mt args below meth c Hp lcs 0 0 (MQ below (mQc G A (fun v f1 => v = some (.int (a6_leastFor S wo n r (nI i) x)) ∧ RI G f1 o a S P lo hi ou rc isr wd us ab gi wr wo)) args s 0 0 A) (F0 mt 36 ls []) := by
      intro fuel
      induction fuel with
      | zero => intro v fz Hp lcs ls hfin hIz hfu; exact absurd hfu (Nat.not_lt_zero _)
      | succ fuel ih =>
        intro v fz Hp lcs ls hfin hIz hfu hM hl
        have hI := hIz
        refine lv_iload hx hb dX6_leastFor_36 (lv_at hl 4 rfl) ?_
        refine lv_ldc (v := (-100005)) hx hb hown (hts (.constant RX6 28 (-100005)) (List.mem_of_getElem? (i := 2) rfl)) dX6_leastFor_38 ?_
        refine lv_icmp_eq (tgt := 67) hx hb dX6_leastFor_40 (by decide) (fun cz4 => ?_) (fun cz4 => ?_)
        · refine lv_iload hx hb dX6_leastFor_67 (lv_at hl 4 rfl) ?_
          exact mm_iret hx hb hlocks hr (Nat.le_of_ble_eq_true rfl) (Nat.le_of_ble_eq_true rfl) hM (⟨congrArg (fun z => some (Value.int z)) (by rw [a6_leastFor, if_pos (by simp [cz1, cz2, cz3]), nI_clamp (by omega), ← hfin (ncM v + 1) (Nat.lt_succ_self _)]; exact (ncF_1 cz4).symm), hI⟩) dX6_leastFor_69
        refine lv_aload_n hx hb dX6_leastFor_43 rfl (lv_at hl 0 rfl) ?_
        refine lv_iload_n hx hb dX6_leastFor_44 rfl (lv_at hl 1 rfl) ?_
        refine lv_iload_n hx hb dX6_leastFor_45 rfl (lv_at hl 2 rfl) ?_
        refine lv_iload hx hb dX6_leastFor_46 (lv_at hl 4 rfl) ?_
        refine mm_V (As := [.int r, .int (nI i), .int v]) (rest := []) ⟨hx, hb, hml, hown, hts⟩ (c6_answerWith l G hI hn hn16 r i (by omega) v) (cwV 3 hts gX6_leastFor_X6_answerWith rfl rfl rfl (by decide +kernel) ⟨Nat.le_of_ble_eq_true rfl, Nat.le_of_ble_eq_true rfl⟩) hK hE hA hM (mm_recv hK hM (hI.obj) (q := (RX6, TX6, 14)) rfl) rfl hl.1 rfl (Nat.le_of_ble_eq_true rfl) dX6_leastFor_48 ⟨Nat.le_of_ble_eq_true rfl, Nat.le_of_ble_eq_true rfl⟩ (fun v gz5 Hp lcs hp hM => ?_)
        obtain ⟨rfl, hI⟩ := hp
        refine lv_iload_n hx hb dX6_leastFor_51 rfl (lv_at hl 3 rfl) ?_
        refine lv_icmp_eq (tgt := 67) hx hb dX6_leastFor_52 (by decide) (fun cz6 => ?_) (fun cz6 => ?_)
        · refine lv_iload hx hb dX6_leastFor_67 (lv_at hl 4 rfl) ?_
          exact mm_iret hx hb hlocks hr (Nat.le_of_ble_eq_true rfl) (Nat.le_of_ble_eq_true rfl) hM (⟨congrArg (fun z => some (Value.int z)) (by rw [a6_leastFor, if_pos (by simp [cz1, cz2, cz3]), nI_clamp (by omega), ← hfin (ncM v + 1) (Nat.lt_succ_self _)]; exact (ncF_2 cz4 (by simp [cz6])).symm), hI⟩) dX6_leastFor_69
        refine lv_aload_n hx hb dX6_leastFor_55 rfl (lv_at hl 0 rfl) ?_
        refine lv_iload_n hx hb dX6_leastFor_56 rfl (lv_at hl 2 rfl) ?_
        refine lv_iload hx hb dX6_leastFor_57 (lv_at hl 4 rfl) ?_
        refine mm_V (As := [.int (nI i), .int v]) (rest := []) ⟨hx, hb, hml, hown, hts⟩ (c6_border l G hI hn hn16 i (by omega) v) (cwV 2 hts gX6_leastFor_X6_border rfl rfl rfl (by decide +kernel) ⟨Nat.le_of_ble_eq_true rfl, Nat.le_of_ble_eq_true rfl⟩) hK hE hA hM (mm_recv hK hM (hI.obj) (q := (RX6, TX6, 14)) rfl) rfl hl.1 rfl (Nat.le_of_ble_eq_true rfl) dX6_leastFor_59 ⟨Nat.le_of_ble_eq_true rfl, Nat.le_of_ble_eq_true rfl⟩ (fun v f1 Hp lcs hp hM => ?_)
        obtain ⟨rfl, hf⟩ := hp; subst hf
        refine lv_istore (lv' := [(4, .int (borI S n i v)), (0, .ref o), (1, .int r), (2, .int (nI i)), (3, .int x)]) hx hb dX6_leastFor_62 hl (by decide) rfl (fun ls hl => ?_)
        refine lv_goto (tgt := 36) hx hb dX6_leastFor_64 (by decide) ?_
        exact ih _ _ _ _ ls (fun m hm => (ncF_3 cz4 (by simp [cz6]) hfin hm)) hI (Nat.lt_of_lt_of_le (borI_M cz4) (Nat.le_of_lt_succ hfu)) hM (lv_sub hl [1, 2, 3, 4, 0] rfl)
    exact loopZ (ncM (leastF (nI i)) + 1) _ _ _ _ ls (fun m hm => ncF_st hm (Nat.lt_succ_self _)) hI (Nat.lt_succ_self _) hM (lv_sub hl [1, 2, 3, 4, 0] rfl)
  refine lv_ldc (v := (-100002)) hx hb hown (hts (.constant RX6 64 (-100002)) (List.mem_of_getElem? (i := 1) rfl)) dX6_leastFor_27 ?_
  exact mm_iret hx hb hlocks hr (Nat.le_of_ble_eq_true rfl) (Nat.le_of_ble_eq_true rfl) hM (⟨by rw [a6_leastFor]; simp [cz1, cz2, cz3], hI⟩) dX6_leastFor_29
