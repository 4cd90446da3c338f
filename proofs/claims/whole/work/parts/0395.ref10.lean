/-! THE REFERENCE: a sentence, read -/
def leaN (i : Nat) : Int32 := leastF (nI i)
def greN (i : Nat) : Int32 := greatestF (nI i)
theorem nfK_le (S : Nat → Int32) (k : Nat) : nfK S k ≤ k + 2 := by unfold nfK; split <;> omega
theorem nfK_ge (S : Nat → Int32) (k : Nat) : k + 1 ≤ nfK S k := by unfold nfK; omega
theorem fact_nat {x : Int32} (h : inB x 10 15 = true) : ∃ t, t < 6 ∧ x = nI (10 + t) := by
  obtain ⟨i, h1, h2, e⟩ := inB_nat2 (L := 10) (K := 15) (by decide) (by decide) h
  exact ⟨i - 10, by omega, by rw [e]; congr 1; omega⟩
def rsK (S : Nat → Int32) (k : Nat) : Nat := if inB (S (7 + 25 + k)) 16 21 = true then k + 1 else if inB (S (7 + 25 + k)) 10 15 = true then nfK S k + 2 else if inB (S (7 + 25 + k)) 22 25 = true then k + 3 else if S (7 + 25 + k) = nI 8 then k + 2 else if S (7 + 25 + k) = nI 9 then k + 2 else k + 1
def rsLo (S : Nat → Int32) (n k : Nat) (lo : Nat → Int32) : Nat → Int32 := if inB (S (7 + 25 + k)) 16 21 = true then narLo S n (S (7 + 25 + k) - nI 16) lo else if inB (S (7 + 25 + k)) 10 15 = true then nfLo S ((S (7 + 25 + k)).toNatClampNeg - 10) k lo else if inB (S (7 + 25 + k)) 22 25 = true then lo else if S (7 + 25 + k) = nI 8 then upd lo 6 (atlF (lo 6) (S (7 + 25 + (k + 1)))) else if S (7 + 25 + k) = nI 9 then lo else lo
def rsHi (S : Nat → Int32) (n k : Nat) (hi : Nat → Int32) : Nat → Int32 := if inB (S (7 + 25 + k)) 16 21 = true then narHi S n (S (7 + 25 + k) - nI 16) hi else if inB (S (7 + 25 + k)) 10 15 = true then nfHi S ((S (7 + 25 + k)).toNatClampNeg - 10) k hi else if inB (S (7 + 25 + k)) 22 25 = true then hi else if S (7 + 25 + k) = nI 8 then hi else if S (7 + 25 + k) = nI 9 then upd hi 6 (atmF (hi 6) (S (7 + 25 + (k + 1)))) else hi
def rsU (S : Nat → Int32) (k : Nat) (us : Int32) : Int32 := if inB (S (7 + 25 + k)) 16 21 = true then us ||| (nI 1 <<< ((S (7 + 25 + k) - nI 16) &&& 31)) else if inB (S (7 + 25 + k)) 10 15 = true then us else if inB (S (7 + 25 + k)) 22 25 = true then us else if S (7 + 25 + k) = nI 8 then us else if S (7 + 25 + k) = nI 9 then us else us
def rsA (S : Nat → Int32) (k : Nat) (ab : Int32) : Int32 := if inB (S (7 + 25 + k)) 16 21 = true then ab else if inB (S (7 + 25 + k)) 10 15 = true then ab else if inB (S (7 + 25 + k)) 22 25 = true then S (7 + 25 + k) - nI 22 else if S (7 + 25 + k) = nI 8 then ab else if S (7 + 25 + k) = nI 9 then ab else ab
def rsG (S : Nat → Int32) (k : Nat) (gi : Int32) : Int32 := if inB (S (7 + 25 + k)) 16 21 = true then gi else if inB (S (7 + 25 + k)) 10 15 = true then gi else if inB (S (7 + 25 + k)) 22 25 = true then S (7 + 25 + (k + 2)) else if S (7 + 25 + k) = nI 8 then gi else if S (7 + 25 + k) = nI 9 then gi else gi
theorem rsK_gt (S : Nat → Int32) (k : Nat) : k < rsK S k := by
  have := nfK_ge S k
  unfold rsK
  repeat' split
  all_goals omega
def rsF (S : Nat → Int32) (n c : Nat) : Nat → Nat → (Nat → Int32) → (Nat → Int32) → Int32 → Int32 → Int32 → (Nat → Int32) × (Nat → Int32) × Int32 × Int32 × Int32
  | 0, _, lo, hi, us, ab, gi => (lo, hi, us, ab, gi)
  | m + 1, k, lo, hi, us, ab, gi => if k < c then rsF S n c m (rsK S k) (rsLo S n k lo) (rsHi S n k hi) (rsU S k us) (rsA S k ab) (rsG S k gi) else (lo, hi, us, ab, gi)
theorem rsF_st {S : Nat → Int32} {n c : Nat} : ∀ {m m2 k : Nat} {lo hi : Nat → Int32} {us ab gi : Int32}, c - k < m → c - k < m2 → rsF S n c m k lo hi us ab gi = rsF S n c m2 k lo hi us ab gi
  | 0, _, k, _, _, _, _, _, h, _ => absurd h (Nat.not_lt_zero _)
  | _ + 1, 0, k, _, _, _, _, _, _, h => absurd h (Nat.not_lt_zero _)
  | m + 1, m2 + 1, k, lo, hi, us, ab, gi, h, h2 => by
    have hg := rsK_gt S k
    rw [rsF, rsF]
    split
    · exact rsF_st (by omega) (by omega)
    · rfl
theorem rsF_end {S : Nat → Int32} {n c m k : Nat} {lo hi : Nat → Int32} {us ab gi : Int32} (h : c ≤ k) : rsF S n c (m + 1) k lo hi us ab gi = (lo, hi, us, ab, gi) := by rw [rsF, if_neg (by omega)]
theorem rsF_next {S : Nat → Int32} {n c k k2 : Nat} {lo hi l2 h2 : Nat → Int32} {us ab gi u2 a2 g2 : Int32} {Z : (Nat → Int32) × (Nat → Int32) × Int32 × Int32 × Int32} (hk : k < c) (_ : c - k2 < c - k + 1) (hfin : ∀ m, c - k < m → rsF S n c m k lo hi us ab gi = Z) (eK : k2 = rsK S k) (eL : l2 = rsLo S n k lo) (eH : h2 = rsHi S n k hi) (eU : u2 = rsU S k us) (eA : a2 = rsA S k ab) (eG : g2 = rsG S k gi) : ∀ m, c - k2 < m → rsF S n c m k2 l2 h2 u2 a2 g2 = Z := by
  subst eK; subst eL; subst eH; subst eU; subst eA; subst eG
  intro m hm
  have hg := rsK_gt S k
  rw [rsF_st hm (show c - rsK S k < c - k by omega), ← hfin (c - k + 1) (by omega), rsF, if_pos hk]
def rs0K (S : Nat → Int32) : Nat := if inB (S (7 + 25 + 0)) 16 21 = true ∧ S (7 + 1 + 0) = 0 then 2 else if S (7 + 25 + 0) = 0 then 1 else 0
def rs0A (S : Nat → Int32) (ab : Int32) : Int32 := if inB (S (7 + 25 + 0)) 16 21 = true ∧ S (7 + 1 + 0) = 0 then S (7 + 25 + 0) - nI 6 else ab
theorem rs0K_1 {S : Nat → Int32} (h : inB (S (7 + 25 + 0)) 16 21 = true) (h2 : S (7 + 1 + 0) = 0) : rs0K S = 2 := if_pos ⟨h, h2⟩
theorem rs0A_1 {S : Nat → Int32} {ab : Int32} (h : inB (S (7 + 25 + 0)) 16 21 = true) (h2 : S (7 + 1 + 0) = 0) : rs0A S ab = S (7 + 25 + 0) - nI 6 := if_pos ⟨h, h2⟩
theorem rs0K_2 {S : Nat → Int32} (h : ¬ (inB (S (7 + 25 + 0)) 16 21 = true ∧ S (7 + 1 + 0) = 0)) (h2 : S (7 + 25 + 0) = 0) : rs0K S = 1 := by rw [rs0K, if_neg h, if_pos h2]
theorem rs0K_3 {S : Nat → Int32} (h : ¬ (inB (S (7 + 25 + 0)) 16 21 = true ∧ S (7 + 1 + 0) = 0)) (h2 : ¬ S (7 + 25 + 0) = 0) : rs0K S = 0 := by rw [rs0K, if_neg h, if_neg h2]
theorem rs0A_2 {S : Nat → Int32} {ab : Int32} (h : ¬ (inB (S (7 + 25 + 0)) 16 21 = true ∧ S (7 + 1 + 0) = 0)) : rs0A S ab = ab := if_neg h
def rsAll (S : Nat → Int32) (n c : Nat) (lo hi : Nat → Int32) (ab : Int32) : (Nat → Int32) × (Nat → Int32) × Int32 × Int32 × Int32 := rsF S n c (c + 1) (rs0K S) (filN leaN lo 7) (filN greN hi 7) (nI 0) (rs0A S ab) (-100005)
set_option maxHeartbeats 4000000 in
set_option maxRecDepth 100000 in
theorem c6_readSentence (l : Launch) (G : mG) {f : mE} {o : Nat} {a : Nat → Nat} {S P lo hi ou : Nat → Int32} {rc isr wd us ab gi wr wo : Int32} (hI : RI G f o a S P lo hi ou rc isr wd us ab gi wr wo) {n : Nat} (hn : S 56 = nI n) (hn16 : n ≤ 16) {cn : Nat} (hc : S 7 = nI cn) (hc24 : cn ≤ 24) : mC l G yX6_readSentence wsX6_readSentence ({ frames := 3, cells := 0, slots := 0, locals := 67 } : Room) f [.ref o] (fun v f1 => v = none ∧ RI G f1 o a S P (rsAll S n cn lo hi ab).1 (rsAll S n cn lo hi ab).2.1 ou rc isr wd (rsAll S n cn lo hi ab).2.2.1 (rsAll S n cn lo hi ab).2.2.2.1 (rsAll S n cn lo hi ab).2.2.2.2 wr wo) 0 0 := by
  refine mC.of (cc := cX6_readSentence) (maxL := 3) (ret := none) (by decide) rfl (Nat.le_of_ble_eq_true rfl) ?_
  intro pgm env s mt args below meth c A ls hx hb hml hr hlocks hown hname hts hK hE hA hM hl
  have hl : lv_has ls 3 [(0, .ref o)] := hl
  refine lv_iconst (v := (nI 0)) hx hb dX6_readSentence_0 (by decide +kernel) ?_
  refine lv_istore_n (lv' := [(1, .int (nI 0)), (0, .ref o)]) hx hb dX6_readSentence_1 rfl hl (by decide) rfl (fun ls hl => ?_)
  have loopY : ∀ (fuel : Nat) (i : Nat) (fz : mE) (Hp : Heap) (lcs : List Loc) (ls : Array Slot) (hiN : i ≤ 7) (hIz : RI G fz o a S P (filN leaN lo i) (filN greN hi i) ou rc isr wd us ab gi wr wo) (hfu : 7 - i < fuel) (hM : mM G A s.heap fz Hp lcs) (hl : lv_has ls 3 [(0, .ref o), (1, .int (nI i))]), W pgm l env ({ frames := 3, cells := 0, slots := 0, locals := 67 } : Room) s mt args below meth c Hp lcs 0 0 (MQ below (mQc G A (fun v f1 => v = none ∧ RI G f1 o a S P (rsAll S n cn lo hi ab).1 (rsAll S n cn lo hi ab).2.1 ou rc isr wd (rsAll S n cn lo hi ab).2.2.1 (rsAll S n cn lo hi ab).2.2.2.1 (rsAll S n cn lo hi ab).2.2.2.2 wr wo)) args s 0 0 A) (F0 mt 2 ls []) := by
    intro fuel
    induction fuel with
    | zero => intro i fz Hp lcs ls hiN hIz hfu; exact absurd hfu (Nat.not_lt_zero _)
    | succ fuel ih =>
      intro i fz Hp lcs ls hiN hIz hfu hM hl
      have hI := hIz
      refine lv_iload_n hx hb dX6_readSentence_2 rfl (lv_at hl 1 rfl) ?_
      refine lv_bipush (v := (nI 7)) hx hb dX6_readSentence_3 (by decide +kernel) ?_
      refine ln_icmp_ge i 7 (by omega) (by omega) (tgt := 34) hx hb dX6_readSentence_5 (by decide) (fun cz1 => ?_) (fun cz1 => ?_)
      · have hz7 : i = 7 := (by omega)
        subst hz7
        refine lv_aload_n hx hb dX6_readSentence_34 rfl (lv_at hl 0 rfl) ?_
        refine lv_iconst (v := (nI 0)) hx hb dX6_readSentence_35 (by decide +kernel) ?_
        refine mm_put (C := RX6) (T := TX6) (N := 14) (k := 8) hx hb hts (fun _ h => List.mem_cons_of_mem _ (List.mem_append_right _ h)) tyX6 tyX6_ok nmX6 hown hK hM (hI.obj) rfl (by decide) (hts (.fieldLink RX6 100 "SentenceRulesModel" "used" "I") (List.mem_of_getElem? (i := 3) rfl)) rfl rfl rfl rfl (Nat.le_of_ble_eq_true rfl) dX6_readSentence_36 (fun Hp lcs hM => ?_)
        have hI := hI.setObj rc isr wd (nI 0) ab gi wr wo
        refine lv_aload_n hx hb dX6_readSentence_39 rfl (lv_at hl 0 rfl) ?_
        refine lv_ldc (v := (-100005)) hx hb hown (hts (.constant RX6 28 (-100005)) (List.mem_of_getElem? (i := 4) rfl)) dX6_readSentence_40 ?_
        refine mm_put (C := RX6) (T := TX6) (N := 14) (k := 10) hx hb hts (fun _ h => List.mem_cons_of_mem _ (List.mem_append_right _ h)) tyX6 tyX6_ok nmX6 hown hK hM (hI.obj) rfl (by decide) (hts (.fieldLink RX6 119 "SentenceRulesModel" "gives" "I") (List.mem_of_getElem? (i := 5) rfl)) rfl rfl rfl rfl (Nat.le_of_ble_eq_true rfl) dX6_readSentence_42 (fun Hp lcs hM => ?_)
        have hI := hI.setObj rc isr wd (nI 0) ab (-100005) wr wo
        refine lv_iconst (v := (nI 0)) hx hb dX6_readSentence_45 (by decide +kernel) ?_
        refine lv_istore_n (lv' := [(1, .int (nI 0)), (0, .ref o)]) hx hb dX6_readSentence_46 rfl hl (by decide) rfl (fun ls hl => ?_)
        have loopZ : ∀ (fuelB : Nat) (k : Nat) (l1 h1 : Nat → Int32) (u1 a1 g1 : Int32) (fz : mE) (Hp : Heap) (lcs : List Loc) (ls : Array Slot) (hk27 : k ≤ 27) (hfin : ∀ m, cn - k < m → rsF S n cn m k l1 h1 u1 a1 g1 = (rsAll S n cn lo hi ab)) (hIz : RI G fz o a S P l1 h1 ou rc isr wd u1 a1 g1 wr wo) (hfuB : cn - k < fuelB) (hM : mM G A s.heap fz Hp lcs) (hl : lv_has ls 3 [(0, .ref o), (1, .int (nI k))]), W pgm l env ({ frames := 3, cells := 0, slots := 0, locals := 67 } : Room) s mt args below meth c Hp lcs 0 0 (MQ below (mQc G A (fun v f1 => v = none ∧ RI G f1 o a S P (rsAll S n cn lo hi ab).1 (rsAll S n cn lo hi ab).2.1 ou rc isr wd (rsAll S n cn lo hi ab).2.2.1 (rsAll S n cn lo hi ab).2.2.2.1 (rsAll S n cn lo hi ab).2.2.2.2 wr wo)) args s 0 0 A) (F0 mt 101 ls []) := by
          intro fuelB
          induction fuelB with
          | zero => intro k l1 h1 u1 a1 g1 fz Hp lcs ls hk27 hfin hIz hfuB; exact absurd hfuB (Nat.not_lt_zero _)
          | succ fuelB ihB =>
            intro k l1 h1 u1 a1 g1 fz Hp lcs ls hk27 hfin hIz hfuB hM hl
            have hI := hIz
            refine lv_iload_n hx hb dX6_readSentence_101 rfl (lv_at hl 1 rfl) ?_
            refine lv_aload_n hx hb dX6_readSentence_102 rfl (lv_at hl 0 rfl) ?_
            refine mm_get (C := RX6) (T := TX6) (N := 14) (k := 0) hx hb hts (fun _ h => List.mem_cons_of_mem _ (List.mem_append_right _ h)) hown hK hM (hI.obj) rfl (by decide) (hts (.fieldLink RX6 7 "SentenceRulesModel" "now" "[I") (List.mem_of_getElem? (i := 7) rfl)) rfl rfl dX6_readSentence_103 ?_
            refine lv_bipush (v := (nI 7)) hx hb dX6_readSentence_106 (by decide +kernel) ?_
            refine mn_iald hx hb hK hM (hI.now) 7 (by omega) (by decide) dX6_readSentence_108 ?_
            refine mv_top hc ?_
            refine ln_icmp_ge k cn (by omega) (by omega) (tgt := 255) hx hb dX6_readSentence_109 (by decide) (fun cz2 => ?_) (fun cz2 => ?_)
            · exact mm_vret hx hb hlocks hr (Nat.le_of_ble_eq_true rfl) (Nat.le_of_ble_eq_true rfl) hM ((by rw [← hfin (cn + 1) (by omega), rsF_end cz2]; exact ⟨rfl, hI⟩)) dX6_readSentence_255
            refine lv_aload_n hx hb dX6_readSentence_112 rfl (lv_at hl 0 rfl) ?_
            refine lv_iload_n hx hb dX6_readSentence_113 rfl (lv_at hl 1 rfl) ?_
            refine mm_V (As := [.int (nI k)]) (rest := []) ⟨hx, hb, hml, hown, hts⟩ (c6_valueAt l G hI k (by omega)) (cwV 1 hts gX6_readSentence_X6_valueAt rfl rfl rfl (by decide +kernel) ⟨Nat.le_of_ble_eq_true rfl, Nat.le_of_ble_eq_true rfl⟩) hK hE hA hM (mm_recv hK hM (hI.obj) (q := (RX6, TX6, 14)) rfl) rfl hl.1 rfl (Nat.le_of_ble_eq_true rfl) dX6_readSentence_114 ⟨Nat.le_of_ble_eq_true rfl, Nat.le_of_ble_eq_true rfl⟩ (fun v f1 Hp lcs hp hM => ?_)
            obtain ⟨rfl, hf⟩ := hp; subst hf
            refine lv_istore_n (lv' := [(2, .int (S (7 + 25 + k))), (0, .ref o), (1, .int (nI k))]) hx hb dX6_readSentence_117 rfl hl (by decide) rfl (fun ls hl => ?_)
            refine lv_iload_n hx hb dX6_readSentence_118 rfl (lv_at hl 0 rfl) ?_
            refine lv_bipush (v := (nI 16)) hx hb dX6_readSentence_119 (by decide +kernel) ?_
            refine lv_bipush (v := (nI 21)) hx hb dX6_readSentence_121 (by decide +kernel) ?_
            refine mm_S (As := [.int (S (7 + 25 + k)), .int (nI 16), .int (nI 21)]) (rest := []) ⟨hx, hb, hml, hown, hts⟩ (c6_in l G _ (S (7 + 25 + k)) (nI 16) (nI 21)) (va_cwS 3 hts gX6_readSentence_X6_in rfl rfl rfl (by decide +kernel) ⟨Nat.le_of_ble_eq_true rfl, Nat.le_of_ble_eq_true rfl⟩) hK hE hA hM rfl hl.1 rfl (Nat.le_of_ble_eq_true rfl) dX6_readSentence_123 ⟨Nat.le_of_ble_eq_true rfl, Nat.le_of_ble_eq_true rfl⟩ (fun v f1 Hp lcs hp hM => ?_)
            obtain ⟨rfl, hf⟩ := hp; subst hf
            refine mv_top (y := (bI (inB (S (7 + 25 + k)) 16 21))) rfl ?_
            refine lvb_eq (tgt := 143) hx hb dX6_readSentence_126 (by decide) (fun cz3 => ?_) (fun cz3 => ?_)
            · refine lv_iload_n hx hb dX6_readSentence_143 rfl (lv_at hl 0 rfl) ?_
              refine lv_bipush (v := (nI 10)) hx hb dX6_readSentence_144 (by decide +kernel) ?_
              refine lv_bipush (v := (nI 15)) hx hb dX6_readSentence_146 (by decide +kernel) ?_
              refine mm_S (As := [.int (S (7 + 25 + k)), .int (nI 10), .int (nI 15)]) (rest := []) ⟨hx, hb, hml, hown, hts⟩ (c6_in l G _ (S (7 + 25 + k)) (nI 10) (nI 15)) (va_cwS 3 hts gX6_readSentence_X6_in rfl rfl rfl (by decide +kernel) ⟨Nat.le_of_ble_eq_true rfl, Nat.le_of_ble_eq_true rfl⟩) hK hE hA hM rfl hl.1 rfl (Nat.le_of_ble_eq_true rfl) dX6_readSentence_148 ⟨Nat.le_of_ble_eq_true rfl, Nat.le_of_ble_eq_true rfl⟩ (fun v f1 Hp lcs hp hM => ?_)
              obtain ⟨rfl, hf⟩ := hp; subst hf
              refine mv_top (y := (bI (inB (S (7 + 25 + k)) 10 15))) rfl ?_
              refine lvb_eq (tgt := 163) hx hb dX6_readSentence_151 (by decide) (fun cz4 => ?_) (fun cz4 => ?_)
              · refine lv_iload_n hx hb dX6_readSentence_163 rfl (lv_at hl 0 rfl) ?_
                refine lv_bipush (v := (nI 22)) hx hb dX6_readSentence_164 (by decide +kernel) ?_
                refine lv_bipush (v := (nI 25)) hx hb dX6_readSentence_166 (by decide +kernel) ?_
                refine mm_S (As := [.int (S (7 + 25 + k)), .int (nI 22), .int (nI 25)]) (rest := []) ⟨hx, hb, hml, hown, hts⟩ (c6_in l G _ (S (7 + 25 + k)) (nI 22) (nI 25)) (va_cwS 3 hts gX6_readSentence_X6_in rfl rfl rfl (by decide +kernel) ⟨Nat.le_of_ble_eq_true rfl, Nat.le_of_ble_eq_true rfl⟩) hK hE hA hM rfl hl.1 rfl (Nat.le_of_ble_eq_true rfl) dX6_readSentence_168 ⟨Nat.le_of_ble_eq_true rfl, Nat.le_of_ble_eq_true rfl⟩ (fun v f1 Hp lcs hp hM => ?_)
                obtain ⟨rfl, hf⟩ := hp; subst hf
                refine mv_top (y := (bI (inB (S (7 + 25 + k)) 22 25))) rfl ?_
                refine lvb_eq (tgt := 199) hx hb dX6_readSentence_171 (by decide) (fun cz5 => ?_) (fun cz5 => ?_)
                · refine lv_iload_n hx hb dX6_readSentence_199 rfl (lv_at hl 0 rfl) ?_
                  refine lv_bipush (v := (nI 8)) hx hb dX6_readSentence_200 (by decide +kernel) ?_
                  refine lv_icmp_ne (tgt := 224) hx hb dX6_readSentence_202 (by decide) (fun cz6 => ?_) (fun cz6 => ?_)
                  · refine lv_iload_n hx hb dX6_readSentence_224 rfl (lv_at hl 0 rfl) ?_
                    refine lv_bipush (v := (nI 9)) hx hb dX6_readSentence_225 (by decide +kernel) ?_
                    refine lv_icmp_ne (tgt := 249) hx hb dX6_readSentence_227 (by decide) (fun cz7 => ?_) (fun cz7 => ?_)
                    · refine lv_iinc (v := (nI (k + 1))) (lv' := [(1, .int (nI (k + 1))), (2, .int (S (7 + 25 + k))), (0, .ref o)]) hx hb dX6_readSentence_249 hl (k := 2) rfl (nI_add _ _) (by decide) rfl (fun ls hl => ?_)
                      refine lv_goto (tgt := 101) hx hb dX6_readSentence_252 (by decide) ?_
                      exact ihB _ _ _ _ _ _ _ _ _ ls (by omega) (rsF_next cz2 (by omega) hfin (by rw [rsK, if_neg (by rw [cz3]; decide), if_neg (by rw [cz4]; decide), if_neg (by rw [cz5]; decide), if_neg cz6, if_neg cz7]) (by rw [rsLo, if_neg (by rw [cz3]; decide), if_neg (by rw [cz4]; decide), if_neg (by rw [cz5]; decide), if_neg cz6, if_neg cz7]) (by rw [rsHi, if_neg (by rw [cz3]; decide), if_neg (by rw [cz4]; decide), if_neg (by rw [cz5]; decide), if_neg cz6, if_neg cz7]) (by rw [rsU, if_neg (by rw [cz3]; decide), if_neg (by rw [cz4]; decide), if_neg (by rw [cz5]; decide), if_neg cz6, if_neg cz7]) (by rw [rsA, if_neg (by rw [cz3]; decide), if_neg (by rw [cz4]; decide), if_neg (by rw [cz5]; decide), if_neg cz6, if_neg cz7]) (by rw [rsG, if_neg (by rw [cz3]; decide), if_neg (by rw [cz4]; decide), if_neg (by rw [cz5]; decide), if_neg cz6, if_neg cz7])) hI (by omega) hM (lv_sub hl [2, 0] rfl)
                    refine lv_aload_n hx hb dX6_readSentence_230 rfl (lv_at hl 1 rfl) ?_
                    refine lv_bipush (v := (nI 6)) hx hb dX6_readSentence_231 (by decide +kernel) ?_
                    refine lv_aload_n hx hb dX6_readSentence_233 rfl (lv_at hl 1 rfl) ?_
                    refine lv_iload_n hx hb dX6_readSentence_234 rfl (lv_at hl 2 rfl) ?_
                    refine lv_iconst (v := (nI 1)) hx hb dX6_readSentence_235 (by decide +kernel) ?_
                    refine ln_iadd k 1 hx hb dX6_readSentence_236 ?_
                    refine mm_V (As := [.int (nI (k + 1))]) (rest := [.int (nI 6), .ref o]) ⟨hx, hb, hml, hown, hts⟩ (c6_valueAt l G hI (k + 1) (by omega)) (cwV 1 hts gX6_readSentence_X6_valueAt rfl rfl rfl (by decide +kernel) ⟨Nat.le_of_ble_eq_true rfl, Nat.le_of_ble_eq_true rfl⟩) hK hE hA hM (mm_recv hK hM (hI.obj) (q := (RX6, TX6, 14)) rfl) rfl hl.1 rfl (Nat.le_of_ble_eq_true rfl) dX6_readSentence_237 ⟨Nat.le_of_ble_eq_true rfl, Nat.le_of_ble_eq_true rfl⟩ (fun v f1 Hp lcs hp hM => ?_)
                    obtain ⟨rfl, hf⟩ := hp; subst hf
                    refine mm_V (As := [.int (nI 6), .int (S (7 + 25 + (k + 1)))]) (rest := []) ⟨hx, hb, hml, hown, hts⟩ (c6_atMost l G hI 6 (by omega) (S (7 + 25 + (k + 1)))) (cwV 2 hts gX6_readSentence_X6_atMost rfl rfl rfl (by decide +kernel) ⟨Nat.le_of_ble_eq_true rfl, Nat.le_of_ble_eq_true rfl⟩) hK hE hA hM (mm_recv hK hM (hI.obj) (q := (RX6, TX6, 14)) rfl) rfl hl.1 rfl (Nat.le_of_ble_eq_true rfl) dX6_readSentence_240 ⟨Nat.le_of_ble_eq_true rfl, Nat.le_of_ble_eq_true rfl⟩ (fun v gz8 Hp lcs hp hM => ?_)
                    obtain ⟨rfl, hI⟩ := hp
                    refine lv_iinc (v := (nI (k + 2))) (lv' := [(1, .int (nI (k + 2))), (2, .int (S (7 + 25 + k))), (0, .ref o)]) hx hb dX6_readSentence_243 hl (k := 2) rfl (nI_add _ _) (by decide) rfl (fun ls hl => ?_)
                    refine lv_goto (tgt := 252) hx hb dX6_readSentence_246 (by decide) ?_
                    refine lv_goto (tgt := 101) hx hb dX6_readSentence_252 (by decide) ?_
                    exact ihB _ _ _ _ _ _ _ _ _ ls (by omega) (rsF_next cz2 (by omega) hfin (by rw [rsK, if_neg (by rw [cz3]; decide), if_neg (by rw [cz4]; decide), if_neg (by rw [cz5]; decide), if_neg cz6, if_pos cz7]) (by rw [rsLo, if_neg (by rw [cz3]; decide), if_neg (by rw [cz4]; decide), if_neg (by rw [cz5]; decide), if_neg cz6, if_pos cz7]) (by rw [rsHi, if_neg (by rw [cz3]; decide), if_neg (by rw [cz4]; decide), if_neg (by rw [cz5]; decide), if_neg cz6, if_pos cz7]) (by rw [rsU, if_neg (by rw [cz3]; decide), if_neg (by rw [cz4]; decide), if_neg (by rw [cz5]; decide), if_neg cz6, if_pos cz7]) (by rw [rsA, if_neg (by rw [cz3]; decide), if_neg (by rw [cz4]; decide), if_neg (by rw [cz5]; decide), if_neg cz6, if_pos cz7]) (by rw [rsG, if_neg (by rw [cz3]; decide), if_neg (by rw [cz4]; decide), if_neg (by rw [cz5]; decide), if_neg cz6, if_pos cz7])) hI (by omega) hM (lv_sub hl [2, 0] rfl)
                  refine lv_aload_n hx hb dX6_readSentence_205 rfl (lv_at hl 1 rfl) ?_
                  refine lv_bipush (v := (nI 6)) hx hb dX6_readSentence_206 (by decide +kernel) ?_
                  refine lv_aload_n hx hb dX6_readSentence_208 rfl (lv_at hl 1 rfl) ?_
                  refine lv_iload_n hx hb dX6_readSentence_209 rfl (lv_at hl 2 rfl) ?_
                  refine lv_iconst (v := (nI 1)) hx hb dX6_readSentence_210 (by decide +kernel) ?_
                  refine ln_iadd k 1 hx hb dX6_readSentence_211 ?_
                  refine mm_V (As := [.int (nI (k + 1))]) (rest := [.int (nI 6), .ref o]) ⟨hx, hb, hml, hown, hts⟩ (c6_valueAt l G hI (k + 1) (by omega)) (cwV 1 hts gX6_readSentence_X6_valueAt rfl rfl rfl (by decide +kernel) ⟨Nat.le_of_ble_eq_true rfl, Nat.le_of_ble_eq_true rfl⟩) hK hE hA hM (mm_recv hK hM (hI.obj) (q := (RX6, TX6, 14)) rfl) rfl hl.1 rfl (Nat.le_of_ble_eq_true rfl) dX6_readSentence_212 ⟨Nat.le_of_ble_eq_true rfl, Nat.le_of_ble_eq_true rfl⟩ (fun v f1 Hp lcs hp hM => ?_)
                  obtain ⟨rfl, hf⟩ := hp; subst hf
                  refine mm_V (As := [.int (nI 6), .int (S (7 + 25 + (k + 1)))]) (rest := []) ⟨hx, hb, hml, hown, hts⟩ (c6_atLeast l G hI 6 (by omega) (S (7 + 25 + (k + 1)))) (cwV 2 hts gX6_readSentence_X6_atLeast rfl rfl rfl (by decide +kernel) ⟨Nat.le_of_ble_eq_true rfl, Nat.le_of_ble_eq_true rfl⟩) hK hE hA hM (mm_recv hK hM (hI.obj) (q := (RX6, TX6, 14)) rfl) rfl hl.1 rfl (Nat.le_of_ble_eq_true rfl) dX6_readSentence_215 ⟨Nat.le_of_ble_eq_true rfl, Nat.le_of_ble_eq_true rfl⟩ (fun v gz9 Hp lcs hp hM => ?_)
                  obtain ⟨rfl, hI⟩ := hp
                  refine lv_iinc (v := (nI (k + 2))) (lv' := [(1, .int (nI (k + 2))), (2, .int (S (7 + 25 + k))), (0, .ref o)]) hx hb dX6_readSentence_218 hl (k := 2) rfl (nI_add _ _) (by decide) rfl (fun ls hl => ?_)
                  refine lv_goto (tgt := 252) hx hb dX6_readSentence_221 (by decide) ?_
                  refine lv_goto (tgt := 101) hx hb dX6_readSentence_252 (by decide) ?_
                  exact ihB _ _ _ _ _ _ _ _ _ ls (by omega) (rsF_next cz2 (by omega) hfin (by rw [rsK, if_neg (by rw [cz3]; decide), if_neg (by rw [cz4]; decide), if_neg (by rw [cz5]; decide), if_pos cz6]) (by rw [rsLo, if_neg (by rw [cz3]; decide), if_neg (by rw [cz4]; decide), if_neg (by rw [cz5]; decide), if_pos cz6]) (by rw [rsHi, if_neg (by rw [cz3]; decide), if_neg (by rw [cz4]; decide), if_neg (by rw [cz5]; decide), if_pos cz6]) (by rw [rsU, if_neg (by rw [cz3]; decide), if_neg (by rw [cz4]; decide), if_neg (by rw [cz5]; decide), if_pos cz6]) (by rw [rsA, if_neg (by rw [cz3]; decide), if_neg (by rw [cz4]; decide), if_neg (by rw [cz5]; decide), if_pos cz6]) (by rw [rsG, if_neg (by rw [cz3]; decide), if_neg (by rw [cz4]; decide), if_neg (by rw [cz5]; decide), if_pos cz6])) hI (by omega) hM (lv_sub hl [2, 0] rfl)
                refine lv_aload_n hx hb dX6_readSentence_174 rfl (lv_at hl 1 rfl) ?_
                refine lv_iload_n hx hb dX6_readSentence_175 rfl (lv_at hl 0 rfl) ?_
                refine lv_bipush (v := (nI 22)) hx hb dX6_readSentence_176 (by decide +kernel) ?_
                refine lv_isub hx hb dX6_readSentence_178 ?_
                refine mm_put (C := RX6) (T := TX6) (N := 14) (k := 9) hx hb hts (fun _ h => List.mem_cons_of_mem _ (List.mem_append_right _ h)) tyX6 tyX6_ok nmX6 hown hK hM (hI.obj) rfl (by decide) (hts (.fieldLink RX6 122 "SentenceRulesModel" "about" "I") (List.mem_of_getElem? (i := 6) rfl)) rfl rfl rfl rfl (Nat.le_of_ble_eq_true rfl) dX6_readSentence_179 (fun Hp lcs hM => ?_)
                have hI := hI.setObj rc isr wd u1 ((S (7 + 25 + k)) - (nI 22)) g1 wr wo
                refine lv_aload_n hx hb dX6_readSentence_182 rfl (lv_at hl 1 rfl) ?_
                refine lv_aload_n hx hb dX6_readSentence_183 rfl (lv_at hl 1 rfl) ?_
                refine lv_iload_n hx hb dX6_readSentence_184 rfl (lv_at hl 2 rfl) ?_
                refine lv_iconst (v := (nI 2)) hx hb dX6_readSentence_185 (by decide +kernel) ?_
                refine ln_iadd k 2 hx hb dX6_readSentence_186 ?_
                refine mm_V (As := [.int (nI (k + 2))]) (rest := [.ref o]) ⟨hx, hb, hml, hown, hts⟩ (c6_valueAt l G hI (k + 2) (by omega)) (cwV 1 hts gX6_readSentence_X6_valueAt rfl rfl rfl (by decide +kernel) ⟨Nat.le_of_ble_eq_true rfl, Nat.le_of_ble_eq_true rfl⟩) hK hE hA hM (mm_recv hK hM (hI.obj) (q := (RX6, TX6, 14)) rfl) rfl hl.1 rfl (Nat.le_of_ble_eq_true rfl) dX6_readSentence_187 ⟨Nat.le_of_ble_eq_true rfl, Nat.le_of_ble_eq_true rfl⟩ (fun v f1 Hp lcs hp hM => ?_)
                obtain ⟨rfl, hf⟩ := hp; subst hf
                refine mm_put (C := RX6) (T := TX6) (N := 14) (k := 10) hx hb hts (fun _ h => List.mem_cons_of_mem _ (List.mem_append_right _ h)) tyX6 tyX6_ok nmX6 hown hK hM (hI.obj) rfl (by decide) (hts (.fieldLink RX6 119 "SentenceRulesModel" "gives" "I") (List.mem_of_getElem? (i := 5) rfl)) rfl rfl rfl rfl (Nat.le_of_ble_eq_true rfl) dX6_readSentence_190 (fun Hp lcs hM => ?_)
                have hI := hI.setObj rc isr wd u1 ((S (7 + 25 + k)) - (nI 22)) (S (7 + 25 + (k + 2))) wr wo
                refine lv_iinc (v := (nI (k + 3))) (lv' := [(1, .int (nI (k + 3))), (2, .int (S (7 + 25 + k))), (0, .ref o)]) hx hb dX6_readSentence_193 hl (k := 2) rfl (nI_add _ _) (by decide) rfl (fun ls hl => ?_)
                refine lv_goto (tgt := 252) hx hb dX6_readSentence_196 (by decide) ?_
                refine lv_goto (tgt := 101) hx hb dX6_readSentence_252 (by decide) ?_
                exact ihB _ _ _ _ _ _ _ _ _ ls (by omega) (rsF_next cz2 (by omega) hfin (by rw [rsK, if_neg (by rw [cz3]; decide), if_neg (by rw [cz4]; decide), if_pos cz5]) (by rw [rsLo, if_neg (by rw [cz3]; decide), if_neg (by rw [cz4]; decide), if_pos cz5]) (by rw [rsHi, if_neg (by rw [cz3]; decide), if_neg (by rw [cz4]; decide), if_pos cz5]) (by rw [rsU, if_neg (by rw [cz3]; decide), if_neg (by rw [cz4]; decide), if_pos cz5]) (by rw [rsA, if_neg (by rw [cz3]; decide), if_neg (by rw [cz4]; decide), if_pos cz5]) (by rw [rsG, if_neg (by rw [cz3]; decide), if_neg (by rw [cz4]; decide), if_pos cz5])) hI (by omega) hM (lv_sub hl [2, 0] rfl)
              obtain ⟨tz, htz, hvz⟩ := fact_nat cz4
              refine lv_aload_n hx hb dX6_readSentence_154 rfl (lv_at hl 1 rfl) ?_
              refine lv_iload_n hx hb dX6_readSentence_155 rfl (lv_at hl 2 rfl) ?_
              refine mm_V (As := [.int (nI k)]) (rest := []) ⟨hx, hb, hml, hown, hts⟩ (c6_narrowFact l G hI k tz (by omega) htz hvz) (cwV 1 hts gX6_readSentence_X6_narrowFact rfl rfl rfl (by decide +kernel) ⟨Nat.le_of_ble_eq_true rfl, Nat.le_of_ble_eq_true rfl⟩) hK hE hA hM (mm_recv hK hM (hI.obj) (q := (RX6, TX6, 14)) rfl) rfl hl.1 rfl (Nat.le_of_ble_eq_true rfl) dX6_readSentence_156 ⟨Nat.le_of_ble_eq_true rfl, Nat.le_of_ble_eq_true rfl⟩ (fun v gz10 Hp lcs hp hM => ?_)
              obtain ⟨rfl, hI⟩ := hp
              refine lv_istore_n (lv' := [(1, .int (nI (nfK S k + 2))), (2, .int (S (7 + 25 + k))), (0, .ref o)]) hx hb dX6_readSentence_159 rfl hl (by decide) rfl (fun ls hl => ?_)
              refine lv_goto (tgt := 252) hx hb dX6_readSentence_160 (by decide) ?_
              refine lv_goto (tgt := 101) hx hb dX6_readSentence_252 (by decide) ?_
              exact ihB _ _ _ _ _ _ _ _ _ ls (by have hz9 := nfK_le S k; omega) (rsF_next cz2 (by have hz9 := nfK_ge S k; omega) hfin (by rw [rsK, if_neg (by rw [cz3]; decide), if_pos cz4]) (by rw [rsLo, if_neg (by rw [cz3]; decide), if_pos cz4, hvz, nI_clamp (by omega), Nat.add_sub_cancel_left]) (by rw [rsHi, if_neg (by rw [cz3]; decide), if_pos cz4, hvz, nI_clamp (by omega), Nat.add_sub_cancel_left]) (by rw [rsU, if_neg (by rw [cz3]; decide), if_pos cz4]) (by rw [rsA, if_neg (by rw [cz3]; decide), if_pos cz4]) (by rw [rsG, if_neg (by rw [cz3]; decide), if_pos cz4])) hI (by have hz9 := nfK_ge S k; omega) hM (lv_sub hl [2, 0] rfl)
            refine lv_aload_n hx hb dX6_readSentence_129 rfl (lv_at hl 1 rfl) ?_
            refine lv_iload_n hx hb dX6_readSentence_130 rfl (lv_at hl 0 rfl) ?_
            refine lv_bipush (v := (nI 16)) hx hb dX6_readSentence_131 (by decide +kernel) ?_
            refine lv_isub hx hb dX6_readSentence_133 ?_
            refine mm_V (As := [.int ((S (7 + 25 + k)) - (nI 16))]) (rest := []) ⟨hx, hb, hml, hown, hts⟩ (c6_narrow l G hI hn hn16 ((S (7 + 25 + k)) - (nI 16))) (cwV 1 hts gX6_readSentence_X6_narrow rfl rfl rfl (by decide +kernel) ⟨Nat.le_of_ble_eq_true rfl, Nat.le_of_ble_eq_true rfl⟩) hK hE hA hM (mm_recv hK hM (hI.obj) (q := (RX6, TX6, 14)) rfl) rfl hl.1 rfl (Nat.le_of_ble_eq_true rfl) dX6_readSentence_134 ⟨Nat.le_of_ble_eq_true rfl, Nat.le_of_ble_eq_true rfl⟩ (fun v gz11 Hp lcs hp hM => ?_)
            obtain ⟨rfl, hI⟩ := hp
            refine lv_iinc (v := (nI (k + 1))) (lv' := [(1, .int (nI (k + 1))), (2, .int (S (7 + 25 + k))), (0, .ref o)]) hx hb dX6_readSentence_137 hl (k := 2) rfl (nI_add _ _) (by decide) rfl (fun ls hl => ?_)
            refine lv_goto (tgt := 252) hx hb dX6_readSentence_140 (by decide) ?_
            refine lv_goto (tgt := 101) hx hb dX6_readSentence_252 (by decide) ?_
            exact ihB _ _ _ _ _ _ _ _ _ ls (by omega) (rsF_next cz2 (by omega) hfin (by rw [rsK, if_pos cz3]) (by rw [rsLo, if_pos cz3]) (by rw [rsHi, if_pos cz3]) (by rw [rsU, if_pos cz3]) (by rw [rsA, if_pos cz3]) (by rw [rsG, if_pos cz3])) hI (by omega) hM (lv_sub hl [2, 0] rfl)
        refine lv_aload_n hx hb dX6_readSentence_47 rfl (lv_at hl 1 rfl) ?_
        refine lv_iconst (v := (nI 0)) hx hb dX6_readSentence_48 (by decide +kernel) ?_
        refine mm_V (As := [.int (nI 0)]) (rest := []) ⟨hx, hb, hml, hown, hts⟩ (c6_valueAt l G hI 0 (by omega)) (cwV 1 hts gX6_readSentence_X6_valueAt rfl rfl rfl (by decide +kernel) ⟨Nat.le_of_ble_eq_true rfl, Nat.le_of_ble_eq_true rfl⟩) hK hE hA hM (mm_recv hK hM (hI.obj) (q := (RX6, TX6, 14)) rfl) rfl hl.1 rfl (Nat.le_of_ble_eq_true rfl) dX6_readSentence_49 ⟨Nat.le_of_ble_eq_true rfl, Nat.le_of_ble_eq_true rfl⟩ (fun v f1 Hp lcs hp hM => ?_)
        obtain ⟨rfl, hf⟩ := hp; subst hf
        refine lv_bipush (v := (nI 16)) hx hb dX6_readSentence_52 (by decide +kernel) ?_
        refine lv_bipush (v := (nI 21)) hx hb dX6_readSentence_54 (by decide +kernel) ?_
        refine mm_S (As := [.int (S (7 + 25 + 0)), .int (nI 16), .int (nI 21)]) (rest := []) ⟨hx, hb, hml, hown, hts⟩ (c6_in l G _ (S (7 + 25 + 0)) (nI 16) (nI 21)) (va_cwS 3 hts gX6_readSentence_X6_in rfl rfl rfl (by decide +kernel) ⟨Nat.le_of_ble_eq_true rfl, Nat.le_of_ble_eq_true rfl⟩) hK hE hA hM rfl hl.1 rfl (Nat.le_of_ble_eq_true rfl) dX6_readSentence_56 ⟨Nat.le_of_ble_eq_true rfl, Nat.le_of_ble_eq_true rfl⟩ (fun v f1 Hp lcs hp hM => ?_)
        obtain ⟨rfl, hf⟩ := hp; subst hf
        refine mv_top (y := (bI (inB (S (7 + 25 + 0)) 16 21))) rfl ?_
        refine lvb_eq (tgt := 87) hx hb dX6_readSentence_59 (by decide) (fun cz12 => ?_) (fun cz12 => ?_)
        · refine lv_aload_n hx hb dX6_readSentence_87 rfl (lv_at hl 1 rfl) ?_
          refine lv_iconst (v := (nI 0)) hx hb dX6_readSentence_88 (by decide +kernel) ?_
          refine mm_V (As := [.int (nI 0)]) (rest := []) ⟨hx, hb, hml, hown, hts⟩ (c6_valueAt l G hI 0 (by omega)) (cwV 1 hts gX6_readSentence_X6_valueAt rfl rfl rfl (by decide +kernel) ⟨Nat.le_of_ble_eq_true rfl, Nat.le_of_ble_eq_true rfl⟩) hK hE hA hM (mm_recv hK hM (hI.obj) (q := (RX6, TX6, 14)) rfl) rfl hl.1 rfl (Nat.le_of_ble_eq_true rfl) dX6_readSentence_89 ⟨Nat.le_of_ble_eq_true rfl, Nat.le_of_ble_eq_true rfl⟩ (fun v f1 Hp lcs hp hM => ?_)
          obtain ⟨rfl, hf⟩ := hp; subst hf
          refine lv_if_ne (tgt := 99) hx hb dX6_readSentence_92 (by decide) (fun cz13 => ?_) (fun cz13 => ?_)
          · refine lv_iconst (v := (nI 0)) hx hb dX6_readSentence_99 (by decide +kernel) ?_
            refine lv_istore_n (lv' := [(1, .int (nI 0)), (0, .ref o)]) hx hb dX6_readSentence_100 rfl hl (by decide) rfl (fun ls hl => ?_)
            exact loopZ (cn + 1) _ _ _ _ _ _ _ _ _ ls (by omega) (fun m hm => by rw [rsAll, rs0K_3 (fun q => by rw [cz12] at q; exact absurd q.1 (by decide)) cz13, rs0A_2 (fun q => by rw [cz12] at q; exact absurd q.1 (by decide))]; exact rsF_st hm (by omega)) hI (by omega) hM (lv_sub hl [1, 0] rfl)
          refine lv_iconst (v := (nI 1)) hx hb dX6_readSentence_95 (by decide +kernel) ?_
          refine lv_goto (tgt := 100) hx hb dX6_readSentence_96 (by decide) ?_
          refine lv_istore_n (lv' := [(1, .int (nI 1)), (0, .ref o)]) hx hb dX6_readSentence_100 rfl hl (by decide) rfl (fun ls hl => ?_)
          exact loopZ (cn + 1) _ _ _ _ _ _ _ _ _ ls (by omega) (fun m hm => by rw [rsAll, rs0K_2 (fun q => by rw [cz12] at q; exact absurd q.1 (by decide)) cz13, rs0A_2 (fun q => by rw [cz12] at q; exact absurd q.1 (by decide))]; exact rsF_st hm (by omega)) hI (by omega) hM (lv_sub hl [1, 0] rfl)
        refine lv_aload_n hx hb dX6_readSentence_62 rfl (lv_at hl 1 rfl) ?_
        refine lv_iconst (v := (nI 0)) hx hb dX6_readSentence_63 (by decide +kernel) ?_
        refine mm_V (As := [.int (nI 0)]) (rest := []) ⟨hx, hb, hml, hown, hts⟩ (c6_kindAt l G hI 0 (by omega)) (cwV 1 hts gX6_readSentence_X6_kindAt rfl rfl rfl (by decide +kernel) ⟨Nat.le_of_ble_eq_true rfl, Nat.le_of_ble_eq_true rfl⟩) hK hE hA hM (mm_recv hK hM (hI.obj) (q := (RX6, TX6, 14)) rfl) rfl hl.1 rfl (Nat.le_of_ble_eq_true rfl) dX6_readSentence_64 ⟨Nat.le_of_ble_eq_true rfl, Nat.le_of_ble_eq_true rfl⟩ (fun v f1 Hp lcs hp hM => ?_)
        obtain ⟨rfl, hf⟩ := hp; subst hf
        refine lv_if_ne (tgt := 87) hx hb dX6_readSentence_67 (by decide) (fun cz14 => ?_) (fun cz14 => ?_)
        · refine lv_aload_n hx hb dX6_readSentence_87 rfl (lv_at hl 1 rfl) ?_
          refine lv_iconst (v := (nI 0)) hx hb dX6_readSentence_88 (by decide +kernel) ?_
          refine mm_V (As := [.int (nI 0)]) (rest := []) ⟨hx, hb, hml, hown, hts⟩ (c6_valueAt l G hI 0 (by omega)) (cwV 1 hts gX6_readSentence_X6_valueAt rfl rfl rfl (by decide +kernel) ⟨Nat.le_of_ble_eq_true rfl, Nat.le_of_ble_eq_true rfl⟩) hK hE hA hM (mm_recv hK hM (hI.obj) (q := (RX6, TX6, 14)) rfl) rfl hl.1 rfl (Nat.le_of_ble_eq_true rfl) dX6_readSentence_89 ⟨Nat.le_of_ble_eq_true rfl, Nat.le_of_ble_eq_true rfl⟩ (fun v f1 Hp lcs hp hM => ?_)
          obtain ⟨rfl, hf⟩ := hp; subst hf
          refine lv_if_ne (tgt := 99) hx hb dX6_readSentence_92 (by decide) (fun cz15 => ?_) (fun cz15 => ?_)
          · refine lv_iconst (v := (nI 0)) hx hb dX6_readSentence_99 (by decide +kernel) ?_
            refine lv_istore_n (lv' := [(1, .int (nI 0)), (0, .ref o)]) hx hb dX6_readSentence_100 rfl hl (by decide) rfl (fun ls hl => ?_)
            exact loopZ (cn + 1) _ _ _ _ _ _ _ _ _ ls (by omega) (fun m hm => by rw [rsAll, rs0K_3 (fun q => cz14 q.2) cz15, rs0A_2 (fun q => cz14 q.2)]; exact rsF_st hm (by omega)) hI (by omega) hM (lv_sub hl [1, 0] rfl)
          refine lv_iconst (v := (nI 1)) hx hb dX6_readSentence_95 (by decide +kernel) ?_
          refine lv_goto (tgt := 100) hx hb dX6_readSentence_96 (by decide) ?_
          refine lv_istore_n (lv' := [(1, .int (nI 1)), (0, .ref o)]) hx hb dX6_readSentence_100 rfl hl (by decide) rfl (fun ls hl => ?_)
          exact loopZ (cn + 1) _ _ _ _ _ _ _ _ _ ls (by omega) (fun m hm => by rw [rsAll, rs0K_2 (fun q => cz14 q.2) cz15, rs0A_2 (fun q => cz14 q.2)]; exact rsF_st hm (by omega)) hI (by omega) hM (lv_sub hl [1, 0] rfl)
        refine lv_aload_n hx hb dX6_readSentence_70 rfl (lv_at hl 1 rfl) ?_
        refine lv_aload_n hx hb dX6_readSentence_71 rfl (lv_at hl 1 rfl) ?_
        refine lv_iconst (v := (nI 0)) hx hb dX6_readSentence_72 (by decide +kernel) ?_
        refine mm_V (As := [.int (nI 0)]) (rest := [.ref o]) ⟨hx, hb, hml, hown, hts⟩ (c6_valueAt l G hI 0 (by omega)) (cwV 1 hts gX6_readSentence_X6_valueAt rfl rfl rfl (by decide +kernel) ⟨Nat.le_of_ble_eq_true rfl, Nat.le_of_ble_eq_true rfl⟩) hK hE hA hM (mm_recv hK hM (hI.obj) (q := (RX6, TX6, 14)) rfl) rfl hl.1 rfl (Nat.le_of_ble_eq_true rfl) dX6_readSentence_73 ⟨Nat.le_of_ble_eq_true rfl, Nat.le_of_ble_eq_true rfl⟩ (fun v f1 Hp lcs hp hM => ?_)
        obtain ⟨rfl, hf⟩ := hp; subst hf
        refine lv_bipush (v := (nI 6)) hx hb dX6_readSentence_76 (by decide +kernel) ?_
        refine lv_isub hx hb dX6_readSentence_78 ?_
        refine mm_put (C := RX6) (T := TX6) (N := 14) (k := 9) hx hb hts (fun _ h => List.mem_cons_of_mem _ (List.mem_append_right _ h)) tyX6 tyX6_ok nmX6 hown hK hM (hI.obj) rfl (by decide) (hts (.fieldLink RX6 122 "SentenceRulesModel" "about" "I") (List.mem_of_getElem? (i := 6) rfl)) rfl rfl rfl rfl (Nat.le_of_ble_eq_true rfl) dX6_readSentence_79 (fun Hp lcs hM => ?_)
        have hI := hI.setObj rc isr wd (nI 0) ((S (7 + 25 + 0)) - (nI 6)) (-100005) wr wo
        refine lv_iconst (v := (nI 2)) hx hb dX6_readSentence_82 (by decide +kernel) ?_
        refine lv_istore_n (lv' := [(1, .int (nI 2)), (0, .ref o)]) hx hb dX6_readSentence_83 rfl hl (by decide) rfl (fun ls hl => ?_)
        refine lv_goto (tgt := 101) hx hb dX6_readSentence_84 (by decide) ?_
        exact loopZ (cn + 1) _ _ _ _ _ _ _ _ _ ls (by omega) (fun m hm => by rw [rsAll, rs0K_1 cz12 cz14, rs0A_1 cz12 cz14]; exact rsF_st hm (by omega)) hI (by omega) hM (lv_sub hl [1, 0] rfl)
      refine lv_aload_n hx hb dX6_readSentence_8 rfl (lv_at hl 0 rfl) ?_
      refine mm_get (C := RX6) (T := TX6) (N := 14) (k := 6) hx hb hts (fun _ h => List.mem_cons_of_mem _ (List.mem_append_right _ h)) hown hK hM (hI.obj) rfl (by decide) (hts (.fieldLink RX6 19 "SentenceRulesModel" "low" "[I") (List.mem_of_getElem? (i := 1) rfl)) rfl rfl dX6_readSentence_9 ?_
      refine lv_iload_n hx hb dX6_readSentence_12 rfl (lv_at hl 1 rfl) ?_
      refine lv_iload_n hx hb dX6_readSentence_13 rfl (lv_at hl 1 rfl) ?_
      refine mm_S (As := [.int (nI i)]) (rest := [.int (nI i), .ref (a 3)]) ⟨hx, hb, hml, hown, hts⟩ (c6_leastOf l G _ (nI i)) (va_cwS 1 hts gX6_readSentence_X6_leastOf rfl rfl rfl (by decide +kernel) ⟨Nat.le_of_ble_eq_true rfl, Nat.le_of_ble_eq_true rfl⟩) hK hE hA hM rfl hl.1 rfl (Nat.le_of_ble_eq_true rfl) dX6_readSentence_14 ⟨Nat.le_of_ble_eq_true rfl, Nat.le_of_ble_eq_true rfl⟩ (fun v f1 Hp lcs hp hM => ?_)
      obtain ⟨rfl, hf⟩ := hp; subst hf
      refine mn_iast hx hb hK hM (hI.low) i (by omega) (by decide) dX6_readSentence_17 (fun Hp lcs hM => ?_)
      have hI := hI.setLow (upd (filN leaN lo i) i (leastF (nI i)))
      refine lv_aload_n hx hb dX6_readSentence_18 rfl (lv_at hl 0 rfl) ?_
      refine mm_get (C := RX6) (T := TX6) (N := 14) (k := 7) hx hb hts (fun _ h => List.mem_cons_of_mem _ (List.mem_append_right _ h)) hown hK hM (hI.obj) rfl (by decide) (hts (.fieldLink RX6 22 "SentenceRulesModel" "high" "[I") (List.mem_of_getElem? (i := 2) rfl)) rfl rfl dX6_readSentence_19 ?_
      refine lv_iload_n hx hb dX6_readSentence_22 rfl (lv_at hl 1 rfl) ?_
      refine lv_iload_n hx hb dX6_readSentence_23 rfl (lv_at hl 1 rfl) ?_
      refine mm_S (As := [.int (nI i)]) (rest := [.int (nI i), .ref (a 4)]) ⟨hx, hb, hml, hown, hts⟩ (c6_greatestOf l G _ (nI i)) (va_cwS 1 hts gX6_readSentence_X6_greatestOf rfl rfl rfl (by decide +kernel) ⟨Nat.le_of_ble_eq_true rfl, Nat.le_of_ble_eq_true rfl⟩) hK hE hA hM rfl hl.1 rfl (Nat.le_of_ble_eq_true rfl) dX6_readSentence_24 ⟨Nat.le_of_ble_eq_true rfl, Nat.le_of_ble_eq_true rfl⟩ (fun v f1 Hp lcs hp hM => ?_)
      obtain ⟨rfl, hf⟩ := hp; subst hf
      refine mn_iast hx hb hK hM (hI.high) i (by omega) (by decide) dX6_readSentence_27 (fun Hp lcs hM => ?_)
      have hI := hI.setHigh (upd (filN greN hi i) i (greatestF (nI i)))
      refine lv_iinc (v := (nI (i + 1))) (lv' := [(1, .int (nI (i + 1))), (0, .ref o)]) hx hb dX6_readSentence_28 hl (k := 1) rfl (nI_add _ _) (by decide) rfl (fun ls hl => ?_)
      refine lv_goto (tgt := 2) hx hb dX6_readSentence_31 (by decide) ?_
      exact ih (i + 1) _ _ _ ls (by omega) ((hI.cL (filN_s leaN _ _)).cH (filN_s greN _ _)) (by omega) hM (lv_sub hl [1, 0] rfl)
  exact loopY 8 0 _ _ _ ls (Nat.zero_le _) (by rw [filN_0, filN_0]; exact hI) (by omega) hM (lv_sub hl [1, 0] rfl)
