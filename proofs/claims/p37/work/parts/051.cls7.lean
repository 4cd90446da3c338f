/-! THE CLASS: questions to the book -/
def tolN (n : Nat) (k : Int32) (g : Nat → Int32) : Int32 := if 0 ≤ k ∧ k < nI n then g k.toNatClampNeg else -100001
theorem tolN_at {n j : Nat} {x : Int32} {g : Nat → Int32} (hn : n ≤ 16) (hj : j < n) (e : x = g j) : x = tolN n (nI j) g := by
  rw [tolN, if_pos ⟨nI_pos' (by omega), nI_lt hj (by omega)⟩, nI_clamp (by omega)]; exact e
theorem tolN_no {n : Nat} {k : Int32} {g : Nat → Int32} (h : k < 0 ∨ nI n ≤ k) : (-100001) = tolN n k g := by
  rw [tolN, if_neg]
  rintro ⟨h1, h2⟩
  rcases h with z | z
  · exact absurd h1 (Int32.not_le.mpr z)
  · exact absurd h2 (Int32.not_lt.mpr z)
theorem tolN_S {S : Nat → Int32} {n : Nat} {k : Int32} {g : Nat → Int32} (hn : S 56 = nI n) (hn16 : n ≤ 16) : tolI S k g = tolN n k g := by
  by_cases h : 0 ≤ k ∧ k < nI n
  · obtain ⟨j, hj, e⟩ := nI_of (Int32.not_lt.mpr h.1)
    subst e
    have hj2 := (nI_ltI hj (by omega)).mp h.2
    rw [← tol_at hn hn16 hj2 rfl, ← tolN_at hn16 hj2 rfl]
  · rw [tolN, if_neg h]
    refine (tol_no ?_).symm
    cases e : inB k 0 (S 56 - 1) with
    | false => rfl
    | true =>
      obtain ⟨j, hj, rfl⟩ := isS_nat hn hn16 e
      exact absurd ⟨nI_pos' (by omega), nI_lt hj (by omega)⟩ h
theorem sen_cases {n : Nat} (hn : n ≤ 16) (k : Int32) : (∃ j, j < n ∧ k = nI j) ∨ (k < 0 ∨ nI n ≤ k) := by
  by_cases h1 : k < 0
  · exact Or.inr (Or.inl h1)
  · by_cases h2 : nI n ≤ k
    · exact Or.inr (Or.inr h2)
    · obtain ⟨j, hj, rfl⟩ := nI_of h1
      exact Or.inl ⟨j, (nI_ltI hj (by omega)).mp (Int32.not_le.mp h2), rfl⟩
theorem nI_nom1 {a : Nat} (h : a < 2 ^ 31) (z : nI a = -1) : False := by
  have := congrArg Int32.toInt z
  rw [nI_toInt h, show (-1 : Int32).toInt = -1 from by decide] at this
  omega
theorem firN_16 {q : Nat → Bool} {n : Nat} (h : n ≤ 16) : firN q n ≤ 16 := Nat.le_trans (firN_le q n) h
def cmpD (lo hi : Nat → Nat → Int32) (j i : Nat) : Int32 := if allN (insR (lo j) (hi j) (lo i) (hi i)) 7 = true then (if allN (insR (lo i) (hi i) (lo j) (hi j)) 7 = true then nI 0 else nI 1) else if allN (insR (lo i) (hi i) (lo j) (hi j)) 7 = true then nI 2 else if allN (meeR (lo j) (hi j) (lo i) (hi i)) 7 = true then nI 3 else nI 4
theorem cmN_no1 {n : Nat} {k x : Int32} {g : Nat → Nat → Int32} (h : k < 0 ∨ nI n ≤ k) : (-100001) = tolN n k (fun j => tolN n x (fun i => g j i)) := tolN_no h
theorem cmN_no2 {n j : Nat} {x : Int32} {g : Nat → Nat → Int32} (hn : n ≤ 16) (hj : j < n) (h : x < 0 ∨ nI n ≤ x) : (-100001) = tolN n (nI j) (fun j => tolN n x (fun i => g j i)) := tolN_at hn hj (tolN_no h)
theorem cmN_at {n j i : Nat} {v : Int32} {g : Nat → Nat → Int32} (hn : n ≤ 16) (hj : j < n) (hi : i < n) (h : v = g j i) : v = tolN n (nI j) (fun j => tolN n (nI i) (fun i => g j i)) := tolN_at hn hj (tolN_at hn hi h)
set_option maxHeartbeats 4000000 in
set_option maxRecDepth 100000 in
theorem c5_sentences (l : Launch) (G : mG) {f : mE} {o q0 b fc pr n ra rd sp rr sb : Nat} {rc : Int32} {B : Nat → Option Nat} {X rg pa qa tk : Nat → Nat} {lo hi : Nat → Nat → Int32} {ab gv us g : Nat → Int32} (hO : f o = some (.inr (6, [.ref q0, .ref ra, .int rc, .ref rd, .ref sp, .ref rr, .ref sb]))) (hQ : StQ G f q0 b fc pr n B X rg pa qa tk lo hi ab gv us) (hg : f fc = some (mI G 7 g)) : mC l G yX5_sentences wsX5_sentences ({ frames := 0, cells := 0, slots := 0, locals := 0 } : Room) f [.ref o] (fun v f1 => v = some (.int (nI n)) ∧ f = f1) 0 0 := by
  refine mC.of (cc := cX5_sentences) (maxL := 1) (ret := (some .int)) (by decide) rfl (Nat.le_of_ble_eq_true rfl) ?_
  intro pgm env s mt args below meth c A ls hx hb hml hr hlocks hown hname hts hK hE hA hM hl
  have hl : lv_has ls 1 [(0, .ref o)] := hl
  have hn16 := hQ.2.2.1
  refine lv_aload_n hx hb dX5_sentences_0 rfl (lv_at hl 0 rfl) ?_
  refine mm_get (C := RX5) (T := TX5) (N := 7) (k := 0) hx hb hts (fun _ h => List.mem_cons_of_mem _ (List.mem_append_left _ (List.mem_append_right _ h))) hown hK hM hO rfl (by decide) (hts (.fieldLink RX5 12 "SentenceRules" "now" "LSentenceRules$State;") (List.mem_of_getElem? (i := 1) rfl)) rfl rfl dX5_sentences_1 ?_
  refine mm_get (C := RX3) (T := TX3) (N := 4) (k := 0) hx hb hts (fun _ h => List.mem_cons_of_mem _ (List.mem_append_right _ h)) hown hK hM hQ.1 rfl (by decide) (hts (.fieldLink RX5 86 "SentenceRules$State" "sentenceCount" "I") (List.mem_of_getElem? (i := 2) rfl)) rfl rfl dX5_sentences_4 ?_
  exact mm_iret hx hb hlocks hr (Nat.le_of_ble_eq_true rfl) (Nat.le_of_ble_eq_true rfl) hM (⟨rfl, rfl⟩) dX5_sentences_7
set_option maxHeartbeats 4000000 in
set_option maxRecDepth 100000 in
theorem c5_about (l : Launch) (G : mG) {f : mE} {o q0 b fc pr n ra rd sp rr sb : Nat} {rc : Int32} {B : Nat → Option Nat} {X rg pa qa tk : Nat → Nat} {lo hi : Nat → Nat → Int32} {ab gv us g : Nat → Int32} (hO : f o = some (.inr (6, [.ref q0, .ref ra, .int rc, .ref rd, .ref sp, .ref rr, .ref sb]))) (hQ : StQ G f q0 b fc pr n B X rg pa qa tk lo hi ab gv us) (hg : f fc = some (mI G 7 g)) (k : Int32) : mC l G yX5_about wsX5_about ({ frames := 1, cells := 0, slots := 0, locals := 21 } : Room) f [.ref o, .int k] (fun v f1 => v = some (.int (tolN n k (fun j => ab j))) ∧ f = f1) 0 0 := by
  refine mC.of (cc := cX5_about) (maxL := 3) (ret := (some .int)) (by decide) rfl (Nat.le_of_ble_eq_true rfl) ?_
  intro pgm env s mt args below meth c A ls hx hb hml hr hlocks hown hname hts hK hE hA hM hl
  have hl : lv_has ls 3 [(0, .ref o), (1, .int k)] := hl
  have hn16 := hQ.2.2.1
  refine lv_aload_n hx hb dX5_about_0 rfl (lv_at hl 0 rfl) ?_
  refine mm_get (C := RX5) (T := TX5) (N := 7) (k := 0) hx hb hts (fun _ h => List.mem_cons_of_mem _ (List.mem_append_left _ (List.mem_append_left _ (List.mem_append_right _ h)))) hown hK hM hO rfl (by decide) (hts (.fieldLink RX5 12 "SentenceRules" "now" "LSentenceRules$State;") (List.mem_of_getElem? (i := 1) rfl)) rfl rfl dX5_about_1 ?_
  refine lv_iload_n hx hb dX5_about_4 rfl (lv_at hl 1 rfl) ?_
  rcases sen_cases hn16 k with ⟨j, jN, rfl⟩ | hz1
  · refine mm_V (As := [.int (nI j)]) (rest := []) ⟨hx, hb, hml, hown, hts⟩ (c3_sentenceAt l G hQ j (by omega)) (cwV 1 hts gX5_about_X3_sentenceAt rfl rfl rfl (by decide +kernel) ⟨Nat.le_of_ble_eq_true rfl, Nat.le_of_ble_eq_true rfl⟩) hK hE hA hM (mm_recv hK hM hQ.1 (q := (RX3, TX3, 4)) rfl) rfl hl.1 rfl (Nat.le_of_ble_eq_true rfl) dX5_about_5 ⟨Nat.le_of_ble_eq_true rfl, Nat.le_of_ble_eq_true rfl⟩ (fun v f1 Hp lcs hp hM => ?_)
    obtain ⟨rfl, hf⟩ := hp; subst hf
    have hz2 := hQ.2.2.2 j (by omega)
    refine lv_astore_n (lv' := [(2, .ref (X j)), (0, .ref o), (1, .int (nI j))]) hx hb dX5_about_8 rfl hl (by decide) rfl (fun ls hl => ?_)
    refine lv_aload_n hx hb dX5_about_9 rfl (lv_at hl 0 rfl) ?_
    refine lv_ifnonnull (tgt := 18) hx hb dX5_about_10 (by decide) ?_
    refine lv_aload_n hx hb dX5_about_18 rfl (lv_at hl 0 rfl) ?_
    refine mm_get (C := RX2) (T := TX2) (N := 5) (k := 2) hx hb hts (fun _ h => List.mem_cons_of_mem _ (List.mem_append_left _ (List.mem_append_right _ h))) hown hK hM hz2.2.1 rfl (by decide) (hts (.fieldLink RX5 144 "SentenceRules$Sentence" "about" "I") (List.mem_of_getElem? (i := 3) rfl)) rfl rfl dX5_about_19 ?_
    exact mm_iret hx hb hlocks hr (Nat.le_of_ble_eq_true rfl) (Nat.le_of_ble_eq_true rfl) hM (ret_v (tolN_at hn16 jN rfl)) dX5_about_22
  · refine mm_V (As := [.int k]) (rest := []) ⟨hx, hb, hml, hown, hts⟩ (c3_sentenceAtN l G hQ k hz1) (cwV 1 hts gX5_about_X3_sentenceAt rfl rfl rfl (by decide +kernel) ⟨Nat.le_of_ble_eq_true rfl, Nat.le_of_ble_eq_true rfl⟩) hK hE hA hM (mm_recv hK hM hQ.1 (q := (RX3, TX3, 4)) rfl) rfl hl.1 rfl (Nat.le_of_ble_eq_true rfl) dX5_about_5 ⟨Nat.le_of_ble_eq_true rfl, Nat.le_of_ble_eq_true rfl⟩ (fun v f1 Hp lcs hp hM => ?_)
    obtain ⟨rfl, hf⟩ := hp; subst hf
    refine lv_astore_nN (lv' := [(2, .null), (0, .ref o), (1, .int k)]) hx hb dX5_about_8 rfl hl (by decide) rfl (fun ls hl => ?_)
    refine lv_aload_nN hx hb dX5_about_9 rfl (lv_at hl 0 rfl) ?_
    refine lv_ifnonnullN hx hb dX5_about_10 ?_
    refine lv_ldc (v := (-100001)) hx hb hown (hts (.constant RX5 140 (-100001)) (List.mem_of_getElem? (i := 2) rfl)) dX5_about_13 ?_
    refine lv_goto (tgt := 22) hx hb dX5_about_15 (by decide) ?_
    exact mm_iret hx hb hlocks hr (Nat.le_of_ble_eq_true rfl) (Nat.le_of_ble_eq_true rfl) hM (ret_v (tolN_no hz1)) dX5_about_22
set_option maxHeartbeats 4000000 in
set_option maxRecDepth 100000 in
theorem c5_uses (l : Launch) (G : mG) {f : mE} {o q0 b fc pr n ra rd sp rr sb : Nat} {rc : Int32} {B : Nat → Option Nat} {X rg pa qa tk : Nat → Nat} {lo hi : Nat → Nat → Int32} {ab gv us g : Nat → Int32} (hO : f o = some (.inr (6, [.ref q0, .ref ra, .int rc, .ref rd, .ref sp, .ref rr, .ref sb]))) (hQ : StQ G f q0 b fc pr n B X rg pa qa tk lo hi ab gv us) (hg : f fc = some (mI G 7 g)) (k : Int32) : mC l G yX5_uses wsX5_uses ({ frames := 1, cells := 0, slots := 0, locals := 21 } : Room) f [.ref o, .int k] (fun v f1 => v = some (.int (tolN n k (fun j => us j))) ∧ f = f1) 0 0 := by
  refine mC.of (cc := cX5_uses) (maxL := 3) (ret := (some .int)) (by decide) rfl (Nat.le_of_ble_eq_true rfl) ?_
  intro pgm env s mt args below meth c A ls hx hb hml hr hlocks hown hname hts hK hE hA hM hl
  have hl : lv_has ls 3 [(0, .ref o), (1, .int k)] := hl
  have hn16 := hQ.2.2.1
  refine lv_aload_n hx hb dX5_uses_0 rfl (lv_at hl 0 rfl) ?_
  refine mm_get (C := RX5) (T := TX5) (N := 7) (k := 0) hx hb hts (fun _ h => List.mem_cons_of_mem _ (List.mem_append_left _ (List.mem_append_left _ (List.mem_append_right _ h)))) hown hK hM hO rfl (by decide) (hts (.fieldLink RX5 12 "SentenceRules" "now" "LSentenceRules$State;") (List.mem_of_getElem? (i := 1) rfl)) rfl rfl dX5_uses_1 ?_
  refine lv_iload_n hx hb dX5_uses_4 rfl (lv_at hl 1 rfl) ?_
  rcases sen_cases hn16 k with ⟨j, jN, rfl⟩ | hz1
  · refine mm_V (As := [.int (nI j)]) (rest := []) ⟨hx, hb, hml, hown, hts⟩ (c3_sentenceAt l G hQ j (by omega)) (cwV 1 hts gX5_uses_X3_sentenceAt rfl rfl rfl (by decide +kernel) ⟨Nat.le_of_ble_eq_true rfl, Nat.le_of_ble_eq_true rfl⟩) hK hE hA hM (mm_recv hK hM hQ.1 (q := (RX3, TX3, 4)) rfl) rfl hl.1 rfl (Nat.le_of_ble_eq_true rfl) dX5_uses_5 ⟨Nat.le_of_ble_eq_true rfl, Nat.le_of_ble_eq_true rfl⟩ (fun v f1 Hp lcs hp hM => ?_)
    obtain ⟨rfl, hf⟩ := hp; subst hf
    have hz2 := hQ.2.2.2 j (by omega)
    refine lv_astore_n (lv' := [(2, .ref (X j)), (0, .ref o), (1, .int (nI j))]) hx hb dX5_uses_8 rfl hl (by decide) rfl (fun ls hl => ?_)
    refine lv_aload_n hx hb dX5_uses_9 rfl (lv_at hl 0 rfl) ?_
    refine lv_ifnonnull (tgt := 18) hx hb dX5_uses_10 (by decide) ?_
    refine lv_aload_n hx hb dX5_uses_18 rfl (lv_at hl 0 rfl) ?_
    refine mm_get (C := RX2) (T := TX2) (N := 5) (k := 4) hx hb hts (fun _ h => List.mem_cons_of_mem _ (List.mem_append_left _ (List.mem_append_right _ h))) hown hK hM hz2.2.1 rfl (by decide) (hts (.fieldLink RX5 184 "SentenceRules$Sentence" "used" "I") (List.mem_of_getElem? (i := 3) rfl)) rfl rfl dX5_uses_19 ?_
    exact mm_iret hx hb hlocks hr (Nat.le_of_ble_eq_true rfl) (Nat.le_of_ble_eq_true rfl) hM (ret_v (tolN_at hn16 jN rfl)) dX5_uses_22
  · refine mm_V (As := [.int k]) (rest := []) ⟨hx, hb, hml, hown, hts⟩ (c3_sentenceAtN l G hQ k hz1) (cwV 1 hts gX5_uses_X3_sentenceAt rfl rfl rfl (by decide +kernel) ⟨Nat.le_of_ble_eq_true rfl, Nat.le_of_ble_eq_true rfl⟩) hK hE hA hM (mm_recv hK hM hQ.1 (q := (RX3, TX3, 4)) rfl) rfl hl.1 rfl (Nat.le_of_ble_eq_true rfl) dX5_uses_5 ⟨Nat.le_of_ble_eq_true rfl, Nat.le_of_ble_eq_true rfl⟩ (fun v f1 Hp lcs hp hM => ?_)
    obtain ⟨rfl, hf⟩ := hp; subst hf
    refine lv_astore_nN (lv' := [(2, .null), (0, .ref o), (1, .int k)]) hx hb dX5_uses_8 rfl hl (by decide) rfl (fun ls hl => ?_)
    refine lv_aload_nN hx hb dX5_uses_9 rfl (lv_at hl 0 rfl) ?_
    refine lv_ifnonnullN hx hb dX5_uses_10 ?_
    refine lv_ldc (v := (-100001)) hx hb hown (hts (.constant RX5 140 (-100001)) (List.mem_of_getElem? (i := 2) rfl)) dX5_uses_13 ?_
    refine lv_goto (tgt := 22) hx hb dX5_uses_15 (by decide) ?_
    exact mm_iret hx hb hlocks hr (Nat.le_of_ble_eq_true rfl) (Nat.le_of_ble_eq_true rfl) hM (ret_v (tolN_no hz1)) dX5_uses_22
set_option maxHeartbeats 4000000 in
set_option maxRecDepth 100000 in
theorem c5_gives (l : Launch) (G : mG) {f : mE} {o q0 b fc pr n ra rd sp rr sb : Nat} {rc : Int32} {B : Nat → Option Nat} {X rg pa qa tk : Nat → Nat} {lo hi : Nat → Nat → Int32} {ab gv us g : Nat → Int32} (hO : f o = some (.inr (6, [.ref q0, .ref ra, .int rc, .ref rd, .ref sp, .ref rr, .ref sb]))) (hQ : StQ G f q0 b fc pr n B X rg pa qa tk lo hi ab gv us) (hg : f fc = some (mI G 7 g)) (k : Int32) : mC l G yX5_gives wsX5_gives ({ frames := 1, cells := 0, slots := 0, locals := 21 } : Room) f [.ref o, .int k] (fun v f1 => v = some (.int (tolN n k (fun j => if ab j < nI 10 then gv j else -100005))) ∧ f = f1) 0 0 := by
  refine mC.of (cc := cX5_gives) (maxL := 3) (ret := (some .int)) (by decide) rfl (Nat.le_of_ble_eq_true rfl) ?_
  intro pgm env s mt args below meth c A ls hx hb hml hr hlocks hown hname hts hK hE hA hM hl
  have hl : lv_has ls 3 [(0, .ref o), (1, .int k)] := hl
  have hn16 := hQ.2.2.1
  refine lv_aload_n hx hb dX5_gives_0 rfl (lv_at hl 0 rfl) ?_
  refine mm_get (C := RX5) (T := TX5) (N := 7) (k := 0) hx hb hts (fun _ h => List.mem_cons_of_mem _ (List.mem_append_left _ (List.mem_append_left _ (List.mem_append_right _ h)))) hown hK hM hO rfl (by decide) (hts (.fieldLink RX5 12 "SentenceRules" "now" "LSentenceRules$State;") (List.mem_of_getElem? (i := 1) rfl)) rfl rfl dX5_gives_1 ?_
  refine lv_iload_n hx hb dX5_gives_4 rfl (lv_at hl 1 rfl) ?_
  rcases sen_cases hn16 k with ⟨j, jN, rfl⟩ | hz1
  · refine mm_V (As := [.int (nI j)]) (rest := []) ⟨hx, hb, hml, hown, hts⟩ (c3_sentenceAt l G hQ j (by omega)) (cwV 1 hts gX5_gives_X3_sentenceAt rfl rfl rfl (by decide +kernel) ⟨Nat.le_of_ble_eq_true rfl, Nat.le_of_ble_eq_true rfl⟩) hK hE hA hM (mm_recv hK hM hQ.1 (q := (RX3, TX3, 4)) rfl) rfl hl.1 rfl (Nat.le_of_ble_eq_true rfl) dX5_gives_5 ⟨Nat.le_of_ble_eq_true rfl, Nat.le_of_ble_eq_true rfl⟩ (fun v f1 Hp lcs hp hM => ?_)
    obtain ⟨rfl, hf⟩ := hp; subst hf
    have hz2 := hQ.2.2.2 j (by omega)
    refine lv_astore_n (lv' := [(2, .ref (X j)), (0, .ref o), (1, .int (nI j))]) hx hb dX5_gives_8 rfl hl (by decide) rfl (fun ls hl => ?_)
    refine lv_aload_n hx hb dX5_gives_9 rfl (lv_at hl 0 rfl) ?_
    refine lv_ifnonnull (tgt := 16) hx hb dX5_gives_10 (by decide) ?_
    refine lv_aload_n hx hb dX5_gives_16 rfl (lv_at hl 0 rfl) ?_
    refine mm_V (As := []) (rest := []) ⟨hx, hb, hml, hown, hts⟩ (c2_isDefinition l G hz2.2.1) (cwV 0 hts gX5_gives_X2_isDefinition rfl rfl rfl (by decide +kernel) ⟨Nat.le_of_ble_eq_true rfl, Nat.le_of_ble_eq_true rfl⟩) hK hE hA hM (mm_recv hK hM hz2.2.1 (q := (RX2, TX2, 5)) rfl) rfl hl.1 rfl (Nat.le_of_ble_eq_true rfl) dX5_gives_17 ⟨Nat.le_of_ble_eq_true rfl, Nat.le_of_ble_eq_true rfl⟩ (fun v f1 Hp lcs hp hM => ?_)
    obtain ⟨rfl, hf⟩ := hp; subst hf
    refine lvb_eq (tgt := 28) hx hb dX5_gives_20 (by decide) (fun cz3 => ?_) (fun cz3 => ?_)
    · refine lv_aload_n hx hb dX5_gives_28 rfl (lv_at hl 0 rfl) ?_
      refine mm_get (C := RX2) (T := TX2) (N := 5) (k := 3) hx hb hts (fun _ h => List.mem_cons_of_mem _ (List.mem_append_left _ (List.mem_append_right _ h))) hown hK hM hz2.2.1 rfl (by decide) (hts (.fieldLink RX5 171 "SentenceRules$Sentence" "given" "I") (List.mem_of_getElem? (i := 4) rfl)) rfl rfl dX5_gives_29 ?_
      exact mm_iret hx hb hlocks hr (Nat.le_of_ble_eq_true rfl) (Nat.le_of_ble_eq_true rfl) hM (ret_v (tolN_at hn16 jN (by rw [if_pos (of_decide_eq_true (bnot_f cz3))]))) dX5_gives_32
    refine lv_ldc (v := (-100005)) hx hb hown (hts (.constant RX5 105 (-100005)) (List.mem_of_getElem? (i := 3) rfl)) dX5_gives_23 ?_
    refine lv_goto (tgt := 32) hx hb dX5_gives_25 (by decide) ?_
    exact mm_iret hx hb hlocks hr (Nat.le_of_ble_eq_true rfl) (Nat.le_of_ble_eq_true rfl) hM (ret_v (tolN_at hn16 jN (by rw [if_neg (of_decide_eq_false (bnot_t cz3))]))) dX5_gives_32
  · refine mm_V (As := [.int k]) (rest := []) ⟨hx, hb, hml, hown, hts⟩ (c3_sentenceAtN l G hQ k hz1) (cwV 1 hts gX5_gives_X3_sentenceAt rfl rfl rfl (by decide +kernel) ⟨Nat.le_of_ble_eq_true rfl, Nat.le_of_ble_eq_true rfl⟩) hK hE hA hM (mm_recv hK hM hQ.1 (q := (RX3, TX3, 4)) rfl) rfl hl.1 rfl (Nat.le_of_ble_eq_true rfl) dX5_gives_5 ⟨Nat.le_of_ble_eq_true rfl, Nat.le_of_ble_eq_true rfl⟩ (fun v f1 Hp lcs hp hM => ?_)
    obtain ⟨rfl, hf⟩ := hp; subst hf
    refine lv_astore_nN (lv' := [(2, .null), (0, .ref o), (1, .int k)]) hx hb dX5_gives_8 rfl hl (by decide) rfl (fun ls hl => ?_)
    refine lv_aload_nN hx hb dX5_gives_9 rfl (lv_at hl 0 rfl) ?_
    refine lv_ifnonnullN hx hb dX5_gives_10 ?_
    refine lv_ldc (v := (-100001)) hx hb hown (hts (.constant RX5 140 (-100001)) (List.mem_of_getElem? (i := 2) rfl)) dX5_gives_13 ?_
    exact mm_iret hx hb hlocks hr (Nat.le_of_ble_eq_true rfl) (Nat.le_of_ble_eq_true rfl) hM (ret_v (tolN_no hz1)) dX5_gives_15
set_option maxHeartbeats 4000000 in
set_option maxRecDepth 100000 in
theorem c5_least (l : Launch) (G : mG) {f : mE} {o q0 b fc pr n ra rd sp rr sb : Nat} {rc : Int32} {B : Nat → Option Nat} {X rg pa qa tk : Nat → Nat} {lo hi : Nat → Nat → Int32} {ab gv us g : Nat → Int32} (hO : f o = some (.inr (6, [.ref q0, .ref ra, .int rc, .ref rd, .ref sp, .ref rr, .ref sb]))) (hQ : StQ G f q0 b fc pr n B X rg pa qa tk lo hi ab gv us) (hg : f fc = some (mI G 7 g)) (k x : Int32) : mC l G yX5_least wsX5_least ({ frames := 1, cells := 0, slots := 0, locals := 21 } : Room) f [.ref o, .int k, .int x] (fun v f1 => v = some (.int (tolN n k (fun j => if inB x 0 6 = true then lo j x.toNatClampNeg else -100002))) ∧ f = f1) 0 0 := by
  refine mC.of (cc := cX5_least) (maxL := 4) (ret := (some .int)) (by decide) rfl (Nat.le_of_ble_eq_true rfl) ?_
  intro pgm env s mt args below meth c A ls hx hb hml hr hlocks hown hname hts hK hE hA hM hl
  have hl : lv_has ls 4 [(0, .ref o), (1, .int k), (2, .int x)] := hl
  have hn16 := hQ.2.2.1
  refine lv_aload_n hx hb dX5_least_0 rfl (lv_at hl 0 rfl) ?_
  refine mm_get (C := RX5) (T := TX5) (N := 7) (k := 0) hx hb hts (fun _ h => List.mem_cons_of_mem _ (List.mem_append_left _ (List.mem_append_left _ (List.mem_append_left _ (List.mem_append_right _ h))))) hown hK hM hO rfl (by decide) (hts (.fieldLink RX5 12 "SentenceRules" "now" "LSentenceRules$State;") (List.mem_of_getElem? (i := 1) rfl)) rfl rfl dX5_least_1 ?_
  refine lv_iload_n hx hb dX5_least_4 rfl (lv_at hl 1 rfl) ?_
  rcases sen_cases hn16 k with ⟨j, jN, rfl⟩ | hz1
  · refine mm_V (As := [.int (nI j)]) (rest := []) ⟨hx, hb, hml, hown, hts⟩ (c3_sentenceAt l G hQ j (by omega)) (cwV 1 hts gX5_least_X3_sentenceAt rfl rfl rfl (by decide +kernel) ⟨Nat.le_of_ble_eq_true rfl, Nat.le_of_ble_eq_true rfl⟩) hK hE hA hM (mm_recv hK hM hQ.1 (q := (RX3, TX3, 4)) rfl) rfl hl.1 rfl (Nat.le_of_ble_eq_true rfl) dX5_least_5 ⟨Nat.le_of_ble_eq_true rfl, Nat.le_of_ble_eq_true rfl⟩ (fun v f1 Hp lcs hp hM => ?_)
    obtain ⟨rfl, hf⟩ := hp; subst hf
    have hz2 := hQ.2.2.2 j (by omega)
    refine lv_astore_n (lv' := [(3, .ref (X j)), (0, .ref o), (1, .int (nI j)), (2, .int x)]) hx hb dX5_least_8 rfl hl (by decide) rfl (fun ls hl => ?_)
    refine lv_aload_n hx hb dX5_least_9 rfl (lv_at hl 0 rfl) ?_
    refine lv_ifnonnull (tgt := 16) hx hb dX5_least_10 (by decide) ?_
    refine lv_iload_n hx hb dX5_least_16 rfl (lv_at hl 3 rfl) ?_
    refine mm_S (As := [.int x]) (rest := []) ⟨hx, hb, hml, hown, hts⟩ (c5_isFact l G _ x) (va_cwS 1 hts gX5_least_X5_isFact rfl rfl rfl (by decide +kernel) ⟨Nat.le_of_ble_eq_true rfl, Nat.le_of_ble_eq_true rfl⟩) hK hE hA hM rfl hl.1 rfl (Nat.le_of_ble_eq_true rfl) dX5_least_17 ⟨Nat.le_of_ble_eq_true rfl, Nat.le_of_ble_eq_true rfl⟩ (fun v f1 Hp lcs hp hM => ?_)
    obtain ⟨rfl, hf⟩ := hp; subst hf
    refine lvb_eq (tgt := 35) hx hb dX5_least_20 (by decide) (fun cz3 => ?_) (fun cz3 => ?_)
    · refine lv_ldc (v := (-100002)) hx hb hown (hts (.constant RX5 41 (-100002)) (List.mem_of_getElem? (i := 5) rfl)) dX5_least_35 ?_
      exact mm_iret hx hb hlocks hr (Nat.le_of_ble_eq_true rfl) (Nat.le_of_ble_eq_true rfl) hM (ret_v (tolN_at hn16 jN (by rw [if_neg (by rw [cz3]; decide)]))) dX5_least_37
    obtain ⟨i, iN, rfl⟩ := inB_nat (K := 6) (by decide) cz3
    refine lv_aload_n hx hb dX5_least_23 rfl (lv_at hl 0 rfl) ?_
    refine mm_get (C := RX2) (T := TX2) (N := 5) (k := 1) hx hb hts (fun _ h => List.mem_cons_of_mem _ (List.mem_append_left _ (List.mem_append_left _ (List.mem_append_right _ h)))) hown hK hM hz2.2.1 rfl (by decide) (hts (.fieldLink RX5 135 "SentenceRules$Sentence" "region" "LSentenceRules$Region;") (List.mem_of_getElem? (i := 3) rfl)) rfl rfl dX5_least_24 ?_
    refine mm_get (C := RX1) (T := TX1) (N := 2) (k := 0) hx hb hts (fun _ h => List.mem_cons_of_mem _ (List.mem_append_left _ (List.mem_append_right _ h))) hown hK hM hz2.2.2.1 rfl (by decide) (hts (.fieldLink RX5 174 "SentenceRules$Region" "lows" "[I") (List.mem_of_getElem? (i := 4) rfl)) rfl rfl dX5_least_27 ?_
    refine lv_iload_n hx hb dX5_least_30 rfl (lv_at hl 3 rfl) ?_
    refine mn_iald hx hb hK hM hz2.2.2.2.1 i (by omega) (by decide) dX5_least_31 ?_
    refine lv_goto (tgt := 37) hx hb dX5_least_32 (by decide) ?_
    exact mm_iret hx hb hlocks hr (Nat.le_of_ble_eq_true rfl) (Nat.le_of_ble_eq_true rfl) hM (ret_v (tolN_at hn16 jN (by rw [if_pos cz3, nI_clamp (by omega)]))) dX5_least_37
  · refine mm_V (As := [.int k]) (rest := []) ⟨hx, hb, hml, hown, hts⟩ (c3_sentenceAtN l G hQ k hz1) (cwV 1 hts gX5_least_X3_sentenceAt rfl rfl rfl (by decide +kernel) ⟨Nat.le_of_ble_eq_true rfl, Nat.le_of_ble_eq_true rfl⟩) hK hE hA hM (mm_recv hK hM hQ.1 (q := (RX3, TX3, 4)) rfl) rfl hl.1 rfl (Nat.le_of_ble_eq_true rfl) dX5_least_5 ⟨Nat.le_of_ble_eq_true rfl, Nat.le_of_ble_eq_true rfl⟩ (fun v f1 Hp lcs hp hM => ?_)
    obtain ⟨rfl, hf⟩ := hp; subst hf
    refine lv_astore_nN (lv' := [(3, .null), (0, .ref o), (1, .int k), (2, .int x)]) hx hb dX5_least_8 rfl hl (by decide) rfl (fun ls hl => ?_)
    refine lv_aload_nN hx hb dX5_least_9 rfl (lv_at hl 0 rfl) ?_
    refine lv_ifnonnullN hx hb dX5_least_10 ?_
    refine lv_ldc (v := (-100001)) hx hb hown (hts (.constant RX5 140 (-100001)) (List.mem_of_getElem? (i := 2) rfl)) dX5_least_13 ?_
    exact mm_iret hx hb hlocks hr (Nat.le_of_ble_eq_true rfl) (Nat.le_of_ble_eq_true rfl) hM (ret_v (tolN_no hz1)) dX5_least_15
set_option maxHeartbeats 4000000 in
set_option maxRecDepth 100000 in
theorem c5_greatest (l : Launch) (G : mG) {f : mE} {o q0 b fc pr n ra rd sp rr sb : Nat} {rc : Int32} {B : Nat → Option Nat} {X rg pa qa tk : Nat → Nat} {lo hi : Nat → Nat → Int32} {ab gv us g : Nat → Int32} (hO : f o = some (.inr (6, [.ref q0, .ref ra, .int rc, .ref rd, .ref sp, .ref rr, .ref sb]))) (hQ : StQ G f q0 b fc pr n B X rg pa qa tk lo hi ab gv us) (hg : f fc = some (mI G 7 g)) (k x : Int32) : mC l G yX5_greatest wsX5_greatest ({ frames := 1, cells := 0, slots := 0, locals := 21 } : Room) f [.ref o, .int k, .int x] (fun v f1 => v = some (.int (tolN n k (fun j => if inB x 0 6 = true then hi j x.toNatClampNeg else -100002))) ∧ f = f1) 0 0 := by
  refine mC.of (cc := cX5_greatest) (maxL := 4) (ret := (some .int)) (by decide) rfl (Nat.le_of_ble_eq_true rfl) ?_
  intro pgm env s mt args below meth c A ls hx hb hml hr hlocks hown hname hts hK hE hA hM hl
  have hl : lv_has ls 4 [(0, .ref o), (1, .int k), (2, .int x)] := hl
  have hn16 := hQ.2.2.1
  refine lv_aload_n hx hb dX5_greatest_0 rfl (lv_at hl 0 rfl) ?_
  refine mm_get (C := RX5) (T := TX5) (N := 7) (k := 0) hx hb hts (fun _ h => List.mem_cons_of_mem _ (List.mem_append_left _ (List.mem_append_left _ (List.mem_append_left _ (List.mem_append_right _ h))))) hown hK hM hO rfl (by decide) (hts (.fieldLink RX5 12 "SentenceRules" "now" "LSentenceRules$State;") (List.mem_of_getElem? (i := 1) rfl)) rfl rfl dX5_greatest_1 ?_
  refine lv_iload_n hx hb dX5_greatest_4 rfl (lv_at hl 1 rfl) ?_
  rcases sen_cases hn16 k with ⟨j, jN, rfl⟩ | hz1
  · refine mm_V (As := [.int (nI j)]) (rest := []) ⟨hx, hb, hml, hown, hts⟩ (c3_sentenceAt l G hQ j (by omega)) (cwV 1 hts gX5_greatest_X3_sentenceAt rfl rfl rfl (by decide +kernel) ⟨Nat.le_of_ble_eq_true rfl, Nat.le_of_ble_eq_true rfl⟩) hK hE hA hM (mm_recv hK hM hQ.1 (q := (RX3, TX3, 4)) rfl) rfl hl.1 rfl (Nat.le_of_ble_eq_true rfl) dX5_greatest_5 ⟨Nat.le_of_ble_eq_true rfl, Nat.le_of_ble_eq_true rfl⟩ (fun v f1 Hp lcs hp hM => ?_)
    obtain ⟨rfl, hf⟩ := hp; subst hf
    have hz2 := hQ.2.2.2 j (by omega)
    refine lv_astore_n (lv' := [(3, .ref (X j)), (0, .ref o), (1, .int (nI j)), (2, .int x)]) hx hb dX5_greatest_8 rfl hl (by decide) rfl (fun ls hl => ?_)
    refine lv_aload_n hx hb dX5_greatest_9 rfl (lv_at hl 0 rfl) ?_
    refine lv_ifnonnull (tgt := 16) hx hb dX5_greatest_10 (by decide) ?_
    refine lv_iload_n hx hb dX5_greatest_16 rfl (lv_at hl 3 rfl) ?_
    refine mm_S (As := [.int x]) (rest := []) ⟨hx, hb, hml, hown, hts⟩ (c5_isFact l G _ x) (va_cwS 1 hts gX5_greatest_X5_isFact rfl rfl rfl (by decide +kernel) ⟨Nat.le_of_ble_eq_true rfl, Nat.le_of_ble_eq_true rfl⟩) hK hE hA hM rfl hl.1 rfl (Nat.le_of_ble_eq_true rfl) dX5_greatest_17 ⟨Nat.le_of_ble_eq_true rfl, Nat.le_of_ble_eq_true rfl⟩ (fun v f1 Hp lcs hp hM => ?_)
    obtain ⟨rfl, hf⟩ := hp; subst hf
    refine lvb_eq (tgt := 35) hx hb dX5_greatest_20 (by decide) (fun cz3 => ?_) (fun cz3 => ?_)
    · refine lv_ldc (v := (-100002)) hx hb hown (hts (.constant RX5 41 (-100002)) (List.mem_of_getElem? (i := 5) rfl)) dX5_greatest_35 ?_
      exact mm_iret hx hb hlocks hr (Nat.le_of_ble_eq_true rfl) (Nat.le_of_ble_eq_true rfl) hM (ret_v (tolN_at hn16 jN (by rw [if_neg (by rw [cz3]; decide)]))) dX5_greatest_37
    obtain ⟨i, iN, rfl⟩ := inB_nat (K := 6) (by decide) cz3
    refine lv_aload_n hx hb dX5_greatest_23 rfl (lv_at hl 0 rfl) ?_
    refine mm_get (C := RX2) (T := TX2) (N := 5) (k := 1) hx hb hts (fun _ h => List.mem_cons_of_mem _ (List.mem_append_left _ (List.mem_append_left _ (List.mem_append_right _ h)))) hown hK hM hz2.2.1 rfl (by decide) (hts (.fieldLink RX5 135 "SentenceRules$Sentence" "region" "LSentenceRules$Region;") (List.mem_of_getElem? (i := 3) rfl)) rfl rfl dX5_greatest_24 ?_
    refine mm_get (C := RX1) (T := TX1) (N := 2) (k := 1) hx hb hts (fun _ h => List.mem_cons_of_mem _ (List.mem_append_left _ (List.mem_append_right _ h))) hown hK hM hz2.2.2.1 rfl (by decide) (hts (.fieldLink RX5 177 "SentenceRules$Region" "highs" "[I") (List.mem_of_getElem? (i := 4) rfl)) rfl rfl dX5_greatest_27 ?_
    refine lv_iload_n hx hb dX5_greatest_30 rfl (lv_at hl 3 rfl) ?_
    refine mn_iald hx hb hK hM hz2.2.2.2.2 i (by omega) (by decide) dX5_greatest_31 ?_
    refine lv_goto (tgt := 37) hx hb dX5_greatest_32 (by decide) ?_
    exact mm_iret hx hb hlocks hr (Nat.le_of_ble_eq_true rfl) (Nat.le_of_ble_eq_true rfl) hM (ret_v (tolN_at hn16 jN (by rw [if_pos cz3, nI_clamp (by omega)]))) dX5_greatest_37
  · refine mm_V (As := [.int k]) (rest := []) ⟨hx, hb, hml, hown, hts⟩ (c3_sentenceAtN l G hQ k hz1) (cwV 1 hts gX5_greatest_X3_sentenceAt rfl rfl rfl (by decide +kernel) ⟨Nat.le_of_ble_eq_true rfl, Nat.le_of_ble_eq_true rfl⟩) hK hE hA hM (mm_recv hK hM hQ.1 (q := (RX3, TX3, 4)) rfl) rfl hl.1 rfl (Nat.le_of_ble_eq_true rfl) dX5_greatest_5 ⟨Nat.le_of_ble_eq_true rfl, Nat.le_of_ble_eq_true rfl⟩ (fun v f1 Hp lcs hp hM => ?_)
    obtain ⟨rfl, hf⟩ := hp; subst hf
    refine lv_astore_nN (lv' := [(3, .null), (0, .ref o), (1, .int k), (2, .int x)]) hx hb dX5_greatest_8 rfl hl (by decide) rfl (fun ls hl => ?_)
    refine lv_aload_nN hx hb dX5_greatest_9 rfl (lv_at hl 0 rfl) ?_
    refine lv_ifnonnullN hx hb dX5_greatest_10 ?_
    refine lv_ldc (v := (-100001)) hx hb hown (hts (.constant RX5 140 (-100001)) (List.mem_of_getElem? (i := 2) rfl)) dX5_greatest_13 ?_
    exact mm_iret hx hb hlocks hr (Nat.le_of_ble_eq_true rfl) (Nat.le_of_ble_eq_true rfl) hM (ret_v (tolN_no hz1)) dX5_greatest_15
set_option maxHeartbeats 4000000 in
set_option maxRecDepth 100000 in
theorem c5_sharpness (l : Launch) (G : mG) {f : mE} {o q0 b fc pr n ra rd sp rr sb : Nat} {rc : Int32} {B : Nat → Option Nat} {X rg pa qa tk : Nat → Nat} {lo hi : Nat → Nat → Int32} {ab gv us g : Nat → Int32} (hO : f o = some (.inr (6, [.ref q0, .ref ra, .int rc, .ref rd, .ref sp, .ref rr, .ref sb]))) (hQ : StQ G f q0 b fc pr n B X rg pa qa tk lo hi ab gv us) (hg : f fc = some (mI G 7 g)) (k : Int32) : mC l G yX5_sharpness wsX5_sharpness ({ frames := 2, cells := 0, slots := 0, locals := 42 } : Room) f [.ref o, .int k] (fun v f1 => v = some (.int (tolN n k (fun j => nI (limD lo hi j)))) ∧ f = f1) 0 0 := by
  refine mC.of (cc := cX5_sharpness) (maxL := 3) (ret := (some .int)) (by decide) rfl (Nat.le_of_ble_eq_true rfl) ?_
  intro pgm env s mt args below meth c A ls hx hb hml hr hlocks hown hname hts hK hE hA hM hl
  have hl : lv_has ls 3 [(0, .ref o), (1, .int k)] := hl
  have hn16 := hQ.2.2.1
  refine lv_aload_n hx hb dX5_sharpness_0 rfl (lv_at hl 0 rfl) ?_
  refine mm_get (C := RX5) (T := TX5) (N := 7) (k := 0) hx hb hts (fun _ h => List.mem_cons_of_mem _ (List.mem_append_left _ (List.mem_append_left _ (List.mem_append_left _ (List.mem_append_right _ h))))) hown hK hM hO rfl (by decide) (hts (.fieldLink RX5 12 "SentenceRules" "now" "LSentenceRules$State;") (List.mem_of_getElem? (i := 1) rfl)) rfl rfl dX5_sharpness_1 ?_
  refine lv_iload_n hx hb dX5_sharpness_4 rfl (lv_at hl 1 rfl) ?_
  rcases sen_cases hn16 k with ⟨j, jN, rfl⟩ | hz1
  · refine mm_V (As := [.int (nI j)]) (rest := []) ⟨hx, hb, hml, hown, hts⟩ (c3_sentenceAt l G hQ j (by omega)) (cwV 1 hts gX5_sharpness_X3_sentenceAt rfl rfl rfl (by decide +kernel) ⟨Nat.le_of_ble_eq_true rfl, Nat.le_of_ble_eq_true rfl⟩) hK hE hA hM (mm_recv hK hM hQ.1 (q := (RX3, TX3, 4)) rfl) rfl hl.1 rfl (Nat.le_of_ble_eq_true rfl) dX5_sharpness_5 ⟨Nat.le_of_ble_eq_true rfl, Nat.le_of_ble_eq_true rfl⟩ (fun v f1 Hp lcs hp hM => ?_)
    obtain ⟨rfl, hf⟩ := hp; subst hf
    have hz2 := hQ.2.2.2 j (by omega)
    refine lv_astore_n (lv' := [(2, .ref (X j)), (0, .ref o), (1, .int (nI j))]) hx hb dX5_sharpness_8 rfl hl (by decide) rfl (fun ls hl => ?_)
    refine lv_aload_n hx hb dX5_sharpness_9 rfl (lv_at hl 0 rfl) ?_
    refine lv_ifnonnull (tgt := 18) hx hb dX5_sharpness_10 (by decide) ?_
    refine lv_aload_n hx hb dX5_sharpness_18 rfl (lv_at hl 0 rfl) ?_
    refine mm_get (C := RX2) (T := TX2) (N := 5) (k := 1) hx hb hts (fun _ h => List.mem_cons_of_mem _ (List.mem_append_left _ (List.mem_append_left _ (List.mem_append_right _ h)))) hown hK hM hz2.2.1 rfl (by decide) (hts (.fieldLink RX5 135 "SentenceRules$Sentence" "region" "LSentenceRules$Region;") (List.mem_of_getElem? (i := 3) rfl)) rfl rfl dX5_sharpness_19 ?_
    refine mm_V (As := []) (rest := []) ⟨hx, hb, hml, hown, hts⟩ (c1_limitedFacts l G hz2.2.2.1 hz2.2.2.2.1 hz2.2.2.2.2) (cwV 0 hts gX5_sharpness_X1_limitedFacts rfl rfl rfl (by decide +kernel) ⟨Nat.le_of_ble_eq_true rfl, Nat.le_of_ble_eq_true rfl⟩) hK hE hA hM (mm_recv hK hM hz2.2.2.1 (q := (RX1, TX1, 2)) rfl) rfl hl.1 rfl (Nat.le_of_ble_eq_true rfl) dX5_sharpness_22 ⟨Nat.le_of_ble_eq_true rfl, Nat.le_of_ble_eq_true rfl⟩ (fun v f1 Hp lcs hp hM => ?_)
    obtain ⟨rfl, hf⟩ := hp; subst hf
    exact mm_iret hx hb hlocks hr (Nat.le_of_ble_eq_true rfl) (Nat.le_of_ble_eq_true rfl) hM (ret_v (tolN_at hn16 jN rfl)) dX5_sharpness_25
  · refine mm_V (As := [.int k]) (rest := []) ⟨hx, hb, hml, hown, hts⟩ (c3_sentenceAtN l G hQ k hz1) (cwV 1 hts gX5_sharpness_X3_sentenceAt rfl rfl rfl (by decide +kernel) ⟨Nat.le_of_ble_eq_true rfl, Nat.le_of_ble_eq_true rfl⟩) hK hE hA hM (mm_recv hK hM hQ.1 (q := (RX3, TX3, 4)) rfl) rfl hl.1 rfl (Nat.le_of_ble_eq_true rfl) dX5_sharpness_5 ⟨Nat.le_of_ble_eq_true rfl, Nat.le_of_ble_eq_true rfl⟩ (fun v f1 Hp lcs hp hM => ?_)
    obtain ⟨rfl, hf⟩ := hp; subst hf
    refine lv_astore_nN (lv' := [(2, .null), (0, .ref o), (1, .int k)]) hx hb dX5_sharpness_8 rfl hl (by decide) rfl (fun ls hl => ?_)
    refine lv_aload_nN hx hb dX5_sharpness_9 rfl (lv_at hl 0 rfl) ?_
    refine lv_ifnonnullN hx hb dX5_sharpness_10 ?_
    refine lv_ldc (v := (-100001)) hx hb hown (hts (.constant RX5 140 (-100001)) (List.mem_of_getElem? (i := 2) rfl)) dX5_sharpness_13 ?_
    refine lv_goto (tgt := 25) hx hb dX5_sharpness_15 (by decide) ?_
    exact mm_iret hx hb hlocks hr (Nat.le_of_ble_eq_true rfl) (Nat.le_of_ble_eq_true rfl) hM (ret_v (tolN_no hz1)) dX5_sharpness_25
set_option maxHeartbeats 4000000 in
set_option maxRecDepth 100000 in
theorem c5_fact (l : Launch) (G : mG) {f : mE} {o q0 b fc pr n ra rd sp rr sb : Nat} {rc : Int32} {B : Nat → Option Nat} {X rg pa qa tk : Nat → Nat} {lo hi : Nat → Nat → Int32} {ab gv us g : Nat → Int32} (hO : f o = some (.inr (6, [.ref q0, .ref ra, .int rc, .ref rd, .ref sp, .ref rr, .ref sb]))) (hQ : StQ G f q0 b fc pr n B X rg pa qa tk lo hi ab gv us) (hg : f fc = some (mI G 7 g)) (x : Int32) : mC l G yX5_fact wsX5_fact ({ frames := 1, cells := 0, slots := 0, locals := 20 } : Room) f [.ref o, .int x] (fun v f1 => v = some (.int (if inB x 0 6 = true then g x.toNatClampNeg else -100002)) ∧ f = f1) 0 0 := by
  refine mC.of (cc := cX5_fact) (maxL := 2) (ret := (some .int)) (by decide) rfl (Nat.le_of_ble_eq_true rfl) ?_
  intro pgm env s mt args below meth c A ls hx hb hml hr hlocks hown hname hts hK hE hA hM hl
  have hl : lv_has ls 2 [(0, .ref o), (1, .int x)] := hl
  have hn16 := hQ.2.2.1
  refine lv_iload_n hx hb dX5_fact_0 rfl (lv_at hl 1 rfl) ?_
  refine mm_S (As := [.int x]) (rest := []) ⟨hx, hb, hml, hown, hts⟩ (c5_isFact l G _ x) (va_cwS 1 hts gX5_fact_X5_isFact rfl rfl rfl (by decide +kernel) ⟨Nat.le_of_ble_eq_true rfl, Nat.le_of_ble_eq_true rfl⟩) hK hE hA hM rfl hl.1 rfl (Nat.le_of_ble_eq_true rfl) dX5_fact_1 ⟨Nat.le_of_ble_eq_true rfl, Nat.le_of_ble_eq_true rfl⟩ (fun v f1 Hp lcs hp hM => ?_)
  obtain ⟨rfl, hf⟩ := hp; subst hf
  refine lvb_eq (tgt := 19) hx hb dX5_fact_4 (by decide) (fun cz1 => ?_) (fun cz1 => ?_)
  · refine lv_ldc (v := (-100002)) hx hb hown (hts (.constant RX5 41 (-100002)) (List.mem_of_getElem? (i := 3) rfl)) dX5_fact_19 ?_
    exact mm_iret hx hb hlocks hr (Nat.le_of_ble_eq_true rfl) (Nat.le_of_ble_eq_true rfl) hM (ret_v (by rw [if_neg (by rw [cz1]; decide)])) dX5_fact_21
  obtain ⟨i, iN, rfl⟩ := inB_nat (K := 6) (by decide) cz1
  refine lv_aload_n hx hb dX5_fact_7 rfl (lv_at hl 0 rfl) ?_
  refine mm_get (C := RX5) (T := TX5) (N := 7) (k := 0) hx hb hts (fun _ h => List.mem_cons_of_mem _ (List.mem_append_left _ (List.mem_append_right _ h))) hown hK hM hO rfl (by decide) (hts (.fieldLink RX5 12 "SentenceRules" "now" "LSentenceRules$State;") (List.mem_of_getElem? (i := 1) rfl)) rfl rfl dX5_fact_8 ?_
  refine mm_get (C := RX3) (T := TX3) (N := 4) (k := 2) hx hb hts (fun _ h => List.mem_cons_of_mem _ (List.mem_append_right _ h)) hown hK hM hQ.1 rfl (by decide) (hts (.fieldLink RX5 158 "SentenceRules$State" "facts" "[I") (List.mem_of_getElem? (i := 2) rfl)) rfl rfl dX5_fact_11 ?_
  refine lv_iload_n hx hb dX5_fact_14 rfl (lv_at hl 1 rfl) ?_
  refine mn_iald hx hb hK hM hg i (by omega) (by decide) dX5_fact_15 ?_
  refine lv_goto (tgt := 21) hx hb dX5_fact_16 (by decide) ?_
  exact mm_iret hx hb hlocks hr (Nat.le_of_ble_eq_true rfl) (Nat.le_of_ble_eq_true rfl) hM (ret_v (by rw [if_pos cz1, nI_clamp (by omega)])) dX5_fact_21
set_option maxHeartbeats 4000000 in
set_option maxRecDepth 100000 in
theorem c5_definition (l : Launch) (G : mG) {f : mE} {o q0 b fc pr n ra rd sp rr sb : Nat} {rc : Int32} {B : Nat → Option Nat} {X rg pa qa tk : Nat → Nat} {lo hi : Nat → Nat → Int32} {ab gv us g : Nat → Int32} (hO : f o = some (.inr (6, [.ref q0, .ref ra, .int rc, .ref rd, .ref sp, .ref rr, .ref sb]))) (hQ : StQ G f q0 b fc pr n B X rg pa qa tk lo hi ab gv us) (hg : f fc = some (mI G 7 g)) (w : Int32) : mC l G yX5_definition wsX5_definition ({ frames := 2, cells := 0, slots := 0, locals := 44 } : Room) f [.ref o, .int w] (fun v f1 => v = some (.int (if inB w 0 5 = true then (if firN (defD ab w) n < n then nI (firN (defD ab w) n) else -100005) else -100002)) ∧ f = f1) 0 0 := by
  refine mC.of (cc := cX5_definition) (maxL := 3) (ret := (some .int)) (by decide) rfl (Nat.le_of_ble_eq_true rfl) ?_
  intro pgm env s mt args below meth c A ls hx hb hml hr hlocks hown hname hts hK hE hA hM hl
  have hl : lv_has ls 3 [(0, .ref o), (1, .int w)] := hl
  have hn16 := hQ.2.2.1
  refine lv_iload_n hx hb dX5_definition_0 rfl (lv_at hl 1 rfl) ?_
  refine mm_S (As := [.int w]) (rest := []) ⟨hx, hb, hml, hown, hts⟩ (c5_isDefinable l G _ w) (va_cwS 1 hts gX5_definition_X5_isDefinable rfl rfl rfl (by decide +kernel) ⟨Nat.le_of_ble_eq_true rfl, Nat.le_of_ble_eq_true rfl⟩) hK hE hA hM rfl hl.1 rfl (Nat.le_of_ble_eq_true rfl) dX5_definition_1 ⟨Nat.le_of_ble_eq_true rfl, Nat.le_of_ble_eq_true rfl⟩ (fun v f1 Hp lcs hp hM => ?_)
  obtain ⟨rfl, hf⟩ := hp; subst hf
  refine lvb_ne (tgt := 10) hx hb dX5_definition_4 (by decide) (fun cz1 => ?_) (fun cz1 => ?_)
  · refine lv_aload_n hx hb dX5_definition_10 rfl (lv_at hl 0 rfl) ?_
    refine mm_get (C := RX5) (T := TX5) (N := 7) (k := 0) hx hb hts (fun _ h => List.mem_cons_of_mem _ (List.mem_append_left _ (List.mem_append_left _ (List.mem_append_right _ h)))) hown hK hM hO rfl (by decide) (hts (.fieldLink RX5 12 "SentenceRules" "now" "LSentenceRules$State;") (List.mem_of_getElem? (i := 2) rfl)) rfl rfl dX5_definition_11 ?_
    refine lv_iload_n hx hb dX5_definition_14 rfl (lv_at hl 1 rfl) ?_
    refine mm_V (As := [.int w]) (rest := []) ⟨hx, hb, hml, hown, hts⟩ (c3_definitionOf l G hQ w) (cwV 1 hts gX5_definition_X3_definitionOf rfl rfl rfl (by decide +kernel) ⟨Nat.le_of_ble_eq_true rfl, Nat.le_of_ble_eq_true rfl⟩) hK hE hA hM (mm_recv hK hM hQ.1 (q := (RX3, TX3, 4)) rfl) rfl hl.1 rfl (Nat.le_of_ble_eq_true rfl) dX5_definition_15 ⟨Nat.le_of_ble_eq_true rfl, Nat.le_of_ble_eq_true rfl⟩ (fun v f1 Hp lcs hp hM => ?_)
    obtain ⟨rfl, hf⟩ := hp; subst hf
    refine lv_istore_n (lv' := [(2, .int (if firN (defD ab w) n < n then nI (firN (defD ab w) n) else -1)), (0, .ref o), (1, .int w)]) hx hb dX5_definition_18 rfl hl (by decide) rfl (fun ls hl => ?_)
    refine lv_iload_n hx hb dX5_definition_19 rfl (lv_at hl 0 rfl) ?_
    refine lv_iconst (v := (-1)) hx hb dX5_definition_20 (by decide +kernel) ?_
    refine lv_icmp_ne (tgt := 29) hx hb dX5_definition_21 (by decide) (fun cz2 => ?_) (fun cz2 => ?_)
    · refine lv_iload_n hx hb dX5_definition_29 rfl (lv_at hl 0 rfl) ?_
      exact mm_iret hx hb hlocks hr (Nat.le_of_ble_eq_true rfl) (Nat.le_of_ble_eq_true rfl) hM (ret_v (by rw [if_pos cz1]; by_cases hd : firN (defD ab w) n < n; (rw [if_pos hd, if_pos hd]); (rw [if_neg hd] at cz2; exact absurd rfl cz2))) dX5_definition_30
    refine lv_ldc (v := (-100005)) hx hb hown (hts (.constant RX5 105 (-100005)) (List.mem_of_getElem? (i := 3) rfl)) dX5_definition_24 ?_
    refine lv_goto (tgt := 30) hx hb dX5_definition_26 (by decide) ?_
    exact mm_iret hx hb hlocks hr (Nat.le_of_ble_eq_true rfl) (Nat.le_of_ble_eq_true rfl) hM (ret_v (by rw [if_pos cz1, if_neg (fun hd => by rw [if_pos hd] at cz2; exact nI_nom1 (by omega) cz2)])) dX5_definition_30
  refine lv_ldc (v := (-100002)) hx hb hown (hts (.constant RX5 41 (-100002)) (List.mem_of_getElem? (i := 1) rfl)) dX5_definition_7 ?_
  exact mm_iret hx hb hlocks hr (Nat.le_of_ble_eq_true rfl) (Nat.le_of_ble_eq_true rfl) hM (ret_v (by rw [if_neg (by rw [cz1]; decide)])) dX5_definition_9
set_option maxHeartbeats 4000000 in
set_option maxRecDepth 100000 in
theorem c5_answer (l : Launch) (G : mG) {f : mE} {o q0 b fc pr n ra rd sp rr sb : Nat} {rc : Int32} {B : Nat → Option Nat} {X rg pa qa tk : Nat → Nat} {lo hi : Nat → Nat → Int32} {ab gv us g : Nat → Int32} (hO : f o = some (.inr (6, [.ref q0, .ref ra, .int rc, .ref rd, .ref sp, .ref rr, .ref sb]))) (hQ : StQ G f q0 b fc pr n B X rg pa qa tk lo hi ab gv us) (hg : f fc = some (mI G 7 g)) (r : Int32) : mC l G yX5_answer wsX5_answer ({ frames := 5, cells := 0, slots := 0, locals := 124 } : Room) f [.ref o, .int r] (fun v f1 => v = some (.int (if inB r 0 3 = true then ansD g lo hi ab gv (-1) n r n 0 (-100005) else -100002)) ∧ f = f1) 0 0 := by
  refine mC.of (cc := cX5_answer) (maxL := 2) (ret := (some .int)) (by decide) rfl (Nat.le_of_ble_eq_true rfl) ?_
  intro pgm env s mt args below meth c A ls hx hb hml hr hlocks hown hname hts hK hE hA hM hl
  have hl : lv_has ls 2 [(0, .ref o), (1, .int r)] := hl
  have hn16 := hQ.2.2.1
  refine lv_iload_n hx hb dX5_answer_0 rfl (lv_at hl 1 rfl) ?_
  refine mm_S (As := [.int r]) (rest := []) ⟨hx, hb, hml, hown, hts⟩ (c5_isResult l G _ r) (va_cwS 1 hts gX5_answer_X5_isResult rfl rfl rfl (by decide +kernel) ⟨Nat.le_of_ble_eq_true rfl, Nat.le_of_ble_eq_true rfl⟩) hK hE hA hM rfl hl.1 rfl (Nat.le_of_ble_eq_true rfl) dX5_answer_1 ⟨Nat.le_of_ble_eq_true rfl, Nat.le_of_ble_eq_true rfl⟩ (fun v f1 Hp lcs hp hM => ?_)
  obtain ⟨rfl, hf⟩ := hp; subst hf
  refine lvb_ne (tgt := 10) hx hb dX5_answer_4 (by decide) (fun cz1 => ?_) (fun cz1 => ?_)
  · refine lv_aload_n hx hb dX5_answer_10 rfl (lv_at hl 0 rfl) ?_
    refine mm_get (C := RX5) (T := TX5) (N := 7) (k := 0) hx hb hts (fun _ h => List.mem_cons_of_mem _ (List.mem_append_left _ (List.mem_append_left _ (List.mem_append_left _ (List.mem_append_right _ h))))) hown hK hM hO rfl (by decide) (hts (.fieldLink RX5 12 "SentenceRules" "now" "LSentenceRules$State;") (List.mem_of_getElem? (i := 2) rfl)) rfl rfl dX5_answer_11 ?_
    refine lv_iload_n hx hb dX5_answer_14 rfl (lv_at hl 1 rfl) ?_
    refine lv_aload_n hx hb dX5_answer_15 rfl (lv_at hl 0 rfl) ?_
    refine mm_get (C := RX5) (T := TX5) (N := 7) (k := 0) hx hb hts (fun _ h => List.mem_cons_of_mem _ (List.mem_append_left _ (List.mem_append_left _ (List.mem_append_left _ (List.mem_append_right _ h))))) hown hK hM hO rfl (by decide) (hts (.fieldLink RX5 12 "SentenceRules" "now" "LSentenceRules$State;") (List.mem_of_getElem? (i := 2) rfl)) rfl rfl dX5_answer_16 ?_
    refine mm_get (C := RX3) (T := TX3) (N := 4) (k := 2) hx hb hts (fun _ h => List.mem_cons_of_mem _ (List.mem_append_left _ (List.mem_append_left _ (List.mem_append_right _ h)))) hown hK hM hQ.1 rfl (by decide) (hts (.fieldLink RX5 158 "SentenceRules$State" "facts" "[I") (List.mem_of_getElem? (i := 3) rfl)) rfl rfl dX5_answer_19 ?_
    refine lv_iconst (v := (-1)) hx hb dX5_answer_22 (by decide +kernel) ?_
    refine mm_V (As := [.int r, .ref fc, .int (-1)]) (rest := []) ⟨hx, hb, hml, hown, hts⟩ (c3_answerFor l G hQ hg r (-1)) (cwV 3 hts gX5_answer_X3_answerFor rfl rfl rfl (by decide +kernel) ⟨Nat.le_of_ble_eq_true rfl, Nat.le_of_ble_eq_true rfl⟩) hK hE hA hM (mm_recv hK hM hQ.1 (q := (RX3, TX3, 4)) rfl) rfl hl.1 rfl (Nat.le_of_ble_eq_true rfl) dX5_answer_23 ⟨Nat.le_of_ble_eq_true rfl, Nat.le_of_ble_eq_true rfl⟩ (fun v f1 Hp lcs hp hM => ?_)
    obtain ⟨rfl, hf⟩ := hp; subst hf
    exact mm_iret hx hb hlocks hr (Nat.le_of_ble_eq_true rfl) (Nat.le_of_ble_eq_true rfl) hM (ret_v (by rw [if_pos cz1])) dX5_answer_26
  refine lv_ldc (v := (-100002)) hx hb hown (hts (.constant RX5 41 (-100002)) (List.mem_of_getElem? (i := 1) rfl)) dX5_answer_7 ?_
  exact mm_iret hx hb hlocks hr (Nat.le_of_ble_eq_true rfl) (Nat.le_of_ble_eq_true rfl) hM (ret_v (by rw [if_neg (by rw [cz1]; decide)])) dX5_answer_9
set_option maxHeartbeats 4000000 in
set_option maxRecDepth 100000 in
theorem c5_overridden (l : Launch) (G : mG) {f : mE} {o q0 b fc pr n ra rd sp rr sb : Nat} {rc : Int32} {B : Nat → Option Nat} {X rg pa qa tk : Nat → Nat} {lo hi : Nat → Nat → Int32} {ab gv us g : Nat → Int32} (hO : f o = some (.inr (6, [.ref q0, .ref ra, .int rc, .ref rd, .ref sp, .ref rr, .ref sb]))) (hQ : StQ G f q0 b fc pr n B X rg pa qa tk lo hi ab gv us) (hg : f fc = some (mI G 7 g)) (r : Int32) : mC l G yX5_overridden wsX5_overridden ({ frames := 3, cells := 0, slots := 0, locals := 74 } : Room) f [.ref o, .int r] (fun v f1 => v = some (.int (if inB r 0 3 = true then nI (cntN (fun k => appD g lo hi ab (-1) k r && exN (ovrQ g lo hi ab (-1) k r) n) n) else -100002)) ∧ f = f1) 0 0 := by
  refine mC.of (cc := cX5_overridden) (maxL := 4) (ret := (some .int)) (by decide) rfl (Nat.le_of_ble_eq_true rfl) ?_
  intro pgm env s mt args below meth c A ls hx hb hml hr hlocks hown hname hts hK hE hA hM hl
  have hl : lv_has ls 4 [(0, .ref o), (1, .int r)] := hl
  have hn16 := hQ.2.2.1
  refine lv_iload_n hx hb dX5_overridden_0 rfl (lv_at hl 1 rfl) ?_
  refine mm_S (As := [.int r]) (rest := []) ⟨hx, hb, hml, hown, hts⟩ (c5_isResult l G _ r) (va_cwS 1 hts gX5_overridden_X5_isResult rfl rfl rfl (by decide +kernel) ⟨Nat.le_of_ble_eq_true rfl, Nat.le_of_ble_eq_true rfl⟩) hK hE hA hM rfl hl.1 rfl (Nat.le_of_ble_eq_true rfl) dX5_overridden_1 ⟨Nat.le_of_ble_eq_true rfl, Nat.le_of_ble_eq_true rfl⟩ (fun v f1 Hp lcs hp hM => ?_)
  obtain ⟨rfl, hf⟩ := hp; subst hf
  refine lvb_ne (tgt := 10) hx hb dX5_overridden_4 (by decide) (fun cz1 => ?_) (fun cz1 => ?_)
  · refine lv_iconst (v := (nI 0)) hx hb dX5_overridden_10 (by decide +kernel) ?_
    refine lv_istore_n (lv' := [(2, .int (nI 0)), (0, .ref o), (1, .int r)]) hx hb dX5_overridden_11 rfl hl (by decide) rfl (fun ls hl => ?_)
    refine lv_iconst (v := (nI 0)) hx hb dX5_overridden_12 (by decide +kernel) ?_
    refine lv_istore_n (lv' := [(3, .int (nI 0)), (2, .int (nI 0)), (0, .ref o), (1, .int r)]) hx hb dX5_overridden_13 rfl hl (by decide) rfl (fun ls hl => ?_)
    have loopZ : ∀ (fuel : Nat) (i w : Nat) (Hp : Heap) (lcs : List Loc) (ls : Array Slot) (hiN : i ≤ n) (hr0 : w = cntN (fun k => appD g lo hi ab (-1) k r && exN (ovrQ g lo hi ab (-1) k r) n) i) (hfu : n - i < fuel) (hM : mM G A s.heap f Hp lcs) (hl : lv_has ls 4 [(0, .ref o), (1, .int r), (2, .int (nI w)), (3, .int (nI i))]), W pgm l env ({ frames := 3, cells := 0, slots := 0, locals := 74 } : Room) s mt args below meth c Hp lcs 0 0 (MQ below (mQc G A (fun v f1 => v = some (.int (if inB r 0 3 = true then nI (cntN (fun k => appD g lo hi ab (-1) k r && exN (ovrQ g lo hi ab (-1) k r) n) n) else -100002)) ∧ f = f1)) args s 0 0 A) (F0 mt 14 ls []) := by
      intro fuel
      induction fuel with
      | zero => intro i w Hp lcs ls hiN hr0 hfu; exact absurd hfu (Nat.not_lt_zero _)
      | succ fuel ih =>
        intro i w Hp lcs ls hiN hr0 hfu hM hl
        subst hr0
        refine lv_iload_n hx hb dX5_overridden_14 rfl (lv_at hl 3 rfl) ?_
        refine lv_aload_n hx hb dX5_overridden_15 rfl (lv_at hl 0 rfl) ?_
        refine mm_get (C := RX5) (T := TX5) (N := 7) (k := 0) hx hb hts (fun _ h => List.mem_cons_of_mem _ (List.mem_append_left _ (List.mem_append_left _ (List.mem_append_left _ (List.mem_append_right _ h))))) hown hK hM hO rfl (by decide) (hts (.fieldLink RX5 12 "SentenceRules" "now" "LSentenceRules$State;") (List.mem_of_getElem? (i := 2) rfl)) rfl rfl dX5_overridden_16 ?_
        refine mm_get (C := RX3) (T := TX3) (N := 4) (k := 0) hx hb hts (fun _ h => List.mem_cons_of_mem _ (List.mem_append_left _ (List.mem_append_left _ (List.mem_append_right _ h)))) hown hK hM hQ.1 rfl (by decide) (hts (.fieldLink RX5 86 "SentenceRules$State" "sentenceCount" "I") (List.mem_of_getElem? (i := 3) rfl)) rfl rfl dX5_overridden_19 ?_
        refine ln_icmp_ge i n (by omega) (by omega) (tgt := 74) hx hb dX5_overridden_22 (by decide) (fun cz2 => ?_) (fun cz2 => ?_)
        · refine lv_iload_n hx hb dX5_overridden_74 rfl (lv_at hl 2 rfl) ?_
          exact mm_iret hx hb hlocks hr (Nat.le_of_ble_eq_true rfl) (Nat.le_of_ble_eq_true rfl) hM (ret_v (by have hz : i = n := (by omega); subst hz; rw [if_pos cz1])) dX5_overridden_75
        refine lv_aload_n hx hb dX5_overridden_25 rfl (lv_at hl 0 rfl) ?_
        refine mm_get (C := RX5) (T := TX5) (N := 7) (k := 0) hx hb hts (fun _ h => List.mem_cons_of_mem _ (List.mem_append_left _ (List.mem_append_left _ (List.mem_append_left _ (List.mem_append_right _ h))))) hown hK hM hO rfl (by decide) (hts (.fieldLink RX5 12 "SentenceRules" "now" "LSentenceRules$State;") (List.mem_of_getElem? (i := 2) rfl)) rfl rfl dX5_overridden_26 ?_
        refine lv_iload_n hx hb dX5_overridden_29 rfl (lv_at hl 3 rfl) ?_
        refine lv_iload_n hx hb dX5_overridden_30 rfl (lv_at hl 1 rfl) ?_
        refine lv_aload_n hx hb dX5_overridden_31 rfl (lv_at hl 0 rfl) ?_
        refine mm_get (C := RX5) (T := TX5) (N := 7) (k := 0) hx hb hts (fun _ h => List.mem_cons_of_mem _ (List.mem_append_left _ (List.mem_append_left _ (List.mem_append_left _ (List.mem_append_right _ h))))) hown hK hM hO rfl (by decide) (hts (.fieldLink RX5 12 "SentenceRules" "now" "LSentenceRules$State;") (List.mem_of_getElem? (i := 2) rfl)) rfl rfl dX5_overridden_32 ?_
        refine mm_get (C := RX3) (T := TX3) (N := 4) (k := 2) hx hb hts (fun _ h => List.mem_cons_of_mem _ (List.mem_append_left _ (List.mem_append_left _ (List.mem_append_right _ h)))) hown hK hM hQ.1 rfl (by decide) (hts (.fieldLink RX5 158 "SentenceRules$State" "facts" "[I") (List.mem_of_getElem? (i := 4) rfl)) rfl rfl dX5_overridden_35 ?_
        refine lv_iconst (v := (-1)) hx hb dX5_overridden_38 (by decide +kernel) ?_
        refine mm_V (As := [.int (nI i), .int r, .ref fc, .int (-1)]) (rest := []) ⟨hx, hb, hml, hown, hts⟩ (c3_applies l G hQ hg i (by omega) r (-1)) (cwV 4 hts gX5_overridden_X3_applies rfl rfl rfl (by decide +kernel) ⟨Nat.le_of_ble_eq_true rfl, Nat.le_of_ble_eq_true rfl⟩) hK hE hA hM (mm_recv hK hM hQ.1 (q := (RX3, TX3, 4)) rfl) rfl hl.1 rfl (Nat.le_of_ble_eq_true rfl) dX5_overridden_39 ⟨Nat.le_of_ble_eq_true rfl, Nat.le_of_ble_eq_true rfl⟩ (fun v f1 Hp lcs hp hM => ?_)
        obtain ⟨rfl, hf⟩ := hp; subst hf
        refine lvb_eq (tgt := 68) hx hb dX5_overridden_42 (by decide) (fun cz3 => ?_) (fun cz3 => ?_)
        · refine lv_iinc (v := (nI (i + 1))) (lv' := [(3, .int (nI (i + 1))), (0, .ref o), (1, .int r), (2, .int (nI (cntN (fun k => appD g lo hi ab (-1) k r && exN (ovrQ g lo hi ab (-1) k r) n) i)))]) hx hb dX5_overridden_68 hl (k := 3) rfl (nI_add _ _) (by decide) rfl (fun ls hl => ?_)
          refine lv_goto (tgt := 14) hx hb dX5_overridden_71 (by decide) ?_
          exact ih (i + 1) _ _ _ ls (by omega) (by simp [cntN, cz2, cz3]) (by omega) hM (lv_sub hl [1, 2, 3, 0] rfl)
        refine lv_aload_n hx hb dX5_overridden_45 rfl (lv_at hl 0 rfl) ?_
        refine mm_get (C := RX5) (T := TX5) (N := 7) (k := 0) hx hb hts (fun _ h => List.mem_cons_of_mem _ (List.mem_append_left _ (List.mem_append_left _ (List.mem_append_left _ (List.mem_append_right _ h))))) hown hK hM hO rfl (by decide) (hts (.fieldLink RX5 12 "SentenceRules" "now" "LSentenceRules$State;") (List.mem_of_getElem? (i := 2) rfl)) rfl rfl dX5_overridden_46 ?_
        refine lv_iload_n hx hb dX5_overridden_49 rfl (lv_at hl 3 rfl) ?_
        refine lv_iload_n hx hb dX5_overridden_50 rfl (lv_at hl 1 rfl) ?_
        refine lv_aload_n hx hb dX5_overridden_51 rfl (lv_at hl 0 rfl) ?_
        refine mm_get (C := RX5) (T := TX5) (N := 7) (k := 0) hx hb hts (fun _ h => List.mem_cons_of_mem _ (List.mem_append_left _ (List.mem_append_left _ (List.mem_append_left _ (List.mem_append_right _ h))))) hown hK hM hO rfl (by decide) (hts (.fieldLink RX5 12 "SentenceRules" "now" "LSentenceRules$State;") (List.mem_of_getElem? (i := 2) rfl)) rfl rfl dX5_overridden_52 ?_
        refine mm_get (C := RX3) (T := TX3) (N := 4) (k := 2) hx hb hts (fun _ h => List.mem_cons_of_mem _ (List.mem_append_left _ (List.mem_append_left _ (List.mem_append_right _ h)))) hown hK hM hQ.1 rfl (by decide) (hts (.fieldLink RX5 158 "SentenceRules$State" "facts" "[I") (List.mem_of_getElem? (i := 4) rfl)) rfl rfl dX5_overridden_55 ?_
        refine lv_iconst (v := (-1)) hx hb dX5_overridden_58 (by decide +kernel) ?_
        refine mm_V (As := [.int (nI i), .int r, .ref fc, .int (-1)]) (rest := []) ⟨hx, hb, hml, hown, hts⟩ (c3_isOverridden l G hQ hg i (by omega) r (-1)) (cwV 4 hts gX5_overridden_X3_isOverridden rfl rfl rfl (by decide +kernel) ⟨Nat.le_of_ble_eq_true rfl, Nat.le_of_ble_eq_true rfl⟩) hK hE hA hM (mm_recv hK hM hQ.1 (q := (RX3, TX3, 4)) rfl) rfl hl.1 rfl (Nat.le_of_ble_eq_true rfl) dX5_overridden_59 ⟨Nat.le_of_ble_eq_true rfl, Nat.le_of_ble_eq_true rfl⟩ (fun v f1 Hp lcs hp hM => ?_)
        obtain ⟨rfl, hf⟩ := hp; subst hf
        refine lvb_eq (tgt := 68) hx hb dX5_overridden_62 (by decide) (fun cz4 => ?_) (fun cz4 => ?_)
        · refine lv_iinc (v := (nI (i + 1))) (lv' := [(3, .int (nI (i + 1))), (0, .ref o), (1, .int r), (2, .int (nI (cntN (fun k => appD g lo hi ab (-1) k r && exN (ovrQ g lo hi ab (-1) k r) n) i)))]) hx hb dX5_overridden_68 hl (k := 3) rfl (nI_add _ _) (by decide) rfl (fun ls hl => ?_)
          refine lv_goto (tgt := 14) hx hb dX5_overridden_71 (by decide) ?_
          exact ih (i + 1) _ _ _ ls (by omega) (by simp [cntN, cz2, cz3, cz4]) (by omega) hM (lv_sub hl [1, 2, 3, 0] rfl)
        refine lv_iinc (v := (nI (cntN (fun k => appD g lo hi ab (-1) k r && exN (ovrQ g lo hi ab (-1) k r) n) i + 1))) (lv' := [(2, .int (nI (cntN (fun k => appD g lo hi ab (-1) k r && exN (ovrQ g lo hi ab (-1) k r) n) i + 1))), (0, .ref o), (1, .int r), (3, .int (nI i))]) hx hb dX5_overridden_65 hl (k := 2) rfl (nI_add _ _) (by decide) rfl (fun ls hl => ?_)
        refine lv_iinc (v := (nI (i + 1))) (lv' := [(3, .int (nI (i + 1))), (2, .int (nI (cntN (fun k => appD g lo hi ab (-1) k r && exN (ovrQ g lo hi ab (-1) k r) n) i + 1))), (0, .ref o), (1, .int r)]) hx hb dX5_overridden_68 hl (k := 3) rfl (nI_add _ _) (by decide) rfl (fun ls hl => ?_)
        refine lv_goto (tgt := 14) hx hb dX5_overridden_71 (by decide) ?_
        exact ih (i + 1) _ _ _ ls (by omega) (by simp [cntN, cz2, cz3, cz4]) (by omega) hM (lv_sub hl [2, 3, 1, 0] rfl)
    exact loopZ (n + 1) 0 0 _ _ ls (Nat.zero_le _) rfl (by omega) hM (lv_sub hl [2, 3, 1, 0] rfl)
  refine lv_ldc (v := (-100002)) hx hb hown (hts (.constant RX5 41 (-100002)) (List.mem_of_getElem? (i := 1) rfl)) dX5_overridden_7 ?_
  exact mm_iret hx hb hlocks hr (Nat.le_of_ble_eq_true rfl) (Nat.le_of_ble_eq_true rfl) hM (ret_v (by rw [if_neg (by rw [cz1]; decide)])) dX5_overridden_9
set_option maxHeartbeats 4000000 in
set_option maxRecDepth 100000 in
theorem c5_holds (l : Launch) (G : mG) {f : mE} {o q0 b fc pr n ra rd sp rr sb : Nat} {rc : Int32} {B : Nat → Option Nat} {X rg pa qa tk : Nat → Nat} {lo hi : Nat → Nat → Int32} {ab gv us g : Nat → Int32} (hO : f o = some (.inr (6, [.ref q0, .ref ra, .int rc, .ref rd, .ref sp, .ref rr, .ref sb]))) (hQ : StQ G f q0 b fc pr n B X rg pa qa tk lo hi ab gv us) (hg : f fc = some (mI G 7 g)) (w : Int32) : mC l G yX5_holds wsX5_holds ({ frames := 2, cells := 0, slots := 0, locals := 44 } : Room) f [.ref o, .int w] (fun v f1 => v = some (.int (if inB w 0 5 = true then (if firN (defD ab w) n < n then bI (allN (hasR g (lo (firN (defD ab w) n)) (hi (firN (defD ab w) n))) 7) else -100005) else -100002)) ∧ f = f1) 0 0 := by
  refine mC.of (cc := cX5_holds) (maxL := 3) (ret := (some .int)) (by decide) rfl (Nat.le_of_ble_eq_true rfl) ?_
  intro pgm env s mt args below meth c A ls hx hb hml hr hlocks hown hname hts hK hE hA hM hl
  have hl : lv_has ls 3 [(0, .ref o), (1, .int w)] := hl
  have hn16 := hQ.2.2.1
  refine lv_iload_n hx hb dX5_holds_0 rfl (lv_at hl 1 rfl) ?_
  refine mm_S (As := [.int w]) (rest := []) ⟨hx, hb, hml, hown, hts⟩ (c5_isDefinable l G _ w) (va_cwS 1 hts gX5_holds_X5_isDefinable rfl rfl rfl (by decide +kernel) ⟨Nat.le_of_ble_eq_true rfl, Nat.le_of_ble_eq_true rfl⟩) hK hE hA hM rfl hl.1 rfl (Nat.le_of_ble_eq_true rfl) dX5_holds_1 ⟨Nat.le_of_ble_eq_true rfl, Nat.le_of_ble_eq_true rfl⟩ (fun v f1 Hp lcs hp hM => ?_)
  obtain ⟨rfl, hf⟩ := hp; subst hf
  refine lvb_ne (tgt := 10) hx hb dX5_holds_4 (by decide) (fun cz1 => ?_) (fun cz1 => ?_)
  · refine lv_aload_n hx hb dX5_holds_10 rfl (lv_at hl 0 rfl) ?_
    refine mm_get (C := RX5) (T := TX5) (N := 7) (k := 0) hx hb hts (fun _ h => List.mem_cons_of_mem _ (List.mem_append_left _ (List.mem_append_left _ (List.mem_append_left _ (List.mem_append_right _ h))))) hown hK hM hO rfl (by decide) (hts (.fieldLink RX5 12 "SentenceRules" "now" "LSentenceRules$State;") (List.mem_of_getElem? (i := 2) rfl)) rfl rfl dX5_holds_11 ?_
    refine lv_aload_n hx hb dX5_holds_14 rfl (lv_at hl 0 rfl) ?_
    refine mm_get (C := RX5) (T := TX5) (N := 7) (k := 0) hx hb hts (fun _ h => List.mem_cons_of_mem _ (List.mem_append_left _ (List.mem_append_left _ (List.mem_append_left _ (List.mem_append_right _ h))))) hown hK hM hO rfl (by decide) (hts (.fieldLink RX5 12 "SentenceRules" "now" "LSentenceRules$State;") (List.mem_of_getElem? (i := 2) rfl)) rfl rfl dX5_holds_15 ?_
    refine lv_iload_n hx hb dX5_holds_18 rfl (lv_at hl 1 rfl) ?_
    refine mm_V (As := [.int w]) (rest := [.ref q0]) ⟨hx, hb, hml, hown, hts⟩ (c3_definitionOf l G hQ w) (cwV 1 hts gX5_holds_X3_definitionOf rfl rfl rfl (by decide +kernel) ⟨Nat.le_of_ble_eq_true rfl, Nat.le_of_ble_eq_true rfl⟩) hK hE hA hM (mm_recv hK hM hQ.1 (q := (RX3, TX3, 4)) rfl) rfl hl.1 rfl (Nat.le_of_ble_eq_true rfl) dX5_holds_19 ⟨Nat.le_of_ble_eq_true rfl, Nat.le_of_ble_eq_true rfl⟩ (fun v f1 Hp lcs hp hM => ?_)
    obtain ⟨rfl, hf⟩ := hp; subst hf
    by_cases hd : (firN (defD ab w) n) < n
    · refine mv_top (y := (nI (firN (defD ab w) n))) (if_pos hd) ?_
      refine mm_V (As := [.int (nI (firN (defD ab w) n))]) (rest := []) ⟨hx, hb, hml, hown, hts⟩ (c3_sentenceAt l G hQ (firN (defD ab w) n) hd) (cwV 1 hts gX5_holds_X3_sentenceAt rfl rfl rfl (by decide +kernel) ⟨Nat.le_of_ble_eq_true rfl, Nat.le_of_ble_eq_true rfl⟩) hK hE hA hM (mm_recv hK hM hQ.1 (q := (RX3, TX3, 4)) rfl) rfl hl.1 rfl (Nat.le_of_ble_eq_true rfl) dX5_holds_22 ⟨Nat.le_of_ble_eq_true rfl, Nat.le_of_ble_eq_true rfl⟩ (fun v f1 Hp lcs hp hM => ?_)
      obtain ⟨rfl, hf⟩ := hp; subst hf
      have hz2 := hQ.2.2.2 (firN (defD ab w) n) hd
      refine lv_astore_n (lv' := [(2, .ref (X (firN (defD ab w) n))), (0, .ref o), (1, .int w)]) hx hb dX5_holds_25 rfl hl (by decide) rfl (fun ls hl => ?_)
      refine lv_aload_n hx hb dX5_holds_26 rfl (lv_at hl 0 rfl) ?_
      refine lv_ifnonnull (tgt := 33) hx hb dX5_holds_27 (by decide) ?_
      refine lv_aload_n hx hb dX5_holds_33 rfl (lv_at hl 0 rfl) ?_
      refine mm_get (C := RX2) (T := TX2) (N := 5) (k := 1) hx hb hts (fun _ h => List.mem_cons_of_mem _ (List.mem_append_left _ (List.mem_append_left _ (List.mem_append_right _ h)))) hown hK hM hz2.2.1 rfl (by decide) (hts (.fieldLink RX5 135 "SentenceRules$Sentence" "region" "LSentenceRules$Region;") (List.mem_of_getElem? (i := 4) rfl)) rfl rfl dX5_holds_34 ?_
      refine lv_aload_n hx hb dX5_holds_37 rfl (lv_at hl 1 rfl) ?_
      refine mm_get (C := RX5) (T := TX5) (N := 7) (k := 0) hx hb hts (fun _ h => List.mem_cons_of_mem _ (List.mem_append_left _ (List.mem_append_left _ (List.mem_append_left _ (List.mem_append_right _ h))))) hown hK hM hO rfl (by decide) (hts (.fieldLink RX5 12 "SentenceRules" "now" "LSentenceRules$State;") (List.mem_of_getElem? (i := 2) rfl)) rfl rfl dX5_holds_38 ?_
      refine mm_get (C := RX3) (T := TX3) (N := 4) (k := 2) hx hb hts (fun _ h => List.mem_cons_of_mem _ (List.mem_append_left _ (List.mem_append_right _ h))) hown hK hM hQ.1 rfl (by decide) (hts (.fieldLink RX5 158 "SentenceRules$State" "facts" "[I") (List.mem_of_getElem? (i := 5) rfl)) rfl rfl dX5_holds_41 ?_
      refine mm_V (As := [.ref fc]) (rest := []) ⟨hx, hb, hml, hown, hts⟩ (c1_hasValues l G hz2.2.2.1 hz2.2.2.2.1 hz2.2.2.2.2 hg) (cwV 1 hts gX5_holds_X1_hasValues rfl rfl rfl (by decide +kernel) ⟨Nat.le_of_ble_eq_true rfl, Nat.le_of_ble_eq_true rfl⟩) hK hE hA hM (mm_recv hK hM hz2.2.2.1 (q := (RX1, TX1, 2)) rfl) rfl hl.1 rfl (Nat.le_of_ble_eq_true rfl) dX5_holds_44 ⟨Nat.le_of_ble_eq_true rfl, Nat.le_of_ble_eq_true rfl⟩ (fun v f1 Hp lcs hp hM => ?_)
      obtain ⟨rfl, hf⟩ := hp; subst hf
      refine lvb_eq (tgt := 54) hx hb dX5_holds_47 (by decide) (fun cz3 => ?_) (fun cz3 => ?_)
      · refine lv_iconst (v := (nI 0)) hx hb dX5_holds_54 (by decide +kernel) ?_
        exact mm_iret hx hb hlocks hr (Nat.le_of_ble_eq_true rfl) (Nat.le_of_ble_eq_true rfl) hM (ret_v (by rw [if_pos cz1, if_pos hd, cz3]; rfl)) dX5_holds_55
      refine lv_iconst (v := (nI 1)) hx hb dX5_holds_50 (by decide +kernel) ?_
      refine lv_goto (tgt := 55) hx hb dX5_holds_51 (by decide) ?_
      exact mm_iret hx hb hlocks hr (Nat.le_of_ble_eq_true rfl) (Nat.le_of_ble_eq_true rfl) hM (ret_v (by rw [if_pos cz1, if_pos hd, cz3]; rfl)) dX5_holds_55
    · refine mv_top (y := (-1)) (if_neg hd) ?_
      refine mm_V (As := [.int (-1)]) (rest := []) ⟨hx, hb, hml, hown, hts⟩ (c3_sentenceAtN l G hQ (-1) (Or.inl (by decide))) (cwV 1 hts gX5_holds_X3_sentenceAt rfl rfl rfl (by decide +kernel) ⟨Nat.le_of_ble_eq_true rfl, Nat.le_of_ble_eq_true rfl⟩) hK hE hA hM (mm_recv hK hM hQ.1 (q := (RX3, TX3, 4)) rfl) rfl hl.1 rfl (Nat.le_of_ble_eq_true rfl) dX5_holds_22 ⟨Nat.le_of_ble_eq_true rfl, Nat.le_of_ble_eq_true rfl⟩ (fun v f1 Hp lcs hp hM => ?_)
      obtain ⟨rfl, hf⟩ := hp; subst hf
      refine lv_astore_nN (lv' := [(2, .null), (0, .ref o), (1, .int w)]) hx hb dX5_holds_25 rfl hl (by decide) rfl (fun ls hl => ?_)
      refine lv_aload_nN hx hb dX5_holds_26 rfl (lv_at hl 0 rfl) ?_
      refine lv_ifnonnullN hx hb dX5_holds_27 ?_
      refine lv_ldc (v := (-100005)) hx hb hown (hts (.constant RX5 105 (-100005)) (List.mem_of_getElem? (i := 3) rfl)) dX5_holds_30 ?_
      exact mm_iret hx hb hlocks hr (Nat.le_of_ble_eq_true rfl) (Nat.le_of_ble_eq_true rfl) hM (ret_v (by rw [if_pos cz1, if_neg hd])) dX5_holds_32
  refine lv_ldc (v := (-100002)) hx hb hown (hts (.constant RX5 41 (-100002)) (List.mem_of_getElem? (i := 1) rfl)) dX5_holds_7 ?_
  exact mm_iret hx hb hlocks hr (Nat.le_of_ble_eq_true rfl) (Nat.le_of_ble_eq_true rfl) hM (ret_v (by rw [if_neg (by rw [cz1]; decide)])) dX5_holds_9
set_option maxHeartbeats 4000000 in
set_option maxRecDepth 100000 in
theorem c5_compare (l : Launch) (G : mG) {f : mE} {o q0 b fc pr n ra rd sp rr sb : Nat} {rc : Int32} {B : Nat → Option Nat} {X rg pa qa tk : Nat → Nat} {lo hi : Nat → Nat → Int32} {ab gv us g : Nat → Int32} (hO : f o = some (.inr (6, [.ref q0, .ref ra, .int rc, .ref rd, .ref sp, .ref rr, .ref sb]))) (hQ : StQ G f q0 b fc pr n B X rg pa qa tk lo hi ab gv us) (hg : f fc = some (mI G 7 g)) (k x : Int32) : mC l G yX5_compare wsX5_compare ({ frames := 2, cells := 0, slots := 0, locals := 43 } : Room) f [.ref o, .int k, .int x] (fun v f1 => v = some (.int (tolN n k (fun j => tolN n x (fun i => cmpD lo hi j i)))) ∧ f = f1) 0 0 := by
  refine mC.of (cc := cX5_compare) (maxL := 5) (ret := (some .int)) (by decide) rfl (Nat.le_of_ble_eq_true rfl) ?_
  intro pgm env s mt args below meth c A ls hx hb hml hr hlocks hown hname hts hK hE hA hM hl
  have hl : lv_has ls 5 [(0, .ref o), (1, .int k), (2, .int x)] := hl
  have hn16 := hQ.2.2.1
  refine lv_aload_n hx hb dX5_compare_0 rfl (lv_at hl 0 rfl) ?_
  refine mm_get (C := RX5) (T := TX5) (N := 7) (k := 0) hx hb hts (fun _ h => List.mem_cons_of_mem _ (List.mem_append_left _ (List.mem_append_left _ (List.mem_append_left _ (List.mem_append_right _ h))))) hown hK hM hO rfl (by decide) (hts (.fieldLink RX5 12 "SentenceRules" "now" "LSentenceRules$State;") (List.mem_of_getElem? (i := 1) rfl)) rfl rfl dX5_compare_1 ?_
  refine lv_iload_n hx hb dX5_compare_4 rfl (lv_at hl 1 rfl) ?_
  rcases sen_cases hn16 k with ⟨j, jN, rfl⟩ | hz1
  · refine mm_V (As := [.int (nI j)]) (rest := []) ⟨hx, hb, hml, hown, hts⟩ (c3_sentenceAt l G hQ j (by omega)) (cwV 1 hts gX5_compare_X3_sentenceAt rfl rfl rfl (by decide +kernel) ⟨Nat.le_of_ble_eq_true rfl, Nat.le_of_ble_eq_true rfl⟩) hK hE hA hM (mm_recv hK hM hQ.1 (q := (RX3, TX3, 4)) rfl) rfl hl.1 rfl (Nat.le_of_ble_eq_true rfl) dX5_compare_5 ⟨Nat.le_of_ble_eq_true rfl, Nat.le_of_ble_eq_true rfl⟩ (fun v f1 Hp lcs hp hM => ?_)
    obtain ⟨rfl, hf⟩ := hp; subst hf
    have hz2 := hQ.2.2.2 j (by omega)
    refine lv_astore_n (lv' := [(3, .ref (X j)), (0, .ref o), (1, .int (nI j)), (2, .int x)]) hx hb dX5_compare_8 rfl hl (by decide) rfl (fun ls hl => ?_)
    refine lv_aload_n hx hb dX5_compare_9 rfl (lv_at hl 1 rfl) ?_
    refine mm_get (C := RX5) (T := TX5) (N := 7) (k := 0) hx hb hts (fun _ h => List.mem_cons_of_mem _ (List.mem_append_left _ (List.mem_append_left _ (List.mem_append_left _ (List.mem_append_right _ h))))) hown hK hM hO rfl (by decide) (hts (.fieldLink RX5 12 "SentenceRules" "now" "LSentenceRules$State;") (List.mem_of_getElem? (i := 1) rfl)) rfl rfl dX5_compare_10 ?_
    refine lv_iload_n hx hb dX5_compare_13 rfl (lv_at hl 3 rfl) ?_
    rcases sen_cases hn16 x with ⟨i, iN, rfl⟩ | hz3
    · refine mm_V (As := [.int (nI i)]) (rest := []) ⟨hx, hb, hml, hown, hts⟩ (c3_sentenceAt l G hQ i (by omega)) (cwV 1 hts gX5_compare_X3_sentenceAt rfl rfl rfl (by decide +kernel) ⟨Nat.le_of_ble_eq_true rfl, Nat.le_of_ble_eq_true rfl⟩) hK hE hA hM (mm_recv hK hM hQ.1 (q := (RX3, TX3, 4)) rfl) rfl hl.1 rfl (Nat.le_of_ble_eq_true rfl) dX5_compare_14 ⟨Nat.le_of_ble_eq_true rfl, Nat.le_of_ble_eq_true rfl⟩ (fun v f1 Hp lcs hp hM => ?_)
      obtain ⟨rfl, hf⟩ := hp; subst hf
      have hz4 := hQ.2.2.2 i (by omega)
      refine lv_astore (lv' := [(4, .ref (X i)), (3, .ref (X j)), (0, .ref o), (1, .int (nI j)), (2, .int (nI i))]) hx hb dX5_compare_17 hl (by decide) rfl (fun ls hl => ?_)
      refine lv_aload_n hx hb dX5_compare_19 rfl (lv_at hl 1 rfl) ?_
      refine lv_ifnull hx hb dX5_compare_20 ?_
      refine lv_aload hx hb dX5_compare_23 (lv_at hl 0 rfl) ?_
      refine lv_ifnonnull (tgt := 31) hx hb dX5_compare_25 (by decide) ?_
      refine lv_aload_n hx hb dX5_compare_31 rfl (lv_at hl 1 rfl) ?_
      refine mm_get (C := RX2) (T := TX2) (N := 5) (k := 1) hx hb hts (fun _ h => List.mem_cons_of_mem _ (List.mem_append_left _ (List.mem_append_left _ (List.mem_append_right _ h)))) hown hK hM hz2.2.1 rfl (by decide) (hts (.fieldLink RX5 135 "SentenceRules$Sentence" "region" "LSentenceRules$Region;") (List.mem_of_getElem? (i := 3) rfl)) rfl rfl dX5_compare_32 ?_
      refine lv_aload hx hb dX5_compare_35 (lv_at hl 0 rfl) ?_
      refine mm_get (C := RX2) (T := TX2) (N := 5) (k := 1) hx hb hts (fun _ h => List.mem_cons_of_mem _ (List.mem_append_left _ (List.mem_append_left _ (List.mem_append_right _ h)))) hown hK hM hz4.2.1 rfl (by decide) (hts (.fieldLink RX5 135 "SentenceRules$Sentence" "region" "LSentenceRules$Region;") (List.mem_of_getElem? (i := 3) rfl)) rfl rfl dX5_compare_37 ?_
      refine mm_V (As := [.ref (rg i)]) (rest := []) ⟨hx, hb, hml, hown, hts⟩ (c1_isSameAs l G hz2.2.2.1 hz2.2.2.2.1 hz2.2.2.2.2 hz4.2.2.1 hz4.2.2.2.1 hz4.2.2.2.2) (cwV 1 hts gX5_compare_X1_isSameAs rfl rfl rfl (by decide +kernel) ⟨Nat.le_of_ble_eq_true rfl, Nat.le_of_ble_eq_true rfl⟩) hK hE hA hM (mm_recv hK hM hz2.2.2.1 (q := (RX1, TX1, 2)) rfl) rfl hl.1 rfl (Nat.le_of_ble_eq_true rfl) dX5_compare_40 ⟨Nat.le_of_ble_eq_true rfl, Nat.le_of_ble_eq_true rfl⟩ (fun v f1 Hp lcs hp hM => ?_)
      obtain ⟨rfl, hf⟩ := hp; subst hf
      refine lvb_eq (tgt := 48) hx hb dX5_compare_43 (by decide) (fun cz5 => ?_) (fun cz5 => ?_)
      · refine lv_aload_n hx hb dX5_compare_48 rfl (lv_at hl 1 rfl) ?_
        refine mm_get (C := RX2) (T := TX2) (N := 5) (k := 1) hx hb hts (fun _ h => List.mem_cons_of_mem _ (List.mem_append_left _ (List.mem_append_left _ (List.mem_append_right _ h)))) hown hK hM hz2.2.1 rfl (by decide) (hts (.fieldLink RX5 135 "SentenceRules$Sentence" "region" "LSentenceRules$Region;") (List.mem_of_getElem? (i := 3) rfl)) rfl rfl dX5_compare_49 ?_
        refine lv_aload hx hb dX5_compare_52 (lv_at hl 0 rfl) ?_
        refine mm_get (C := RX2) (T := TX2) (N := 5) (k := 1) hx hb hts (fun _ h => List.mem_cons_of_mem _ (List.mem_append_left _ (List.mem_append_left _ (List.mem_append_right _ h)))) hown hK hM hz4.2.1 rfl (by decide) (hts (.fieldLink RX5 135 "SentenceRules$Sentence" "region" "LSentenceRules$Region;") (List.mem_of_getElem? (i := 3) rfl)) rfl rfl dX5_compare_54 ?_
        refine mm_V (As := [.ref (rg i)]) (rest := []) ⟨hx, hb, hml, hown, hts⟩ (c1_isInside l G hz2.2.2.1 hz2.2.2.2.1 hz2.2.2.2.2 hz4.2.2.1 hz4.2.2.2.1 hz4.2.2.2.2) (cwV 1 hts gX5_compare_X1_isInside rfl rfl rfl (by decide +kernel) ⟨Nat.le_of_ble_eq_true rfl, Nat.le_of_ble_eq_true rfl⟩) hK hE hA hM (mm_recv hK hM hz2.2.2.1 (q := (RX1, TX1, 2)) rfl) rfl hl.1 rfl (Nat.le_of_ble_eq_true rfl) dX5_compare_57 ⟨Nat.le_of_ble_eq_true rfl, Nat.le_of_ble_eq_true rfl⟩ (fun v f1 Hp lcs hp hM => ?_)
        obtain ⟨rfl, hf⟩ := hp; subst hf
        refine lvb_eq (tgt := 65) hx hb dX5_compare_60 (by decide) (fun cz6 => ?_) (fun cz6 => ?_)
        · refine lv_aload hx hb dX5_compare_65 (lv_at hl 0 rfl) ?_
          refine mm_get (C := RX2) (T := TX2) (N := 5) (k := 1) hx hb hts (fun _ h => List.mem_cons_of_mem _ (List.mem_append_left _ (List.mem_append_left _ (List.mem_append_right _ h)))) hown hK hM hz4.2.1 rfl (by decide) (hts (.fieldLink RX5 135 "SentenceRules$Sentence" "region" "LSentenceRules$Region;") (List.mem_of_getElem? (i := 3) rfl)) rfl rfl dX5_compare_67 ?_
          refine lv_aload_n hx hb dX5_compare_70 rfl (lv_at hl 1 rfl) ?_
          refine mm_get (C := RX2) (T := TX2) (N := 5) (k := 1) hx hb hts (fun _ h => List.mem_cons_of_mem _ (List.mem_append_left _ (List.mem_append_left _ (List.mem_append_right _ h)))) hown hK hM hz2.2.1 rfl (by decide) (hts (.fieldLink RX5 135 "SentenceRules$Sentence" "region" "LSentenceRules$Region;") (List.mem_of_getElem? (i := 3) rfl)) rfl rfl dX5_compare_71 ?_
          refine mm_V (As := [.ref (rg j)]) (rest := []) ⟨hx, hb, hml, hown, hts⟩ (c1_isInside l G hz4.2.2.1 hz4.2.2.2.1 hz4.2.2.2.2 hz2.2.2.1 hz2.2.2.2.1 hz2.2.2.2.2) (cwV 1 hts gX5_compare_X1_isInside rfl rfl rfl (by decide +kernel) ⟨Nat.le_of_ble_eq_true rfl, Nat.le_of_ble_eq_true rfl⟩) hK hE hA hM (mm_recv hK hM hz4.2.2.1 (q := (RX1, TX1, 2)) rfl) rfl hl.1 rfl (Nat.le_of_ble_eq_true rfl) dX5_compare_74 ⟨Nat.le_of_ble_eq_true rfl, Nat.le_of_ble_eq_true rfl⟩ (fun v f1 Hp lcs hp hM => ?_)
          obtain ⟨rfl, hf⟩ := hp; subst hf
          refine lvb_eq (tgt := 82) hx hb dX5_compare_77 (by decide) (fun cz7 => ?_) (fun cz7 => ?_)
          · refine lv_aload_n hx hb dX5_compare_82 rfl (lv_at hl 1 rfl) ?_
            refine mm_get (C := RX2) (T := TX2) (N := 5) (k := 1) hx hb hts (fun _ h => List.mem_cons_of_mem _ (List.mem_append_left _ (List.mem_append_left _ (List.mem_append_right _ h)))) hown hK hM hz2.2.1 rfl (by decide) (hts (.fieldLink RX5 135 "SentenceRules$Sentence" "region" "LSentenceRules$Region;") (List.mem_of_getElem? (i := 3) rfl)) rfl rfl dX5_compare_83 ?_
            refine lv_aload hx hb dX5_compare_86 (lv_at hl 0 rfl) ?_
            refine mm_get (C := RX2) (T := TX2) (N := 5) (k := 1) hx hb hts (fun _ h => List.mem_cons_of_mem _ (List.mem_append_left _ (List.mem_append_left _ (List.mem_append_right _ h)))) hown hK hM hz4.2.1 rfl (by decide) (hts (.fieldLink RX5 135 "SentenceRules$Sentence" "region" "LSentenceRules$Region;") (List.mem_of_getElem? (i := 3) rfl)) rfl rfl dX5_compare_88 ?_
            refine mm_V (As := [.ref (rg i)]) (rest := []) ⟨hx, hb, hml, hown, hts⟩ (c1_meets l G hz2.2.2.1 hz2.2.2.2.1 hz2.2.2.2.2 hz4.2.2.1 hz4.2.2.2.1 hz4.2.2.2.2) (cwV 1 hts gX5_compare_X1_meets rfl rfl rfl (by decide +kernel) ⟨Nat.le_of_ble_eq_true rfl, Nat.le_of_ble_eq_true rfl⟩) hK hE hA hM (mm_recv hK hM hz2.2.2.1 (q := (RX1, TX1, 2)) rfl) rfl hl.1 rfl (Nat.le_of_ble_eq_true rfl) dX5_compare_91 ⟨Nat.le_of_ble_eq_true rfl, Nat.le_of_ble_eq_true rfl⟩ (fun v f1 Hp lcs hp hM => ?_)
            obtain ⟨rfl, hf⟩ := hp; subst hf
            refine lvb_eq (tgt := 101) hx hb dX5_compare_94 (by decide) (fun cz8 => ?_) (fun cz8 => ?_)
            · refine lv_iconst (v := (nI 4)) hx hb dX5_compare_101 (by decide +kernel) ?_
              exact mm_iret hx hb hlocks hr (Nat.le_of_ble_eq_true rfl) (Nat.le_of_ble_eq_true rfl) hM (ret_v (cmN_at hn16 jN iN (by clear hO hQ hg hM hK hE hA; simp_all [cmpD]))) dX5_compare_102
            refine lv_iconst (v := (nI 3)) hx hb dX5_compare_97 (by decide +kernel) ?_
            refine lv_goto (tgt := 102) hx hb dX5_compare_98 (by decide) ?_
            exact mm_iret hx hb hlocks hr (Nat.le_of_ble_eq_true rfl) (Nat.le_of_ble_eq_true rfl) hM (ret_v (cmN_at hn16 jN iN (by clear hO hQ hg hM hK hE hA; simp_all [cmpD]))) dX5_compare_102
          refine lv_iconst (v := (nI 2)) hx hb dX5_compare_80 (by decide +kernel) ?_
          exact mm_iret hx hb hlocks hr (Nat.le_of_ble_eq_true rfl) (Nat.le_of_ble_eq_true rfl) hM (ret_v (cmN_at hn16 jN iN (by clear hO hQ hg hM hK hE hA; simp_all [cmpD]))) dX5_compare_81
        refine lv_iconst (v := (nI 1)) hx hb dX5_compare_63 (by decide +kernel) ?_
        exact mm_iret hx hb hlocks hr (Nat.le_of_ble_eq_true rfl) (Nat.le_of_ble_eq_true rfl) hM (ret_v (cmN_at hn16 jN iN (by clear hO hQ hg hM hK hE hA; simp_all [cmpD]))) dX5_compare_64
      refine lv_iconst (v := (nI 0)) hx hb dX5_compare_46 (by decide +kernel) ?_
      exact mm_iret hx hb hlocks hr (Nat.le_of_ble_eq_true rfl) (Nat.le_of_ble_eq_true rfl) hM (ret_v (cmN_at hn16 jN iN (by clear hO hQ hg hM hK hE hA; simp_all [cmpD]))) dX5_compare_47
    · refine mm_V (As := [.int x]) (rest := []) ⟨hx, hb, hml, hown, hts⟩ (c3_sentenceAtN l G hQ x hz3) (cwV 1 hts gX5_compare_X3_sentenceAt rfl rfl rfl (by decide +kernel) ⟨Nat.le_of_ble_eq_true rfl, Nat.le_of_ble_eq_true rfl⟩) hK hE hA hM (mm_recv hK hM hQ.1 (q := (RX3, TX3, 4)) rfl) rfl hl.1 rfl (Nat.le_of_ble_eq_true rfl) dX5_compare_14 ⟨Nat.le_of_ble_eq_true rfl, Nat.le_of_ble_eq_true rfl⟩ (fun v f1 Hp lcs hp hM => ?_)
      obtain ⟨rfl, hf⟩ := hp; subst hf
      refine lv_astoreN (lv' := [(4, .null), (3, .ref (X j)), (0, .ref o), (1, .int (nI j)), (2, .int x)]) hx hb dX5_compare_17 hl (by decide) rfl (fun ls hl => ?_)
      refine lv_aload_n hx hb dX5_compare_19 rfl (lv_at hl 1 rfl) ?_
      refine lv_ifnull hx hb dX5_compare_20 ?_
      refine lv_aloadN hx hb dX5_compare_23 (lv_at hl 0 rfl) ?_
      refine lv_ifnonnullN hx hb dX5_compare_25 ?_
      refine lv_ldc (v := (-100001)) hx hb hown (hts (.constant RX5 140 (-100001)) (List.mem_of_getElem? (i := 2) rfl)) dX5_compare_28 ?_
      exact mm_iret hx hb hlocks hr (Nat.le_of_ble_eq_true rfl) (Nat.le_of_ble_eq_true rfl) hM (ret_v (cmN_no2 hn16 jN hz3)) dX5_compare_30
  · refine mm_V (As := [.int k]) (rest := []) ⟨hx, hb, hml, hown, hts⟩ (c3_sentenceAtN l G hQ k hz1) (cwV 1 hts gX5_compare_X3_sentenceAt rfl rfl rfl (by decide +kernel) ⟨Nat.le_of_ble_eq_true rfl, Nat.le_of_ble_eq_true rfl⟩) hK hE hA hM (mm_recv hK hM hQ.1 (q := (RX3, TX3, 4)) rfl) rfl hl.1 rfl (Nat.le_of_ble_eq_true rfl) dX5_compare_5 ⟨Nat.le_of_ble_eq_true rfl, Nat.le_of_ble_eq_true rfl⟩ (fun v f1 Hp lcs hp hM => ?_)
    obtain ⟨rfl, hf⟩ := hp; subst hf
    refine lv_astore_nN (lv' := [(3, .null), (0, .ref o), (1, .int k), (2, .int x)]) hx hb dX5_compare_8 rfl hl (by decide) rfl (fun ls hl => ?_)
    refine lv_aload_n hx hb dX5_compare_9 rfl (lv_at hl 1 rfl) ?_
    refine mm_get (C := RX5) (T := TX5) (N := 7) (k := 0) hx hb hts (fun _ h => List.mem_cons_of_mem _ (List.mem_append_left _ (List.mem_append_left _ (List.mem_append_left _ (List.mem_append_right _ h))))) hown hK hM hO rfl (by decide) (hts (.fieldLink RX5 12 "SentenceRules" "now" "LSentenceRules$State;") (List.mem_of_getElem? (i := 1) rfl)) rfl rfl dX5_compare_10 ?_
    refine lv_iload_n hx hb dX5_compare_13 rfl (lv_at hl 3 rfl) ?_
    rcases sen_cases hn16 x with ⟨i, iN, rfl⟩ | hz9
    · refine mm_V (As := [.int (nI i)]) (rest := []) ⟨hx, hb, hml, hown, hts⟩ (c3_sentenceAt l G hQ i (by omega)) (cwV 1 hts gX5_compare_X3_sentenceAt rfl rfl rfl (by decide +kernel) ⟨Nat.le_of_ble_eq_true rfl, Nat.le_of_ble_eq_true rfl⟩) hK hE hA hM (mm_recv hK hM hQ.1 (q := (RX3, TX3, 4)) rfl) rfl hl.1 rfl (Nat.le_of_ble_eq_true rfl) dX5_compare_14 ⟨Nat.le_of_ble_eq_true rfl, Nat.le_of_ble_eq_true rfl⟩ (fun v f1 Hp lcs hp hM => ?_)
      obtain ⟨rfl, hf⟩ := hp; subst hf
      have hz10 := hQ.2.2.2 i (by omega)
      refine lv_astore (lv' := [(4, .ref (X i)), (3, .null), (0, .ref o), (1, .int k), (2, .int (nI i))]) hx hb dX5_compare_17 hl (by decide) rfl (fun ls hl => ?_)
      refine lv_aload_nN hx hb dX5_compare_19 rfl (lv_at hl 1 rfl) ?_
      refine lv_ifnullN (tgt := 28) hx hb dX5_compare_20 (by decide) ?_
      refine lv_ldc (v := (-100001)) hx hb hown (hts (.constant RX5 140 (-100001)) (List.mem_of_getElem? (i := 2) rfl)) dX5_compare_28 ?_
      exact mm_iret hx hb hlocks hr (Nat.le_of_ble_eq_true rfl) (Nat.le_of_ble_eq_true rfl) hM (ret_v (cmN_no1 hz1)) dX5_compare_30
    · refine mm_V (As := [.int x]) (rest := []) ⟨hx, hb, hml, hown, hts⟩ (c3_sentenceAtN l G hQ x hz9) (cwV 1 hts gX5_compare_X3_sentenceAt rfl rfl rfl (by decide +kernel) ⟨Nat.le_of_ble_eq_true rfl, Nat.le_of_ble_eq_true rfl⟩) hK hE hA hM (mm_recv hK hM hQ.1 (q := (RX3, TX3, 4)) rfl) rfl hl.1 rfl (Nat.le_of_ble_eq_true rfl) dX5_compare_14 ⟨Nat.le_of_ble_eq_true rfl, Nat.le_of_ble_eq_true rfl⟩ (fun v f1 Hp lcs hp hM => ?_)
      obtain ⟨rfl, hf⟩ := hp; subst hf
      refine lv_astoreN (lv' := [(4, .null), (3, .null), (0, .ref o), (1, .int k), (2, .int x)]) hx hb dX5_compare_17 hl (by decide) rfl (fun ls hl => ?_)
      refine lv_aload_nN hx hb dX5_compare_19 rfl (lv_at hl 1 rfl) ?_
      refine lv_ifnullN (tgt := 28) hx hb dX5_compare_20 (by decide) ?_
      refine lv_ldc (v := (-100001)) hx hb hown (hts (.constant RX5 140 (-100001)) (List.mem_of_getElem? (i := 2) rfl)) dX5_compare_28 ?_
      exact mm_iret hx hb hlocks hr (Nat.le_of_ble_eq_true rfl) (Nat.le_of_ble_eq_true rfl) hM (ret_v (cmN_no1 hz1)) dX5_compare_30
set_option maxHeartbeats 4000000 in
set_option maxRecDepth 100000 in
theorem c5_contradiction (l : Launch) (G : mG) {f : mE} {o q0 b fc pr n ra rd sp rr sb : Nat} {rc : Int32} {B : Nat → Option Nat} {X rg pa qa tk : Nat → Nat} {lo hi : Nat → Nat → Int32} {ab gv us g : Nat → Int32} (hO : f o = some (.inr (6, [.ref q0, .ref ra, .int rc, .ref rd, .ref sp, .ref rr, .ref sb]))) (hQ : StQ G f q0 b fc pr n B X rg pa qa tk lo hi ab gv us) (hg : f fc = some (mI G 7 g)) (x : Int32) : mC l G yX5_contradiction wsX5_contradiction ({ frames := 4, cells := 0, slots := 0, locals := 92 } : Room) f [.ref o, .int x] (fun v f1 => v = some (.int (if 0 ≤ x then ctdO (conD lo hi ab gv n) x n n 0 0 else -100002)) ∧ f = f1) 0 0 := by
  refine mC.of (cc := cX5_contradiction) (maxL := 5) (ret := (some .int)) (by decide) rfl (Nat.le_of_ble_eq_true rfl) ?_
  intro pgm env s mt args below meth c A ls hx hb hml hr hlocks hown hname hts hK hE hA hM hl
  have hl : lv_has ls 5 [(0, .ref o), (1, .int x)] := hl
  have hn16 := hQ.2.2.1
  refine lv_iload_n hx hb dX5_contradiction_0 rfl (lv_at hl 1 rfl) ?_
  refine lv_if_ge (tgt := 7) hx hb dX5_contradiction_1 (by decide) (fun cz1 => ?_) (fun cz1 => ?_)
  · have hx0 := cz1
    refine lv_iconst (v := (nI 0)) hx hb dX5_contradiction_7 (by decide +kernel) ?_
    refine lv_istore_n (lv' := [(2, .int (nI 0)), (0, .ref o), (1, .int x)]) hx hb dX5_contradiction_8 rfl hl (by decide) rfl (fun ls hl => ?_)
    refine lv_iconst (v := (nI 0)) hx hb dX5_contradiction_9 (by decide +kernel) ?_
    refine lv_istore_n (lv' := [(3, .int (nI 0)), (2, .int (nI 0)), (0, .ref o), (1, .int x)]) hx hb dX5_contradiction_10 rfl hl (by decide) rfl (fun ls hl => ?_)
    have loopY : ∀ (fuel : Nat) (p cn : Nat) (Hp : Heap) (lcs : List Loc) (ls : Array Slot) (pN : p ≤ n) (hcn : cn + (n - p) * n ≤ 300) (hfin : ctdO (conD lo hi ab gv n) x n (n - p) p cn = ctdO (conD lo hi ab gv n) x n n 0 0) (hfu : n - p < fuel) (hM : mM G A s.heap f Hp lcs) (hl : lv_has ls 5 [(0, .ref o), (1, .int x), (2, .int (nI cn)), (3, .int (nI p))]), W pgm l env ({ frames := 4, cells := 0, slots := 0, locals := 92 } : Room) s mt args below meth c Hp lcs 0 0 (MQ below (mQc G A (fun v f1 => v = some (.int (if 0 ≤ x then ctdO (conD lo hi ab gv n) x n n 0 0 else -100002)) ∧ f = f1)) args s 0 0 A) (F0 mt 11 ls []) := by
      intro fuel
      induction fuel with
      | zero => intro p cn Hp lcs ls pN hcn hfin hfu; exact absurd hfu (Nat.not_lt_zero _)
      | succ fuel ih =>
        intro p cn Hp lcs ls pN hcn hfin hfu hM hl
        refine lv_iload_n hx hb dX5_contradiction_11 rfl (lv_at hl 3 rfl) ?_
        refine lv_aload_n hx hb dX5_contradiction_12 rfl (lv_at hl 0 rfl) ?_
        refine mm_get (C := RX5) (T := TX5) (N := 7) (k := 0) hx hb hts (fun _ h => List.mem_cons_of_mem _ (List.mem_append_left _ (List.mem_append_left _ (List.mem_append_left _ (List.mem_append_right _ h))))) hown hK hM hO rfl (by decide) (hts (.fieldLink RX5 12 "SentenceRules" "now" "LSentenceRules$State;") (List.mem_of_getElem? (i := 2) rfl)) rfl rfl dX5_contradiction_13 ?_
        refine mm_get (C := RX3) (T := TX3) (N := 4) (k := 0) hx hb hts (fun _ h => List.mem_cons_of_mem _ (List.mem_append_left _ (List.mem_append_left _ (List.mem_append_right _ h)))) hown hK hM hQ.1 rfl (by decide) (hts (.fieldLink RX5 86 "SentenceRules$State" "sentenceCount" "I") (List.mem_of_getElem? (i := 3) rfl)) rfl rfl dX5_contradiction_16 ?_
        refine ln_icmp_ge p n (by omega) (by omega) (tgt := 80) hx hb dX5_contradiction_19 (by decide) (fun cz2 => ?_) (fun cz2 => ?_)
        · refine lv_ldc (v := (-100005)) hx hb hown (hts (.constant RX5 105 (-100005)) (List.mem_of_getElem? (i := 4) rfl)) dX5_contradiction_80 ?_
          exact mm_iret hx hb hlocks hr (Nat.le_of_ble_eq_true rfl) (Nat.le_of_ble_eq_true rfl) hM (ret_v (by rw [if_pos hx0, ← hfin, show n - p = 0 by omega]; rfl)) dX5_contradiction_82
        refine lv_iload_n hx hb dX5_contradiction_22 rfl (lv_at hl 3 rfl) ?_
        refine lv_iconst (v := (nI 1)) hx hb dX5_contradiction_23 (by decide +kernel) ?_
        refine ln_iadd p 1 hx hb dX5_contradiction_24 ?_
        refine lv_istore (lv' := [(4, .int (nI (p + 1))), (0, .ref o), (1, .int x), (2, .int (nI cn)), (3, .int (nI p))]) hx hb dX5_contradiction_25 hl (by decide) rfl (fun ls hl => ?_)
        have loopZ : ∀ (fuelB : Nat) (q cq : Nat) (Hp : Heap) (lcs : List Loc) (ls : Array Slot) (qN : q ≤ n) (hcq : cq + (n - q) + (n - (p + 1)) * n ≤ 300) (hfin2 : (ctdI (conD lo hi ab gv n) x p (n - q) q cq) = (ctdI (conD lo hi ab gv n) x p (n - (p + 1)) (p + 1) cn)) (hfuB : n - q < fuelB) (hM : mM G A s.heap f Hp lcs) (hl : lv_has ls 5 [(0, .ref o), (1, .int x), (2, .int (nI cq)), (3, .int (nI p)), (4, .int (nI q))]), W pgm l env ({ frames := 4, cells := 0, slots := 0, locals := 92 } : Room) s mt args below meth c Hp lcs 0 0 (MQ below (mQc G A (fun v f1 => v = some (.int (if 0 ≤ x then ctdO (conD lo hi ab gv n) x n n 0 0 else -100002)) ∧ f = f1)) args s 0 0 A) (F0 mt 27 ls []) := by
          intro fuelB
          induction fuelB with
          | zero => intro q cq Hp lcs ls qN hcq hfin2 hfuB; exact absurd hfuB (Nat.not_lt_zero _)
          | succ fuelB ihB =>
            intro q cq Hp lcs ls qN hcq hfin2 hfuB hM hl
            refine lv_iload hx hb dX5_contradiction_27 (lv_at hl 4 rfl) ?_
            refine lv_aload_n hx hb dX5_contradiction_29 rfl (lv_at hl 0 rfl) ?_
            refine mm_get (C := RX5) (T := TX5) (N := 7) (k := 0) hx hb hts (fun _ h => List.mem_cons_of_mem _ (List.mem_append_left _ (List.mem_append_left _ (List.mem_append_left _ (List.mem_append_right _ h))))) hown hK hM hO rfl (by decide) (hts (.fieldLink RX5 12 "SentenceRules" "now" "LSentenceRules$State;") (List.mem_of_getElem? (i := 2) rfl)) rfl rfl dX5_contradiction_30 ?_
            refine mm_get (C := RX3) (T := TX3) (N := 4) (k := 0) hx hb hts (fun _ h => List.mem_cons_of_mem _ (List.mem_append_left _ (List.mem_append_left _ (List.mem_append_right _ h)))) hown hK hM hQ.1 rfl (by decide) (hts (.fieldLink RX5 86 "SentenceRules$State" "sentenceCount" "I") (List.mem_of_getElem? (i := 3) rfl)) rfl rfl dX5_contradiction_33 ?_
            refine ln_icmp_ge q n (by omega) (by omega) (tgt := 74) hx hb dX5_contradiction_36 (by decide) (fun cz3 => ?_) (fun cz3 => ?_)
            · have hend := hfin2.symm.trans (ctdI_end (D := (conD lo hi ab gv n)) (x := x) (a := p) (c := cq) cz3)
              have hcB : cq + (n - (p + 1)) * n ≤ 300 := by omega
              refine lv_iinc (v := (nI (p + 1))) (lv' := [(3, .int (nI (p + 1))), (0, .ref o), (1, .int x), (2, .int (nI cq)), (4, .int (nI q))]) hx hb dX5_contradiction_74 hl (k := 3) rfl (nI_add _ _) (by decide) rfl (fun ls hl => ?_)
              refine lv_goto (tgt := 11) hx hb dX5_contradiction_77 (by decide) ?_
              exact ih (p + 1) _ _ _ ls (by omega) (by first | exact hcB | omega) (by rw [← hfin]; exact (ctdO_none (by omega) hend).symm) (by omega) hM (lv_sub hl [1, 2, 3, 0] rfl)
            refine lv_aload_n hx hb dX5_contradiction_39 rfl (lv_at hl 0 rfl) ?_
            refine mm_get (C := RX5) (T := TX5) (N := 7) (k := 0) hx hb hts (fun _ h => List.mem_cons_of_mem _ (List.mem_append_left _ (List.mem_append_left _ (List.mem_append_left _ (List.mem_append_right _ h))))) hown hK hM hO rfl (by decide) (hts (.fieldLink RX5 12 "SentenceRules" "now" "LSentenceRules$State;") (List.mem_of_getElem? (i := 2) rfl)) rfl rfl dX5_contradiction_40 ?_
            refine lv_iload_n hx hb dX5_contradiction_43 rfl (lv_at hl 3 rfl) ?_
            refine lv_iload hx hb dX5_contradiction_44 (lv_at hl 4 rfl) ?_
            refine mm_V (As := [.int (nI p), .int (nI q)]) (rest := []) ⟨hx, hb, hml, hown, hts⟩ (c3_doContradict l G hQ p q (by omega) (by omega)) (cwV 2 hts gX5_contradiction_X3_doContradict rfl rfl rfl (by decide +kernel) ⟨Nat.le_of_ble_eq_true rfl, Nat.le_of_ble_eq_true rfl⟩) hK hE hA hM (mm_recv hK hM hQ.1 (q := (RX3, TX3, 4)) rfl) rfl hl.1 rfl (Nat.le_of_ble_eq_true rfl) dX5_contradiction_46 ⟨Nat.le_of_ble_eq_true rfl, Nat.le_of_ble_eq_true rfl⟩ (fun v f1 Hp lcs hp hM => ?_)
            obtain ⟨rfl, hf⟩ := hp; subst hf
            refine lvb_eq (tgt := 68) hx hb dX5_contradiction_49 (by decide) (fun cz4 => ?_) (fun cz4 => ?_)
            · refine lv_iinc (v := (nI (q + 1))) (lv' := [(4, .int (nI (q + 1))), (0, .ref o), (1, .int x), (2, .int (nI cq)), (3, .int (nI p))]) hx hb dX5_contradiction_68 hl (k := 4) rfl (nI_add _ _) (by decide) rfl (fun ls hl => ?_)
              refine lv_goto (tgt := 27) hx hb dX5_contradiction_71 (by decide) ?_
              exact ihB (q + 1) _ _ _ ls (by omega) (by omega) (by rw [← hfin2]; exact (ctdI_no cz3 cz4).symm) (by omega) hM (lv_sub hl [1, 2, 3, 4, 0] rfl)
            refine lv_iload_n hx hb dX5_contradiction_52 rfl (lv_at hl 2 rfl) ?_
            refine lv_iload_n hx hb dX5_contradiction_53 rfl (lv_at hl 1 rfl) ?_
            refine lv_icmp_ne (tgt := 65) hx hb dX5_contradiction_54 (by decide) (fun cz5 => ?_) (fun cz5 => ?_)
            · refine lv_iinc (v := (nI (cq + 1))) (lv' := [(2, .int (nI (cq + 1))), (0, .ref o), (1, .int x), (3, .int (nI p)), (4, .int (nI q))]) hx hb dX5_contradiction_65 hl (k := 2) rfl (nI_add _ _) (by decide) rfl (fun ls hl => ?_)
              refine lv_iinc (v := (nI (q + 1))) (lv' := [(4, .int (nI (q + 1))), (2, .int (nI (cq + 1))), (0, .ref o), (1, .int x), (3, .int (nI p))]) hx hb dX5_contradiction_68 hl (k := 4) rfl (nI_add _ _) (by decide) rfl (fun ls hl => ?_)
              refine lv_goto (tgt := 27) hx hb dX5_contradiction_71 (by decide) ?_
              exact ihB (q + 1) _ _ _ ls (by omega) (by omega) (by rw [← hfin2]; exact (ctdI_go cz3 cz4 cz5).symm) (by omega) hM (lv_sub hl [2, 3, 1, 4, 0] rfl)
            refine lv_bipush (v := (nI 100)) hx hb dX5_contradiction_57 (by decide +kernel) ?_
            refine lv_iload_n hx hb dX5_contradiction_59 rfl (lv_at hl 3 rfl) ?_
            refine ln_imul 100 p hx hb dX5_contradiction_60 ?_
            refine lv_iload hx hb dX5_contradiction_61 (lv_at hl 4 rfl) ?_
            refine ln_iadd (100 * p) q hx hb dX5_contradiction_63 ?_
            exact mm_iret hx hb hlocks hr (Nat.le_of_ble_eq_true rfl) (Nat.le_of_ble_eq_true rfl) hM (ret_v (by rw [if_pos hx0, ← hfin, show n - p = (n - (p + 1)) + 1 by omega, ctdO, ← hfin2, ctdI_hit cz3 cz4 cz5])) dX5_contradiction_64
        exact loopZ (n + 1) (p + 1) _ _ _ ls (by omega) (ctd_in cz2 hcn) rfl (by omega) hM (lv_sub hl [1, 2, 3, 4, 0] rfl)
    exact loopY (n + 1) 0 0 _ _ ls (Nat.zero_le _) (ctd_300 hn16) rfl (by omega) hM (lv_sub hl [2, 3, 1, 0] rfl)
  refine lv_ldc (v := (-100002)) hx hb hown (hts (.constant RX5 41 (-100002)) (List.mem_of_getElem? (i := 1) rfl)) dX5_contradiction_4 ?_
  exact mm_iret hx hb hlocks hr (Nat.le_of_ble_eq_true rfl) (Nat.le_of_ble_eq_true rfl) hM (ret_v (by rw [if_neg cz1])) dX5_contradiction_6
set_option maxHeartbeats 4000000 in
set_option maxRecDepth 100000 in
theorem c5_matters (l : Launch) (G : mG) {f : mE} {o q0 b fc pr n ra rd sp rr sb : Nat} {rc : Int32} {B : Nat → Option Nat} {X rg pa qa tk : Nat → Nat} {lo hi : Nat → Nat → Int32} {ab gv us g : Nat → Int32} (hO : f o = some (.inr (6, [.ref q0, .ref ra, .int rc, .ref rd, .ref sp, .ref rr, .ref sb]))) (hQ : StQ G f q0 b fc pr n B X rg pa qa tk lo hi ab gv us) (hg : f fc = some (mI G 7 g)) (k : Int32) : mC l G yX5_matters wsX5_matters ({ frames := 5, cells := 0, slots := 0, locals := 124 } : Room) f [.ref o, .int k] (fun v f1 => v = some (.int (tolN n k (fun j => if ab j < nI 10 then (if ansD g lo hi ab gv (-1) n (ab j) n 0 (-100005) = ansD g lo hi ab gv (nI j) n (ab j) n 0 (-100005) then nI 0 else nI 1) else nI 0))) ∧ f = f1) 0 0 := by
  refine mC.of (cc := cX5_matters) (maxL := 5) (ret := (some .int)) (by decide) rfl (Nat.le_of_ble_eq_true rfl) ?_
  intro pgm env s mt args below meth c A ls hx hb hml hr hlocks hown hname hts hK hE hA hM hl
  have hl : lv_has ls 5 [(0, .ref o), (1, .int k)] := hl
  have hn16 := hQ.2.2.1
  refine lv_aload_n hx hb dX5_matters_0 rfl (lv_at hl 0 rfl) ?_
  refine mm_get (C := RX5) (T := TX5) (N := 7) (k := 0) hx hb hts (fun _ h => List.mem_cons_of_mem _ (List.mem_append_left _ (List.mem_append_left _ (List.mem_append_left _ (List.mem_append_right _ h))))) hown hK hM hO rfl (by decide) (hts (.fieldLink RX5 12 "SentenceRules" "now" "LSentenceRules$State;") (List.mem_of_getElem? (i := 1) rfl)) rfl rfl dX5_matters_1 ?_
  refine lv_iload_n hx hb dX5_matters_4 rfl (lv_at hl 1 rfl) ?_
  rcases sen_cases hn16 k with ⟨j, jN, rfl⟩ | hz1
  · refine mm_V (As := [.int (nI j)]) (rest := []) ⟨hx, hb, hml, hown, hts⟩ (c3_sentenceAt l G hQ j (by omega)) (cwV 1 hts gX5_matters_X3_sentenceAt rfl rfl rfl (by decide +kernel) ⟨Nat.le_of_ble_eq_true rfl, Nat.le_of_ble_eq_true rfl⟩) hK hE hA hM (mm_recv hK hM hQ.1 (q := (RX3, TX3, 4)) rfl) rfl hl.1 rfl (Nat.le_of_ble_eq_true rfl) dX5_matters_5 ⟨Nat.le_of_ble_eq_true rfl, Nat.le_of_ble_eq_true rfl⟩ (fun v f1 Hp lcs hp hM => ?_)
    obtain ⟨rfl, hf⟩ := hp; subst hf
    have hz2 := hQ.2.2.2 j (by omega)
    refine lv_astore_n (lv' := [(2, .ref (X j)), (0, .ref o), (1, .int (nI j))]) hx hb dX5_matters_8 rfl hl (by decide) rfl (fun ls hl => ?_)
    refine lv_aload_n hx hb dX5_matters_9 rfl (lv_at hl 0 rfl) ?_
    refine lv_ifnonnull (tgt := 16) hx hb dX5_matters_10 (by decide) ?_
    refine lv_aload_n hx hb dX5_matters_16 rfl (lv_at hl 0 rfl) ?_
    refine mm_V (As := []) (rest := []) ⟨hx, hb, hml, hown, hts⟩ (c2_isDefinition l G hz2.2.1) (cwV 0 hts gX5_matters_X2_isDefinition rfl rfl rfl (by decide +kernel) ⟨Nat.le_of_ble_eq_true rfl, Nat.le_of_ble_eq_true rfl⟩) hK hE hA hM (mm_recv hK hM hz2.2.1 (q := (RX2, TX2, 5)) rfl) rfl hl.1 rfl (Nat.le_of_ble_eq_true rfl) dX5_matters_17 ⟨Nat.le_of_ble_eq_true rfl, Nat.le_of_ble_eq_true rfl⟩ (fun v f1 Hp lcs hp hM => ?_)
    obtain ⟨rfl, hf⟩ := hp; subst hf
    refine lvb_eq (tgt := 25) hx hb dX5_matters_20 (by decide) (fun cz3 => ?_) (fun cz3 => ?_)
    · refine lv_aload_n hx hb dX5_matters_25 rfl (lv_at hl 1 rfl) ?_
      refine mm_get (C := RX5) (T := TX5) (N := 7) (k := 0) hx hb hts (fun _ h => List.mem_cons_of_mem _ (List.mem_append_left _ (List.mem_append_left _ (List.mem_append_left _ (List.mem_append_right _ h))))) hown hK hM hO rfl (by decide) (hts (.fieldLink RX5 12 "SentenceRules" "now" "LSentenceRules$State;") (List.mem_of_getElem? (i := 1) rfl)) rfl rfl dX5_matters_26 ?_
      refine lv_aload_n hx hb dX5_matters_29 rfl (lv_at hl 0 rfl) ?_
      refine mm_get (C := RX2) (T := TX2) (N := 5) (k := 2) hx hb hts (fun _ h => List.mem_cons_of_mem _ (List.mem_append_left _ (List.mem_append_left _ (List.mem_append_right _ h)))) hown hK hM hz2.2.1 rfl (by decide) (hts (.fieldLink RX5 144 "SentenceRules$Sentence" "about" "I") (List.mem_of_getElem? (i := 3) rfl)) rfl rfl dX5_matters_30 ?_
      refine lv_aload_n hx hb dX5_matters_33 rfl (lv_at hl 1 rfl) ?_
      refine mm_get (C := RX5) (T := TX5) (N := 7) (k := 0) hx hb hts (fun _ h => List.mem_cons_of_mem _ (List.mem_append_left _ (List.mem_append_left _ (List.mem_append_left _ (List.mem_append_right _ h))))) hown hK hM hO rfl (by decide) (hts (.fieldLink RX5 12 "SentenceRules" "now" "LSentenceRules$State;") (List.mem_of_getElem? (i := 1) rfl)) rfl rfl dX5_matters_34 ?_
      refine mm_get (C := RX3) (T := TX3) (N := 4) (k := 2) hx hb hts (fun _ h => List.mem_cons_of_mem _ (List.mem_append_left _ (List.mem_append_right _ h))) hown hK hM hQ.1 rfl (by decide) (hts (.fieldLink RX5 158 "SentenceRules$State" "facts" "[I") (List.mem_of_getElem? (i := 4) rfl)) rfl rfl dX5_matters_37 ?_
      refine lv_iconst (v := (-1)) hx hb dX5_matters_40 (by decide +kernel) ?_
      refine mm_V (As := [.int (ab j), .ref fc, .int (-1)]) (rest := []) ⟨hx, hb, hml, hown, hts⟩ (c3_answerFor l G hQ hg (ab j) (-1)) (cwV 3 hts gX5_matters_X3_answerFor rfl rfl rfl (by decide +kernel) ⟨Nat.le_of_ble_eq_true rfl, Nat.le_of_ble_eq_true rfl⟩) hK hE hA hM (mm_recv hK hM hQ.1 (q := (RX3, TX3, 4)) rfl) rfl hl.1 rfl (Nat.le_of_ble_eq_true rfl) dX5_matters_41 ⟨Nat.le_of_ble_eq_true rfl, Nat.le_of_ble_eq_true rfl⟩ (fun v f1 Hp lcs hp hM => ?_)
      obtain ⟨rfl, hf⟩ := hp; subst hf
      refine lv_istore_n (lv' := [(3, .int (ansD g lo hi ab gv (-1) n (ab j) n 0 (-100005))), (2, .ref (X j)), (0, .ref o), (1, .int (nI j))]) hx hb dX5_matters_44 rfl hl (by decide) rfl (fun ls hl => ?_)
      refine lv_aload_n hx hb dX5_matters_45 rfl (lv_at hl 2 rfl) ?_
      refine mm_get (C := RX5) (T := TX5) (N := 7) (k := 0) hx hb hts (fun _ h => List.mem_cons_of_mem _ (List.mem_append_left _ (List.mem_append_left _ (List.mem_append_left _ (List.mem_append_right _ h))))) hown hK hM hO rfl (by decide) (hts (.fieldLink RX5 12 "SentenceRules" "now" "LSentenceRules$State;") (List.mem_of_getElem? (i := 1) rfl)) rfl rfl dX5_matters_46 ?_
      refine lv_aload_n hx hb dX5_matters_49 rfl (lv_at hl 1 rfl) ?_
      refine mm_get (C := RX2) (T := TX2) (N := 5) (k := 2) hx hb hts (fun _ h => List.mem_cons_of_mem _ (List.mem_append_left _ (List.mem_append_left _ (List.mem_append_right _ h)))) hown hK hM hz2.2.1 rfl (by decide) (hts (.fieldLink RX5 144 "SentenceRules$Sentence" "about" "I") (List.mem_of_getElem? (i := 3) rfl)) rfl rfl dX5_matters_50 ?_
      refine lv_aload_n hx hb dX5_matters_53 rfl (lv_at hl 2 rfl) ?_
      refine mm_get (C := RX5) (T := TX5) (N := 7) (k := 0) hx hb hts (fun _ h => List.mem_cons_of_mem _ (List.mem_append_left _ (List.mem_append_left _ (List.mem_append_left _ (List.mem_append_right _ h))))) hown hK hM hO rfl (by decide) (hts (.fieldLink RX5 12 "SentenceRules" "now" "LSentenceRules$State;") (List.mem_of_getElem? (i := 1) rfl)) rfl rfl dX5_matters_54 ?_
      refine mm_get (C := RX3) (T := TX3) (N := 4) (k := 2) hx hb hts (fun _ h => List.mem_cons_of_mem _ (List.mem_append_left _ (List.mem_append_right _ h))) hown hK hM hQ.1 rfl (by decide) (hts (.fieldLink RX5 158 "SentenceRules$State" "facts" "[I") (List.mem_of_getElem? (i := 4) rfl)) rfl rfl dX5_matters_57 ?_
      refine lv_iload_n hx hb dX5_matters_60 rfl (lv_at hl 3 rfl) ?_
      refine mm_V (As := [.int (ab j), .ref fc, .int (nI j)]) (rest := []) ⟨hx, hb, hml, hown, hts⟩ (c3_answerFor l G hQ hg (ab j) (nI j)) (cwV 3 hts gX5_matters_X3_answerFor rfl rfl rfl (by decide +kernel) ⟨Nat.le_of_ble_eq_true rfl, Nat.le_of_ble_eq_true rfl⟩) hK hE hA hM (mm_recv hK hM hQ.1 (q := (RX3, TX3, 4)) rfl) rfl hl.1 rfl (Nat.le_of_ble_eq_true rfl) dX5_matters_61 ⟨Nat.le_of_ble_eq_true rfl, Nat.le_of_ble_eq_true rfl⟩ (fun v f1 Hp lcs hp hM => ?_)
      obtain ⟨rfl, hf⟩ := hp; subst hf
      refine lv_istore (lv' := [(4, .int (ansD g lo hi ab gv (nI j) n (ab j) n 0 (-100005))), (3, .int (ansD g lo hi ab gv (-1) n (ab j) n 0 (-100005))), (2, .ref (X j)), (0, .ref o), (1, .int (nI j))]) hx hb dX5_matters_64 hl (by decide) rfl (fun ls hl => ?_)
      refine lv_iload_n hx hb dX5_matters_66 rfl (lv_at hl 1 rfl) ?_
      refine lv_iload hx hb dX5_matters_67 (lv_at hl 0 rfl) ?_
      refine lv_icmp_ne (tgt := 76) hx hb dX5_matters_69 (by decide) (fun cz4 => ?_) (fun cz4 => ?_)
      · refine lv_iconst (v := (nI 1)) hx hb dX5_matters_76 (by decide +kernel) ?_
        exact mm_iret hx hb hlocks hr (Nat.le_of_ble_eq_true rfl) (Nat.le_of_ble_eq_true rfl) hM (ret_v (tolN_at hn16 jN (by rw [if_pos (of_decide_eq_true (bnot_f cz3)), if_neg cz4]))) dX5_matters_77
      refine lv_iconst (v := (nI 0)) hx hb dX5_matters_72 (by decide +kernel) ?_
      refine lv_goto (tgt := 77) hx hb dX5_matters_73 (by decide) ?_
      exact mm_iret hx hb hlocks hr (Nat.le_of_ble_eq_true rfl) (Nat.le_of_ble_eq_true rfl) hM (ret_v (tolN_at hn16 jN (by rw [if_pos (of_decide_eq_true (bnot_f cz3)), if_pos cz4]))) dX5_matters_77
    refine lv_iconst (v := (nI 0)) hx hb dX5_matters_23 (by decide +kernel) ?_
    exact mm_iret hx hb hlocks hr (Nat.le_of_ble_eq_true rfl) (Nat.le_of_ble_eq_true rfl) hM (ret_v (tolN_at hn16 jN (by rw [if_neg (of_decide_eq_false (bnot_t cz3))]))) dX5_matters_24
  · refine mm_V (As := [.int k]) (rest := []) ⟨hx, hb, hml, hown, hts⟩ (c3_sentenceAtN l G hQ k hz1) (cwV 1 hts gX5_matters_X3_sentenceAt rfl rfl rfl (by decide +kernel) ⟨Nat.le_of_ble_eq_true rfl, Nat.le_of_ble_eq_true rfl⟩) hK hE hA hM (mm_recv hK hM hQ.1 (q := (RX3, TX3, 4)) rfl) rfl hl.1 rfl (Nat.le_of_ble_eq_true rfl) dX5_matters_5 ⟨Nat.le_of_ble_eq_true rfl, Nat.le_of_ble_eq_true rfl⟩ (fun v f1 Hp lcs hp hM => ?_)
    obtain ⟨rfl, hf⟩ := hp; subst hf
    refine lv_astore_nN (lv' := [(2, .null), (0, .ref o), (1, .int k)]) hx hb dX5_matters_8 rfl hl (by decide) rfl (fun ls hl => ?_)
    refine lv_aload_nN hx hb dX5_matters_9 rfl (lv_at hl 0 rfl) ?_
    refine lv_ifnonnullN hx hb dX5_matters_10 ?_
    refine lv_ldc (v := (-100001)) hx hb hown (hts (.constant RX5 140 (-100001)) (List.mem_of_getElem? (i := 2) rfl)) dX5_matters_13 ?_
    exact mm_iret hx hb hlocks hr (Nat.le_of_ble_eq_true rfl) (Nat.le_of_ble_eq_true rfl) hM (ret_v (tolN_no hz1)) dX5_matters_15

