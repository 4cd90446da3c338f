/-! THE CLASS: its text -/
def Al (L : List Int32) : Prop := ∀ x, x ∈ L → ∃ w, w < 128 ∧ x = nI w
theorem Al.nil : Al [] := fun x hx => by cases hx
theorem Al.app {L M : List Int32} (h1 : Al L) (h2 : Al M) : Al (L ++ M) := fun x hx => (List.mem_append.mp hx).elim (h1 x) (h2 x)
theorem Al.cons {w : Nat} {L : List Int32} (h : w < 128) (h2 : Al L) : Al (nI w :: L) := fun x hx => (List.mem_cons.mp hx).elim (fun e => ⟨w, h, e⟩) (h2 x)
theorem numL_al {b c dg v : Nat} (hb : 0 < b) (h : c + b ≤ 128) : Al (numL b c dg v) := fun x hx => by
  unfold numL digL at hx
  obtain ⟨j, -, e⟩ := List.mem_map.mp hx
  have := Nat.mod_lt (v / b ^ (eN b dg v - j)) hb
  exact ⟨_, by omega, e.symm⟩
theorem sgnL_al (x : Int32) : Al (sgnL x) := by
  unfold sgnL
  split
  · exact numL_al (by decide) (by decide)
  · exact Al.cons (by decide) (numL_al (by decide) (by decide))
theorem datL_al (k : Nat) : Al (datL k) := by
  unfold datL
  exact (numL_al (by decide) (by decide)).app (Al.cons (by decide) ((numL_al (by decide) (by decide)).app (Al.cons (by decide) (numL_al (by decide) (by decide)))))
theorem tokL_al (kd x : Int32) : Al (tokL kd x) := by
  unfold tokL
  split
  · exact numL_al (by decide) (by decide)
  · split
    · exact sgnL_al x
    · exact datL_al _
theorem senL_al (S : Nat → Int32) (k : Nat) : ∀ t, Al (senL S k t)
  | 0 => Al.nil
  | t + 1 => by
    rw [senL]
    refine (senL_al S k t).app (Al.app ?_ (tokL_al _ _))
    split
    · exact Al.nil
    · exact Al.cons (by decide) Al.nil
theorem Al.get {L : List Int32} (h : Al L) {i : Nat} (hi : i < L.length) : ∃ w, w < 128 ∧ L.getD i 0 = nI w := by
  rw [List.getD_eq_getElem?_getD, List.getElem?_eq_getElem hi, Option.getD_some]
  exact h _ (List.getElem_mem hi)
theorem nlt_s {x : Int32} {n : Nat} (hn : n + 1 < 2 ^ 31) : x < nI (n + 1) ↔ x ≤ nI n := by
  rw [Int32.lt_iff_toInt_lt, Int32.le_iff_toInt_le, nI_toInt hn, nI_toInt (by omega)]
  omega

set_option maxHeartbeats 4000000 in
set_option maxRecDepth 100000 in
theorem k_length (l : Launch) (G : mG) {f : mE} {T : Nat → Nat} {o q0 ra rd sp rr sb : Nat} {S P : Nat → Int32} {rc n cn : Nat} (h : CC G f T o q0 ra rd sp rr sb S P rc) (hv : VSn S n cn) (k : Int32) : mC l G yX5_length wsX5_length ({ frames := 2, cells := 0, slots := 0, locals := 40 } : Room) f [.ref o, .int k] (fun v f1 => v = some (.int (tolI S k (fun j => nI ((senL S j (ctN S j)).length + 1)))) ∧ CI G f1 o S P rc) 0 0 := by
  refine mC.of (cc := cX5_length) (maxL := 3) (ret := (some .int)) (by decide) rfl (Nat.le_of_ble_eq_true rfl) ?_
  intro pgm env s mt args below meth c A ls hx hb hml hr hlocks hown hname hts hK hE hA hM hl
  have hl : lv_has ls 3 [(0, .ref o), (1, .int k)] := hl
  have hn16 := hv.2.1
  obtain ⟨b, fc, pr1, ka, va, B, X, rg, pa, qa, tk, lo, hi, ab, gv, us, g, K, V, hA9, hB9, hQ, hg, hgS, hF9, hgv, hL, hT0, hTk⟩ := h.q hv
  have hF := fun w9 e (hb : f w9 = some e)  => hb
  refine lv_aload_n hx hb dX5_length_0 rfl (lv_at hl 0 rfl) ?_
  refine mm_get (C := RX5) (T := TX5) (N := 7) (k := 0) hx hb hts (fun _ h => List.mem_cons_of_mem _ (List.mem_append_left _ (List.mem_append_left _ (List.mem_append_left _ (List.mem_append_right _ h))))) hown hK hM h.1 rfl (by decide) (hts (.fieldLink RX5 12 "SentenceRules" "now" "LSentenceRules$State;") (List.mem_of_getElem? (i := 1) rfl)) rfl rfl dX5_length_1 ?_
  refine lv_iload_n hx hb dX5_length_4 rfl (lv_at hl 1 rfl) ?_
  rcases sen_cases hn16 k with ⟨j, jN, rfl⟩ | hz1
  · refine mm_V (As := [.int (nI j)]) (rest := []) ⟨hx, hb, hml, hown, hts⟩ (c3_sentenceAt l G hQ j (by omega)) (cwV 1 hts gX5_length_X3_sentenceAt rfl rfl rfl (by decide +kernel) ⟨Nat.le_of_ble_eq_true rfl, Nat.le_of_ble_eq_true rfl⟩) hK hE hA hM (mm_recv hK hM hA9.1.1 (q := (RX3, TX3, 4)) rfl) rfl hl.1 rfl (Nat.le_of_ble_eq_true rfl) dX5_length_5 ⟨Nat.le_of_ble_eq_true rfl, Nat.le_of_ble_eq_true rfl⟩ (fun v f1 Hp lcs hp hM => ?_)
    obtain ⟨rfl, hf⟩ := hp; subst hf
    have hz2 := hQ.2.2.2 j (by omega)
    refine lv_astore_n (lv' := [(2, .ref (X j)), (0, .ref o), (1, .int (nI j))]) hx hb dX5_length_8 rfl hl (by decide) rfl (fun ls hl => ?_)
    refine lv_aload_n hx hb dX5_length_9 rfl (lv_at hl 0 rfl) ?_
    refine lv_ifnonnull (tgt := 18) hx hb dX5_length_10 (by decide) ?_
    obtain ⟨tz, ct, tg, ⟨b1, b2, b3⟩, b4, b5, hs0, hc24⟩ := hTk j jN
    obtain ⟨⟨ct2, hs1, hct2, hvt⟩, -⟩ := hv.2.2.2.2.2.1 j jN
    have hcc : ct2 = ct := nI_inj (by omega) (by omega) (hs1.symm.trans hs0)
    subst hcc
    have hctN : ctN S j = ct2 := by rw [ctN, show S (57 + 66 * j + 0) = nI ct2 from hs0, nI_clamp (by omega)]
    rw [sxT_sen] at b2 b3
    rw [← hctN] at b2 b3 hvt hc24
    have hlen9 := senL_le hvt (Nat.le_refl _)
    refine lv_aload_n hx hb dX5_length_18 rfl (lv_at hl 0 rfl) ?_
    refine mm_get (C := RX2) (T := TX2) (N := 5) (k := 0) hx hb hts (fun _ h => List.mem_cons_of_mem _ (List.mem_append_left _ (List.mem_append_left _ (List.mem_append_right _ h)))) hown hK hM hz2.2.1 rfl (by decide) (hts (.fieldLink RX5 188 "SentenceRules$Sentence" "text" "Ljava/lang/String;") (List.mem_of_getElem? (i := 3) rfl)) rfl rfl dX5_length_19 ?_
    refine mm_V (As := []) (rest := []) ⟨hx, hb, hml, hown, hts⟩ (s0_length l G b1 b2) (cwV 0 hts gX5_length_J0_length_8abf5 rfl rfl rfl (by decide +kernel) ⟨Nat.le_of_ble_eq_true rfl, Nat.le_of_ble_eq_true rfl⟩) hK hE hA hM (mm_recv hK hM b1 (q := (RJ0, TJ0, 4)) rfl) rfl hl.1 rfl (Nat.le_of_ble_eq_true rfl) dX5_length_22 ⟨Nat.le_of_ble_eq_true rfl, Nat.le_of_ble_eq_true rfl⟩ (fun v f1 Hp lcs hp hM => ?_)
    obtain ⟨rfl, hf⟩ := hp; subst hf
    exact mm_iret hx hb hlocks hr (Nat.le_of_ble_eq_true rfl) (Nat.le_of_ble_eq_true rfl) hM (⟨congrArg (fun z => some (Value.int z)) (by rw [tolN_S hv.1 hn16]; exact tolN_at hn16 jN rfl), T, q0, ra, rd, sp, rr, sb, h⟩) dX5_length_25
  · refine mm_V (As := [.int k]) (rest := []) ⟨hx, hb, hml, hown, hts⟩ (c3_sentenceAtN l G hQ k hz1) (cwV 1 hts gX5_length_X3_sentenceAt rfl rfl rfl (by decide +kernel) ⟨Nat.le_of_ble_eq_true rfl, Nat.le_of_ble_eq_true rfl⟩) hK hE hA hM (mm_recv hK hM hA9.1.1 (q := (RX3, TX3, 4)) rfl) rfl hl.1 rfl (Nat.le_of_ble_eq_true rfl) dX5_length_5 ⟨Nat.le_of_ble_eq_true rfl, Nat.le_of_ble_eq_true rfl⟩ (fun v f1 Hp lcs hp hM => ?_)
    obtain ⟨rfl, hf⟩ := hp; subst hf
    refine lv_astore_nN (lv' := [(2, .null), (0, .ref o), (1, .int k)]) hx hb dX5_length_8 rfl hl (by decide) rfl (fun ls hl => ?_)
    refine lv_aload_nN hx hb dX5_length_9 rfl (lv_at hl 0 rfl) ?_
    refine lv_ifnonnullN hx hb dX5_length_10 ?_
    refine lv_ldc (v := (-100001)) hx hb hown (hts (.constant RX5 140 (-100001)) (List.mem_of_getElem? (i := 2) rfl)) dX5_length_13 ?_
    refine lv_goto (tgt := 25) hx hb dX5_length_15 (by decide) ?_
    exact mm_iret hx hb hlocks hr (Nat.le_of_ble_eq_true rfl) (Nat.le_of_ble_eq_true rfl) hM (⟨congrArg (fun z => some (Value.int z)) (by rw [tolN_S hv.1 hn16]; exact tolN_no hz1), T, q0, ra, rd, sp, rr, sb, h⟩) dX5_length_25
set_option maxHeartbeats 4000000 in
set_option maxRecDepth 100000 in
theorem k_undo0 (l : Launch) (G : mG) {f : mE} {T : Nat → Nat} {o q0 ra rd sp rr sb : Nat} {S P : Nat → Int32} (h : CC G f T o q0 ra rd sp rr sb S P 0) : mC l G yX5_undo wsX5_undo ({ frames := 3, cells := 0, slots := 0, locals := 69 } : Room) f [.ref o] (fun v f1 => v = some (.int (-100005)) ∧ CI G f1 o S P 0) 0 0 := by
  refine mC.of (cc := cX5_undo) (maxL := 2) (ret := (some .int)) (by decide) rfl (Nat.le_of_ble_eq_true rfl) ?_
  intro pgm env s mt args below meth c A ls hx hb hml hr hlocks hown hname hts hK hE hA hM hl
  have hl : lv_has ls 2 [(0, .ref o)] := hl
  have hF := fun w9 e (hb : f w9 = some e)  => hb
  refine lv_aload_n hx hb dX5_undo_0 rfl (lv_at hl 0 rfl) ?_
  refine mm_get (C := RX5) (T := TX5) (N := 7) (k := 2) hx hb hts (fun _ h => List.mem_cons_of_mem _ (List.mem_append_left _ (List.mem_append_left _ (List.mem_append_right _ h)))) hown hK hM h.1 rfl (by decide) (hts (.fieldLink RX5 161 "SentenceRules" "recordedCount" "I") (List.mem_of_getElem? (i := 1) rfl)) rfl rfl dX5_undo_1 ?_
  refine lv_if_ne (tgt := 10) hx hb dX5_undo_4 (by decide) (fun hq9 => absurd hq9 (by decide)) (fun _ => ?_)
  refine lv_ldc (v := (-100005)) hx hb hown (hts (.constant RX5 105 (-100005)) (List.mem_of_getElem? (i := 2) rfl)) dX5_undo_7 ?_
  exact mm_iret hx hb hlocks hr (Nat.le_of_ble_eq_true rfl) (Nat.le_of_ble_eq_true rfl) hM (⟨rfl, T, q0, ra, rd, sp, rr, sb, h⟩) dX5_undo_9

