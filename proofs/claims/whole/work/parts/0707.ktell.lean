/-! THE CLASS: a sentence told -/
theorem updN {S : Nat → Int32} {i j : Nat} {x : Int32} (h : j ≠ i) : upd S i x j = S j := by unfold upd; rw [if_neg h]
theorem updE {S : Nat → Int32} {i j : Nat} {x : Int32} (h : j = i) : upd S i x j = x := by unfold upd; rw [if_pos h]
section TZ
variable {S : Nat → Int32} {n : Nat} {Z : (Nat → Int32) × (Nat → Int32) × Int32 × Int32 × Int32}
theorem telU_ne {ab gi us : Int32} {j : Nat} (h1 : j ≠ 57 + 66 * n + 49) (h2 : j ≠ 57 + 66 * n + 50) (h3 : j ≠ 57 + 66 * n + 51) : telU S n ab gi us j = telC S n 49 j := by
  unfold telU; rw [updN h3, updN h2, updN h1]
theorem telZ_F {j : Nat} (h1 : j ≠ 7) (h2 : j ≠ 56) : telZ S n Z j = telF (telU S n Z.2.2.2.1 Z.2.2.2.2 Z.2.2.1) Z.1 Z.2.1 (57 + 66 * n) 7 j := by
  unfold telZ; rw [updN h1, updN h2]
theorem telF_no {T lo hi : Nat → Int32} {b i j : Nat} (h : ¬ (b + 52 ≤ j ∧ j < b + 52 + i)) (h2 : ¬ (b + 59 ≤ j ∧ j < b + 59 + i)) : telF T lo hi b i j = T j := by
  unfold telF; rw [if_neg h, if_neg h2]
theorem telZ_lo {j : Nat} (h1 : j ≠ 7) (h2 : j ≠ 56) (h3 : j < 57 + 66 * n) : telZ S n Z j = S j := by
  rw [telZ_F h1 h2, telF_no (by omega) (by omega), telU_ne (by omega) (by omega) (by omega)]
  unfold telC; rw [if_neg (by omega)]
theorem telZ_7 : telZ S n Z 7 = nI 0 := by unfold telZ; exact updE rfl
theorem telZ_56 : telZ S n Z 56 = nI (n + 1) := by unfold telZ; rw [updN (by decide)]; exact updE rfl
theorem telZ_tok {w : Nat} (h : w < 49) : telZ S n Z (57 + 66 * n + w) = S (7 + w) := by
  rw [telZ_F (by omega) (by omega), telF_no (by omega) (by omega), telU_ne (by omega) (by omega) (by omega)]
  unfold telC; rw [if_pos (by omega)]; congr 1; omega
theorem telZ_49 : telZ S n Z (57 + 66 * n + 49) = Z.2.2.2.1 := by
  rw [telZ_F (by omega) (by omega), telF_no (by omega) (by omega)]
  unfold telU; rw [updN (by omega), updN (by omega), updE rfl]
theorem telZ_50 : telZ S n Z (57 + 66 * n + 50) = Z.2.2.2.2 := by
  rw [telZ_F (by omega) (by omega), telF_no (by omega) (by omega)]
  unfold telU; rw [updN (by omega), updE rfl]
theorem telZ_51 : telZ S n Z (57 + 66 * n + 51) = Z.2.2.1 := by
  rw [telZ_F (by omega) (by omega), telF_no (by omega) (by omega)]
  unfold telU; rw [updE rfl]
theorem telZ_52 {j : Nat} (h : j < 7) : telZ S n Z (57 + 66 * n + (52 + j)) = Z.1 j := by
  rw [telZ_F (by omega) (by omega)]
  unfold telF; rw [if_pos (by omega), show 57 + 66 * n + (52 + j) - (57 + 66 * n + 52) = j by omega]
theorem telZ_59 {j : Nat} (h : j < 7) : telZ S n Z (57 + 66 * n + (59 + j)) = Z.2.1 j := by
  rw [telZ_F (by omega) (by omega)]
  unfold telF; rw [if_neg (by omega), if_pos (by omega), show 57 + 66 * n + (59 + j) - (57 + 66 * n + 59) = j by omega]
theorem telZ_old {i w : Nat} (h : i < n) (hw : w < 66) : telZ S n Z (57 + 66 * i + w) = S (57 + 66 * i + w) := telZ_lo (by omega) (by omega) (by omega)
end TZ
theorem VSn.tell {S : Nat → Int32} {n cn : Nat} (hv : VSn S n cn) (hn : n < 16) {ab gv us : Int32} {lo hi : Nat → Int32} (hK : TelK S n cn ab gv us lo hi) (lo0 hi0 : Nat → Int32) (ab0 : Int32) : VSn (telZ S n (rsAll S n cn lo0 hi0 ab0)) (n + 1) 0 := by
  obtain ⟨v1, v2, v3, v4, v5, v6, v7⟩ := hv
  obtain ⟨k1, k2, k3⟩ := hK
  obtain ⟨r1, r2, r3, r4⟩ := k1 lo0 hi0 ab0
  refine ⟨telZ_56, by omega, telZ_7, by omega, fun j hj => absurd hj (Nat.not_lt_zero j), fun i hi => ?_, fun j hj => by rw [telZ_lo (by omega) (by omega) (by omega)]; exact v7 j hj⟩
  by_cases e : i = n
  · subst e
    refine ⟨⟨cn, (telZ_tok (w := 0) (by omega)).trans v3, v4, fun t ht => ?_⟩, fun h => ?_, fun j hj => ?_⟩
    · have e1 := telZ_tok (S := S) (n := i) (Z := rsAll S i cn lo0 hi0 ab0) (w := 1 + t) (by omega)
      have e2 := telZ_tok (S := S) (n := i) (Z := rsAll S i cn lo0 hi0 ab0) (w := 25 + t) (by omega)
      show vtB (telZ S i (rsAll S i cn lo0 hi0 ab0) (57 + 66 * i + (1 + t))) (telZ S i (rsAll S i cn lo0 hi0 ab0) (57 + 66 * i + (25 + t))) = true
      rw [e1, e2, ← Nat.add_assoc, ← Nat.add_assoc]; exact v5 t ht
    · have h' : telZ S i (rsAll S i cn lo0 hi0 ab0) (57 + 66 * i + 49) < nI 10 := h
      rw [telZ_49, r3] at h'
      show inB (telZ S i (rsAll S i cn lo0 hi0 ab0) (57 + 66 * i + 50)) (-9999) 9999 = true
      rw [telZ_50, r4, if_pos h']; exact k2 h'
    · show inB (telZ S i (rsAll S i cn lo0 hi0 ab0) (57 + 66 * i + (52 + j))) _ _ = true ∧ inB (telZ S i (rsAll S i cn lo0 hi0 ab0) (57 + 66 * i + (59 + j))) _ _ = true
      obtain ⟨q1, q2, q3⟩ := k3 j hj
      rw [telZ_52 hj, telZ_59 hj, (r1 j hj).1, (r1 j hj).2]
      exact ⟨inB_t (Int32.not_lt.mpr q1) (Int32.not_lt.mpr (Int32.le_trans q2 q3)), inB_t (Int32.not_lt.mpr (Int32.le_trans q1 q2)) (Int32.not_lt.mpr q3)⟩
  · obtain ⟨⟨ct, a1, a2, a3⟩, a4, a5⟩ := v6 i (by omega)
    have e0 : ∀ w, w < 66 → telZ S n (rsAll S n cn lo0 hi0 ab0) (57 + 66 * i + w) = S (57 + 66 * i + w) := fun w hw => telZ_old (by omega) hw
    refine ⟨⟨ct, (e0 0 (by omega)).trans a1, a2, fun t ht => ?_⟩, fun h => ?_, fun j hj => ?_⟩
    · show vtB (telZ S n (rsAll S n cn lo0 hi0 ab0) (57 + 66 * i + (1 + t))) (telZ S n (rsAll S n cn lo0 hi0 ab0) (57 + 66 * i + (25 + t))) = true
      rw [e0 _ (by omega), e0 _ (by omega)]; exact a3 t ht
    · have h' : telZ S n (rsAll S n cn lo0 hi0 ab0) (57 + 66 * i + 49) < nI 10 := h
      rw [e0 _ (by omega)] at h'
      show inB (telZ S n (rsAll S n cn lo0 hi0 ab0) (57 + 66 * i + 50)) (-9999) 9999 = true
      rw [e0 _ (by omega)]; exact a4 h'
    · show inB (telZ S n (rsAll S n cn lo0 hi0 ab0) (57 + 66 * i + (52 + j))) _ _ = true ∧ inB (telZ S n (rsAll S n cn lo0 hi0 ab0) (57 + 66 * i + (59 + j))) _ _ = true
      rw [e0 _ (by omega), e0 _ (by omega)]; exact a5 j hj
theorem StR.add_ {G : mG} {f f1 : mE} {T : Nat → Nat} {q b fc pr ka va n cn : Nat} {B : Nat → Option Nat} {g K V S : Nat → Int32} (hA : StA G f T q b fc pr ka va n cn B g K V S) (hB : StB G f T n B S) (hn : n < 16) {x t2 k2 v2 r2 p2 q2 : Nat} (z0 : f x = none) (z1 : f t2 = none) (z2 : f k2 = none) (z3 : f v2 = none) (z4 : f r2 = none) (z5 : f p2 = none) (z6 : f q2 = none) {ab gv us : Int32} {K1 V1 lo1 hi1 lo hi : Nat → Int32}
    (h1 : f1 q = some (.inr (4, [.int (nI (n + 1)), .ref b, .ref fc, .ref pr]))) (h2 : f1 b = some (mQ G 2 16 (va_up B n (some x)))) (h3 : f1 pr = some (.inr (5, [.int (nI 0), .ref ka, .ref va]))) (hF : ∀ c e, f c = some e → c ≠ q → c ≠ b → c ≠ pr → f1 c = some e)
    (g1 : f1 x = some (.inr (3, [.ref t2, .ref r2, .int ab, .int gv, .int us]))) (g2 : f1 t2 = some (.inr (5, [.int (nI cn), .ref k2, .ref v2]))) (g3 : f1 k2 = some (mI G 24 (va_cpy K K1 0 0 24))) (g4 : f1 v2 = some (mI G 24 (va_cpy V V1 0 0 24))) (g5 : f1 r2 = some (.inr (2, [.ref p2, .ref q2]))) (g6 : f1 p2 = some (mI G 7 (va_cpy lo lo1 0 0 7))) (g7 : f1 q2 = some (mI G 7 (va_cpy hi hi1 0 0 7)))
    {Z : (Nat → Int32) × (Nat → Int32) × Int32 × Int32 × Int32} (hlo : ∀ j, j < 7 → Z.1 j = lo j ∧ Z.2.1 j = hi j) (hus : Z.2.2.1 = us) (hab : Z.2.2.2.1 = ab) (hgi : Z.2.2.2.2 = if ab < nI 10 then gv else -100005) : ∃ T1, StR G f1 T1 q (telZ S n Z) ∧ Kp f f1 T T1 (fun t => t ≠ q + 1) := by
  obtain ⟨⟨a1, a2, a3, a4, a5, a6⟩, hne, ⟨t1, t2', t3, t4, t5, t6⟩, v1, v2', v3, v4, v5, v6⟩ := hA
  have old : ∀ c e, f c = some e → ¬ (c = x ∨ c = t2 ∨ c = k2 ∨ c = v2 ∨ c = r2 ∨ c = p2 ∨ c = q2) := fun c e hc z => by
    rcases z with z | z | z | z | z | z | z <;> (subst z; simp_all)
  let T1 : Nat → Nat := fun c => if c = x ∨ c = t2 ∨ c = k2 ∨ c = v2 ∨ c = r2 ∨ c = p2 ∨ c = q2 then 0 else T c
  have hk : Kp f f1 T T1 (fun t => t ≠ q + 1) := fun c e hc => ⟨if_neg (old c e hc), fun z => hF c e hc (fun w => z (by rw [w]; exact t1)) (fun w => z (by rw [w]; exact t2')) (fun w => z (by rw [w]; exact t4))⟩
  have ot : ∀ c e t, f c = some e → T c = t → T1 c = t := fun c e t hc ht => (if_neg (old c e hc)).trans ht
  have nt : ∀ c, (c = x ∨ c = t2 ∨ c = k2 ∨ c = v2 ∨ c = r2 ∨ c = p2 ∨ c = q2) → T1 c = 0 := fun c hc => if_pos hc
  refine ⟨T1, ⟨b, fc, pr, ka, va, n + 1, 0, _, g, K, V, ⟨⟨h1, h2, hF fc _ a3 (ne_oi a1 a3).symm (ne_QI a2 a3).symm (ne_oi a4 a3).symm, h3, hF ka _ a5 (ne_oi a1 a5).symm (ne_QI a2 a5).symm (ne_oi a4 a5).symm, hF va _ a6 (ne_oi a1 a6).symm (ne_QI a2 a6).symm (ne_oi a4 a6).symm⟩, hne, ⟨ot _ _ _ a1 t1, ot _ _ _ a2 t2', ot _ _ _ a3 t3, ot _ _ _ a4 t4, ot _ _ _ a5 t5, ot _ _ _ a6 t6⟩, telZ_56, by omega, telZ_7, by omega, fun i hi => absurd hi (Nat.not_lt_zero i), fun i hi => (v6 i hi).trans (telZ_lo (by omega) (by omega) (by omega)).symm⟩, ⟨fun i hi9 => ?_, fun i hi9 hi2 => ?_⟩⟩, hk⟩
  · by_cases e : i = n
    · subst e
      refine ⟨x, va_up_self _ _ _, t2, r2, p2, q2, ab, gv, us, va_cpy lo lo1 0 0 7, va_cpy hi hi1 0 0 7, ⟨g1, g5, g6, g7⟩, ⟨k2, v2, cn, _, _, g2, g3, g4, nt _ (by simp), nt _ (by simp), nt _ (by simp), (telZ_tok (w := 0) (by omega)).trans v3, v4, fun j hj => ?_⟩, nt _ (by simp), nt _ (by simp), nt _ (by simp), nt _ (by simp), (telZ_49.trans hab).symm, telZ_50.trans hgi, (telZ_51.trans hus).symm, fun j hj => ?_⟩
      · have e1 := telZ_tok (S := S) (n := i) (Z := Z) (w := 1 + j) (by omega)
        have e2 := telZ_tok (S := S) (n := i) (Z := Z) (w := 25 + j) (by omega)
        rw [cpy_at (by omega), cpy_at (by omega)]
        show K j = telZ S i Z (57 + 66 * i + (1 + j)) ∧ V j = telZ S i Z (57 + 66 * i + (25 + j))
        rw [e1, e2, ← Nat.add_assoc, ← Nat.add_assoc]; exact v5 j hj
      · rw [cpy_at hj, cpy_at hj]
        show lo j = telZ S i Z (57 + 66 * i + (52 + j)) ∧ hi j = telZ S i Z (57 + 66 * i + (59 + j))
        rw [telZ_52 hj, telZ_59 hj]
        exact ⟨(hlo j hj).1.symm, (hlo j hj).2.symm⟩
    · rw [va_up_ne _ _ e]
      obtain ⟨y, ey, hy⟩ := hB.1 i (by omega)
      exact ⟨y, ey, (hy.keep hk (by omega)).cong (fun w hw => telZ_old (by omega) hw)⟩
  · rw [va_up_ne _ _ (by omega)]
    exact hB.2 i (by omega) hi2
set_option maxHeartbeats 4000000 in
set_option maxRecDepth 100000 in
theorem k_tell (l : Launch) (G : mG) {f : mE} {T : Nat → Nat} {o q0 ra rd sp rr sb : Nat} {S P : Nat → Int32} {rc n cn : Nat} (h : CC G f T o q0 ra rd sp rr sb S P rc) (hv : VSn S n cn) (ir0 wt0 : Bool) (lo0 hi0 : Nat → Int32) (ab0 : Int32) : mC l G yX5_tell wsX5_tell ({ frames := 6, cells := 13, slots := 150, locals := 130 } : Room) f [.ref o] (fun v f1 => v = some (.int (telV S n cn ir0 wt0 lo0 hi0 ab0)) ∧ CI G f1 o (if telO S n cn ir0 wt0 lo0 hi0 ab0 = true then telZ S n (rsAll S n cn lo0 hi0 ab0) else S) (if telO S n cn ir0 wt0 lo0 hi0 ab0 = true then recP S P rc else P) (if telO S n cn ir0 wt0 lo0 hi0 ab0 = true then recN rc else rc) ∧ (telO S n cn ir0 wt0 lo0 hi0 ab0 = true → VSn (telZ S n (rsAll S n cn lo0 hi0 ab0)) (n + 1) 0)) 13 150 := by
  refine mC.of (cc := cX5_tell) (maxL := 1) (ret := (some .int)) (by decide) rfl (Nat.le_of_ble_eq_true rfl) ?_
  intro pgm env s mt args below meth c A ls hx hb hml hr hlocks hown hname hts hK hE hA hM hl
  have hl : lv_has ls 1 [(0, .ref o)] := hl
  have hn16 := hv.2.1
  obtain ⟨b, fc, pr1, ka, va, B, X, rg, pa, qa, tk, loS, hiS, abS, gvS, usS, g, K, V, hA9, hB9, hQ, hg, hgS, hF9, hgv, hL, hT0, hTk⟩ := h.q hv
  have hF := fun w9 e (hb : f w9 = some e)  => hb
  refine lv_aload_n hx hb dX5_tell_0 rfl (lv_at hl 0 rfl) ?_
  refine mm_V (As := []) (rest := []) ⟨hx, hb, hml, hown, hts⟩ (k_isTellable l G h hv) (cwV 0 hts gX5_tell_X5_isTellable rfl rfl rfl (by decide +kernel) ⟨Nat.le_of_ble_eq_true rfl, Nat.le_of_ble_eq_true rfl⟩) hK hE hA hM (mm_recv hK hM h.1 (q := (RX5, TX5, 7)) rfl) rfl hl.1 rfl (Nat.le_of_ble_eq_true rfl) dX5_tell_1 ⟨Nat.le_of_ble_eq_true rfl, Nat.le_of_ble_eq_true rfl⟩ (fun v f Hp lcs hp hM => ?_)
  obtain ⟨tb, rfl, r, p, q, ab, gv, us, pl, t, cp, ir, ng, lo, hi, hR, ht6, hRT, h, hcan, hTK⟩ := hp
  obtain ⟨b, fc, pr1, ka, va, B, X, rg, pa, qa, tk, loS, hiS, abS, gvS, usS, g, K, V, hA9, hB9, hQ, hg, hgS, hF9, hgv, hL, hT0, hTk⟩ := h.q hv
  refine lvb_ne (tgt := 10) hx hb dX5_tell_4 (by decide) (fun cz1 => ?_) (fun cz1 => ?_)
  · refine lv_aload_n hx hb dX5_tell_10 rfl (lv_at hl 0 rfl) ?_
    refine mm_get (C := RX5) (T := TX5) (N := 7) (k := 0) hx hb hts (fun _ h => List.mem_cons_of_mem _ (List.mem_append_left _ (List.mem_append_left _ (List.mem_append_left _ (List.mem_append_left _ (List.mem_append_left _ (List.mem_append_right _ h))))))) hown hK hM h.1 rfl (by decide) (hts (.fieldLink RX5 12 "SentenceRules" "now" "LSentenceRules$State;") (List.mem_of_getElem? (i := 2) rfl)) rfl rfl dX5_tell_11 ?_
    refine mm_get (C := RX3) (T := TX3) (N := 4) (k := 0) hx hb hts (fun _ h => List.mem_cons_of_mem _ (List.mem_append_left _ (List.mem_append_left _ (List.mem_append_left _ (List.mem_append_left _ (List.mem_append_right _ h)))))) hown hK hM hA9.1.1 rfl (by decide) (hts (.fieldLink RX5 86 "SentenceRules$State" "sentenceCount" "I") (List.mem_of_getElem? (i := 3) rfl)) rfl rfl dX5_tell_14 ?_
    refine lv_bipush (v := (nI 16)) hx hb dX5_tell_17 (by decide +kernel) ?_
    refine ln_icmp_lt n 16 (by omega) (by omega) (tgt := 25) hx hb dX5_tell_19 (by decide) (fun cz2 => ?_) (fun cz2 => ?_)
    · have hn9 : n < 16 := (by have := cz2; omega)
      refine lv_aload_n hx hb dX5_tell_25 rfl (lv_at hl 0 rfl) ?_
      refine mm_V (As := []) (rest := []) ⟨hx, hb, hml, hown, hts⟩ (k_recordNow l G h) (cwV 0 hts gX5_tell_X5_recordNow rfl rfl rfl (by decide +kernel) ⟨Nat.le_of_ble_eq_true rfl, Nat.le_of_ble_eq_true rfl⟩) hK hE hA hM (mm_recv hK hM h.1 (q := (RX5, TX5, 7)) rfl) rfl hl.1 rfl (Nat.le_of_ble_eq_true rfl) dX5_tell_26 ⟨Nat.le_of_ble_eq_true rfl, Nat.le_of_ble_eq_true rfl⟩ (fun v f Hp lcs hp hM => ?_)
      obtain ⟨rfl, T, h, hkp⟩ := hp
      obtain ⟨hR, hRT⟩ := hR.keep_ hRT hkp (Or.inr (Or.inr rfl))
      obtain ⟨b, fc, pr1, ka, va, B, X, rg, pa, qa, tk, loS, hiS, abS, gvS, usS, g, K, V, hA9, hB9, hQ, hg, hgS, hF9, hgv, hL, hT0, hTk⟩ := h.q hv
      have hF := fun w9 e (hb : f w9 = some e) (_ : w9 ≠ q0) (_ : w9 ≠ b) (_ : w9 ≠ pr1) => hb
      refine lv_aload_n hx hb dX5_tell_29 rfl (lv_at hl 0 rfl) ?_
      refine mm_get (C := RX5) (T := TX5) (N := 7) (k := 0) hx hb hts (fun _ h => List.mem_cons_of_mem _ (List.mem_append_left _ (List.mem_append_left _ (List.mem_append_left _ (List.mem_append_left _ (List.mem_append_left _ (List.mem_append_right _ h))))))) hown hK hM h.1 rfl (by decide) (hts (.fieldLink RX5 12 "SentenceRules" "now" "LSentenceRules$State;") (List.mem_of_getElem? (i := 2) rfl)) rfl rfl dX5_tell_30 ?_
      refine mm_new (C := RX2) (T := TX2) (N := 5) (ci := 3) hx hb hts (fun _ h => List.mem_cons_of_mem _ (List.mem_append_left _ (List.mem_append_left _ (List.mem_append_left _ (List.mem_append_right _ h))))) tyX2_ok hown (hts (.classLink RX5 92 RX2) (List.mem_of_getElem? (i := 5) rfl)) (hts (.instantiable RX2 5) (List.mem_of_getElem? (i := 6) rfl)) (hts (.initialized RX2) (List.mem_of_getElem? (i := 7) rfl)) hK hM hA rfl [.null, .null, .int 0, .int 0, .int 0] (by decide) (Nat.le_of_ble_eq_true rfl) (Nat.le_of_ble_eq_true rfl) dX5_tell_33 (fun qz3 Hp nz4 hM => ?_)
      obtain ⟨gz5, hM, hz6, rz7⟩ := hM.up
      have fo8 : f qz3 = none := fresh_of (fun e hb => hF qz3 e hb (ne_none hA9.1.1 nz4).symm (ne_none hA9.1.2.1 nz4).symm (ne_none hA9.1.2.2.2.1 nz4).symm) nz4
      have hF := fun w9 e (hb : f w9 = some e) (hn0 : w9 ≠ q0) (hn1 : w9 ≠ b) (hn2 : w9 ≠ pr1) => (rz7 w9 (ne_none (hF w9 e hb hn0 hn1 hn2) nz4)).trans (hF w9 e hb hn0 hn1 hn2)
      have ne9 := ne_none h.1 nz4
      have hz10 := (rz7 _ ne9).trans h.1
      have ne11 := ne_none hA9.1.1 nz4
      have hz12 := (rz7 _ ne11).trans hA9.1.1
      have ne13 := ne_none hA9.1.2.1 nz4
      have hz14 := (rz7 _ ne13).trans hA9.1.2.1
      have ne15 := ne_none hA9.1.2.2.1 nz4
      have hz16 := (rz7 _ ne15).trans hA9.1.2.2.1
      have ne17 := ne_none hA9.1.2.2.2.1 nz4
      have hz18 := (rz7 _ ne17).trans hA9.1.2.2.2.1
      have ne19 := ne_none hA9.1.2.2.2.2.1 nz4
      have hz20 := (rz7 _ ne19).trans hA9.1.2.2.2.2.1
      have ne21 := ne_none hA9.1.2.2.2.2.2 nz4
      have hz22 := (rz7 _ ne21).trans hA9.1.2.2.2.2.2
      have ne23 := ne_none hR.1 nz4
      have hz24 := (rz7 _ ne23).trans hR.1
      have ne25 := ne_none hR.2.1 nz4
      have hz26 := (rz7 _ ne25).trans hR.2.1
      have ne27 := ne_none hR.2.2.1 nz4
      have hz28 := (rz7 _ ne27).trans hR.2.2.1
      have ne29 := ne_none hR.2.2.2.1 nz4
      have hz30 := (rz7 _ ne29).trans hR.2.2.2.1
      refine lv_dup hx hb dX5_tell_36 rfl ?_
      refine lv_aload_n hx hb dX5_tell_37 rfl (lv_at hl 0 rfl) ?_
      refine mm_get (C := RX5) (T := TX5) (N := 7) (k := 0) hx hb hts (fun _ h => List.mem_cons_of_mem _ (List.mem_append_left _ (List.mem_append_left _ (List.mem_append_left _ (List.mem_append_left _ (List.mem_append_left _ (List.mem_append_right _ h))))))) hown hK hM hz10 rfl (by decide) (hts (.fieldLink RX5 12 "SentenceRules" "now" "LSentenceRules$State;") (List.mem_of_getElem? (i := 2) rfl)) rfl rfl dX5_tell_38 ?_
      refine mm_get (C := RX3) (T := TX3) (N := 4) (k := 3) hx hb hts (fun _ h => List.mem_cons_of_mem _ (List.mem_append_left _ (List.mem_append_left _ (List.mem_append_left _ (List.mem_append_left _ (List.mem_append_right _ h)))))) hown hK hM hz12 rfl (by decide) (hts (.fieldLink RX5 57 "SentenceRules$State" "present" "LSentenceRules$Tokens;") (List.mem_of_getElem? (i := 8) rfl)) rfl rfl dX5_tell_41 ?_
      refine lv_aload_n hx hb dX5_tell_44 rfl (lv_at hl 0 rfl) ?_
      refine mm_get (C := RX5) (T := TX5) (N := 7) (k := 3) hx hb hts (fun _ h => List.mem_cons_of_mem _ (List.mem_append_left _ (List.mem_append_left _ (List.mem_append_left _ (List.mem_append_left _ (List.mem_append_left _ (List.mem_append_right _ h))))))) hown hK hM hz10 rfl (by decide) (hts (.fieldLink RX5 23 "SentenceRules" "reader" "LSentenceRules$Reader;") (List.mem_of_getElem? (i := 9) rfl)) rfl rfl dX5_tell_45 ?_
      refine mm_I (As := [.ref pr1, .ref rd]) (rest := [.ref qz3, .ref q0]) ⟨hx, hb, hml, hown, hts⟩ (c2_init l G hz6 hz18 hz20 hz22 (ab := ab) (gv := gv) (us := us) (pl := pl) (lf := nI t) (cp := cp) (ir := ir) (ng := ng) (lo := lo) (hi := hi) ⟨hz24, hz26, hz28, hz30, hR.2.2.2.2⟩) (cwI 2 hts gX5_tell_X2_init rfl rfl rfl (hts (.initialized RX2) (List.mem_of_getElem? (i := 7) rfl)) (hts (.methodLink RX5 94 yX2_init) (List.mem_of_getElem? (i := 204) rfl)) (hts (.instanceMethod yX2_init) (List.mem_of_getElem? (i := 205) rfl)) rfl (by decide +kernel) ⟨Nat.le_of_ble_eq_true rfl, Nat.le_of_ble_eq_true rfl⟩) hK hE hA hM rfl hl.1 rfl (Nat.le_of_ble_eq_true rfl) dX5_tell_48 ⟨Nat.le_of_ble_eq_true rfl, Nat.le_of_ble_eq_true rfl⟩ (fun v gz31 Hp lcs hp hM => ?_)
      obtain ⟨rfl, t2, k2, v2, r2, p2, q2, z1, z2, z3, z4, z5, z6, y0, y1, y2, y3, y4, y5, y6, y7⟩ := hp
      have fo32 : f t2 = none := fresh_of (fun e hb => hF t2 e hb (ne_none hz12 z1).symm (ne_none hz14 z1).symm (ne_none hz18 z1).symm) z1
      have ne33 := ne_none hz10 z1
      have ne34 := ne_none hz12 z1
      have ne35 := ne_none hz14 z1
      have ne36 := ne_none hz16 z1
      have ne37 := ne_none hz18 z1
      have ne38 := ne_none hz20 z1
      have ne39 := ne_none hz22 z1
      have ne40 := ne_none hz24 z1
      have ne41 := ne_none hz26 z1
      have ne42 := ne_none hz28 z1
      have ne43 := ne_none hz30 z1
      have ne44 := ne_none hz6 z1
      have fo45 : f k2 = none := fresh_of (fun e hb => hF k2 e hb (ne_none hz12 z2).symm (ne_none hz14 z2).symm (ne_none hz18 z2).symm) z2
      have ne46 := ne_none hz10 z2
      have ne47 := ne_none hz12 z2
      have ne48 := ne_none hz14 z2
      have ne49 := ne_none hz16 z2
      have ne50 := ne_none hz18 z2
      have ne51 := ne_none hz20 z2
      have ne52 := ne_none hz22 z2
      have ne53 := ne_none hz24 z2
      have ne54 := ne_none hz26 z2
      have ne55 := ne_none hz28 z2
      have ne56 := ne_none hz30 z2
      have ne57 := ne_none hz6 z2
      have fo58 : f v2 = none := fresh_of (fun e hb => hF v2 e hb (ne_none hz12 z3).symm (ne_none hz14 z3).symm (ne_none hz18 z3).symm) z3
      have ne59 := ne_none hz10 z3
      have ne60 := ne_none hz12 z3
      have ne61 := ne_none hz14 z3
      have ne62 := ne_none hz16 z3
      have ne63 := ne_none hz18 z3
      have ne64 := ne_none hz20 z3
      have ne65 := ne_none hz22 z3
      have ne66 := ne_none hz24 z3
      have ne67 := ne_none hz26 z3
      have ne68 := ne_none hz28 z3
      have ne69 := ne_none hz30 z3
      have ne70 := ne_none hz6 z3
      have fo71 : f r2 = none := fresh_of (fun e hb => hF r2 e hb (ne_none hz12 z4).symm (ne_none hz14 z4).symm (ne_none hz18 z4).symm) z4
      have ne72 := ne_none hz10 z4
      have ne73 := ne_none hz12 z4
      have ne74 := ne_none hz14 z4
      have ne75 := ne_none hz16 z4
      have ne76 := ne_none hz18 z4
      have ne77 := ne_none hz20 z4
      have ne78 := ne_none hz22 z4
      have ne79 := ne_none hz24 z4
      have ne80 := ne_none hz26 z4
      have ne81 := ne_none hz28 z4
      have ne82 := ne_none hz30 z4
      have ne83 := ne_none hz6 z4
      have fo84 : f p2 = none := fresh_of (fun e hb => hF p2 e hb (ne_none hz12 z5).symm (ne_none hz14 z5).symm (ne_none hz18 z5).symm) z5
      have ne85 := ne_none hz10 z5
      have ne86 := ne_none hz12 z5
      have ne87 := ne_none hz14 z5
      have ne88 := ne_none hz16 z5
      have ne89 := ne_none hz18 z5
      have ne90 := ne_none hz20 z5
      have ne91 := ne_none hz22 z5
      have ne92 := ne_none hz24 z5
      have ne93 := ne_none hz26 z5
      have ne94 := ne_none hz28 z5
      have ne95 := ne_none hz30 z5
      have ne96 := ne_none hz6 z5
      have fo97 : f q2 = none := fresh_of (fun e hb => hF q2 e hb (ne_none hz12 z6).symm (ne_none hz14 z6).symm (ne_none hz18 z6).symm) z6
      have ne98 := ne_none hz10 z6
      have ne99 := ne_none hz12 z6
      have ne100 := ne_none hz14 z6
      have ne101 := ne_none hz16 z6
      have ne102 := ne_none hz18 z6
      have ne103 := ne_none hz20 z6
      have ne104 := ne_none hz22 z6
      have ne105 := ne_none hz24 z6
      have ne106 := ne_none hz26 z6
      have ne107 := ne_none hz28 z6
      have ne108 := ne_none hz30 z6
      have ne109 := ne_none hz6 z6
      have hz110 := y7 _ _ hz10 ne9
      have hz111 := y7 _ _ hz12 ne11
      have hz112 := y7 _ _ hz14 ne13
      have hz113 := y7 _ _ hz16 ne15
      have hz114 := y7 _ _ hz18 ne17
      have hz115 := y7 _ _ hz20 ne19
      have hz116 := y7 _ _ hz22 ne21
      have hz117 := y7 _ _ hz24 ne23
      have hz118 := y7 _ _ hz26 ne25
      have hz119 := y7 _ _ hz28 ne27
      have hz120 := y7 _ _ hz30 ne29
      have hF := fun w9 e (hb : f w9 = some e) (hn0 : w9 ≠ q0) (hn1 : w9 ≠ b) (hn2 : w9 ≠ pr1) => y7 w9 e (hF w9 e hb hn0 hn1 hn2) (ne_none hb fo8)
      refine mm_V (As := [.ref qz3]) (rest := []) ⟨hx, hb, hml, hown, hts⟩ (c3_addSentence l G hz111 hz112 y0 hn9) (cwV 1 hts gX5_tell_X3_addSentence rfl rfl rfl (by decide +kernel) ⟨Nat.le_of_ble_eq_true rfl, Nat.le_of_ble_eq_true rfl⟩) hK hE hA hM (mm_recv hK hM hz111 (q := (RX3, TX3, 4)) rfl) rfl hl.1 rfl (Nat.le_of_ble_eq_true rfl) dX5_tell_51 ⟨Nat.le_of_ble_eq_true rfl, Nat.le_of_ble_eq_true rfl⟩ (fun v gz121 Hp lcs hp hM => ?_)
      obtain ⟨rfl, hz122, hz123, rz124⟩ := hp
      have hz125 := rz124 _ _ hz110 (ne_oo hz110 hz111 (by show (6 : Nat) ≠ 4; decide)) (ne_oi hz110 hz112)
      have hz126 := rz124 _ _ hz113 (ne_oi hz111 hz113).symm (ne_QI hz112 hz113).symm
      have hz127 := rz124 _ _ hz114 (ne_oo hz114 hz111 (by show (5 : Nat) ≠ 4; decide)) (ne_oi hz114 hz112)
      have hz128 := rz124 _ _ hz115 (ne_oi hz111 hz115).symm (ne_QI hz112 hz115).symm
      have hz129 := rz124 _ _ hz116 (ne_oi hz111 hz116).symm (ne_QI hz112 hz116).symm
      have hz130 := rz124 _ _ hz117 (ne_oo hz117 hz111 (by show (1 : Nat) ≠ 4; decide)) (ne_oi hz117 hz112)
      have hz131 := rz124 _ _ hz118 (ne_oo hz118 hz111 (by show (2 : Nat) ≠ 4; decide)) (ne_oi hz118 hz112)
      have hz132 := rz124 _ _ hz119 (ne_oi hz111 hz119).symm (ne_QI hz112 hz119).symm
      have hz133 := rz124 _ _ hz120 (ne_oi hz111 hz120).symm (ne_QI hz112 hz120).symm
      have hz134 := rz124 _ _ y0 (Ne.symm ne11) (Ne.symm ne13)
      have hz135 := rz124 _ _ y1 (Ne.symm ne34) (Ne.symm ne35)
      have hz136 := rz124 _ _ y2 (Ne.symm ne47) (Ne.symm ne48)
      have hz137 := rz124 _ _ y3 (Ne.symm ne60) (Ne.symm ne61)
      have hz138 := rz124 _ _ y4 (Ne.symm ne73) (Ne.symm ne74)
      have hz139 := rz124 _ _ y5 (Ne.symm ne86) (Ne.symm ne87)
      have hz140 := rz124 _ _ y6 (Ne.symm ne99) (Ne.symm ne100)
      have hF := fun w9 e (hb : f w9 = some e) (hn0 : w9 ≠ q0) (hn1 : w9 ≠ b) (hn2 : w9 ≠ pr1) => rz124 w9 e (hF w9 e hb hn0 hn1 hn2) hn0 hn1
      refine lv_aload_n hx hb dX5_tell_54 rfl (lv_at hl 0 rfl) ?_
      refine mm_get (C := RX5) (T := TX5) (N := 7) (k := 0) hx hb hts (fun _ h => List.mem_cons_of_mem _ (List.mem_append_left _ (List.mem_append_left _ (List.mem_append_left _ (List.mem_append_left _ (List.mem_append_left _ (List.mem_append_right _ h))))))) hown hK hM hz125 rfl (by decide) (hts (.fieldLink RX5 12 "SentenceRules" "now" "LSentenceRules$State;") (List.mem_of_getElem? (i := 2) rfl)) rfl rfl dX5_tell_55 ?_
      refine mm_get (C := RX3) (T := TX3) (N := 4) (k := 3) hx hb hts (fun _ h => List.mem_cons_of_mem _ (List.mem_append_left _ (List.mem_append_left _ (List.mem_append_left _ (List.mem_append_left _ (List.mem_append_right _ h)))))) hown hK hM hz122 rfl (by decide) (hts (.fieldLink RX5 57 "SentenceRules$State" "present" "LSentenceRules$Tokens;") (List.mem_of_getElem? (i := 8) rfl)) rfl rfl dX5_tell_58 ?_
      refine mm_V (As := []) (rest := []) ⟨hx, hb, hml, hown, hts⟩ (c4_removeAll l G hz127 hz128 hz129) (cwV 0 hts gX5_tell_X4_removeAll rfl rfl rfl (by decide +kernel) ⟨Nat.le_of_ble_eq_true rfl, Nat.le_of_ble_eq_true rfl⟩) hK hE hA hM (mm_recv hK hM hz127 (q := (RX4, TX4, 3)) rfl) rfl hl.1 rfl (Nat.le_of_ble_eq_true rfl) dX5_tell_61 ⟨Nat.le_of_ble_eq_true rfl, Nat.le_of_ble_eq_true rfl⟩ (fun v gz141 Hp lcs hp hM => ?_)
      obtain ⟨rfl, hz142, rz143⟩ := hp
      have hz144 := (rz143 _ (ne_oo hz125 hz127 (by show (6 : Nat) ≠ 5; decide))).trans hz125
      have hz145 := (rz143 _ (ne_oi hz127 hz126).symm).trans hz126
      have hz146 := (rz143 _ (ne_oi hz127 hz128).symm).trans hz128
      have hz147 := (rz143 _ (ne_oi hz127 hz129).symm).trans hz129
      have hz148 := (rz143 _ (ne_oo hz130 hz127 (by show (1 : Nat) ≠ 5; decide))).trans hz130
      have hz149 := (rz143 _ (ne_oo hz131 hz127 (by show (2 : Nat) ≠ 5; decide))).trans hz131
      have hz150 := (rz143 _ (ne_oi hz127 hz132).symm).trans hz132
      have hz151 := (rz143 _ (ne_oi hz127 hz133).symm).trans hz133
      have hz152 := (rz143 _ (Ne.symm ne17)).trans hz134
      have hz153 := (rz143 _ (Ne.symm ne37)).trans hz135
      have hz154 := (rz143 _ (Ne.symm ne50)).trans hz136
      have hz155 := (rz143 _ (Ne.symm ne63)).trans hz137
      have hz156 := (rz143 _ (Ne.symm ne76)).trans hz138
      have hz157 := (rz143 _ (Ne.symm ne89)).trans hz139
      have hz158 := (rz143 _ (Ne.symm ne102)).trans hz140
      have hz159 := (rz143 _ (ne_oo hz122 hz127 (by show (4 : Nat) ≠ 5; decide))).trans hz122
      have hz160 := (rz143 _ (ne_oi hz127 hz123).symm).trans hz123
      have hF := fun w9 e (hb : f w9 = some e) (hn0 : w9 ≠ q0) (hn1 : w9 ≠ b) (hn2 : w9 ≠ pr1) => (rz143 w9 hn2).trans (hF w9 e hb hn0 hn1 hn2)
      refine lv_aload_n hx hb dX5_tell_64 rfl (lv_at hl 0 rfl) ?_
      refine mm_get (C := RX5) (T := TX5) (N := 7) (k := 0) hx hb hts (fun _ h => List.mem_cons_of_mem _ (List.mem_append_left _ (List.mem_append_left _ (List.mem_append_left _ (List.mem_append_left _ (List.mem_append_left _ (List.mem_append_right _ h))))))) hown hK hM hz144 rfl (by decide) (hts (.fieldLink RX5 12 "SentenceRules" "now" "LSentenceRules$State;") (List.mem_of_getElem? (i := 2) rfl)) rfl rfl dX5_tell_65 ?_
      refine mm_get (C := RX3) (T := TX3) (N := 4) (k := 0) hx hb hts (fun _ h => List.mem_cons_of_mem _ (List.mem_append_left _ (List.mem_append_left _ (List.mem_append_left _ (List.mem_append_left _ (List.mem_append_right _ h)))))) hown hK hM hz159 rfl (by decide) (hts (.fieldLink RX5 86 "SentenceRules$State" "sentenceCount" "I") (List.mem_of_getElem? (i := 3) rfl)) rfl rfl dX5_tell_68 ?_
      refine lv_iconst (v := (nI 1)) hx hb dX5_tell_71 (by decide +kernel) ?_
      refine ln_isub (n + 1) 1 (by omega) hx hb dX5_tell_72 ?_
      refine mv_top (y := (nI n)) (congrArg nI (by omega)) ?_
      exact mm_iret hx hb hlocks hr (Nat.le_of_ble_eq_true rfl) (Nat.le_of_ble_eq_true rfl) hM (by have e0 : canB S n cn ir0 wt0 lo0 hi0 ab0 = true := (hcan ir0 wt0 lo0 hi0 ab0).symm.trans cz1; have e1 : telO S n cn ir0 wt0 lo0 hi0 ab0 = true := (by rw [telO, e0, decide_eq_false (by omega)]; rfl); obtain ⟨w1, w2, w3, w4⟩ := (hTK cz1).1 lo0 hi0 ab0; obtain ⟨T1, hs, hk⟩ := StR.add_ (Z := rsAll S n cn lo0 hi0 ab0) hA9 hB9 hn9 fo8 fo32 fo45 fo58 fo71 fo84 fo97 hz159 hz160 hz142 hF hz152 hz153 hz154 hz155 hz156 hz157 hz158 w1 w2 w3 w4; rw [telV, e0, e1, if_pos rfl, if_neg (by omega), if_pos rfl, if_pos rfl, if_pos rfl]; exact ⟨rfl, ⟨T1, q0, ra, rd, sp, rr, sb, h.now_ hk hs⟩, fun _ => hv.tell hn9 (hTK cz1) lo0 hi0 ab0⟩) dX5_tell_73
    refine lv_ldc (v := (-100004)) hx hb hown (hts (.constant RX5 70 (-100004)) (List.mem_of_getElem? (i := 4) rfl)) dX5_tell_22 ?_
    exact mm_iret hx hb hlocks hr (Nat.le_of_ble_eq_true rfl) (Nat.le_of_ble_eq_true rfl) hM (by have e0 : canB S n cn ir0 wt0 lo0 hi0 ab0 = true := (hcan ir0 wt0 lo0 hi0 ab0).symm.trans cz1; have e2 : n = 16 := (by have := cz2; have := hv.2.1; omega); have e1 : telO S n cn ir0 wt0 lo0 hi0 ab0 = false := (by rw [telO, decide_eq_true e2, Bool.not_true, Bool.and_false]); rw [telV, e0, e1, if_pos rfl, if_pos e2, if_neg (by decide), if_neg (by decide), if_neg (by decide)]; exact ⟨rfl, ⟨T, q0, ra, rd, sp, rr, sb, h⟩, fun z => absurd z (by decide)⟩) dX5_tell_24
  refine lv_ldc (v := (-100003)) hx hb hown (hts (.constant RX5 75 (-100003)) (List.mem_of_getElem? (i := 1) rfl)) dX5_tell_7 ?_
  exact mm_iret hx hb hlocks hr (Nat.le_of_ble_eq_true rfl) (Nat.le_of_ble_eq_true rfl) hM (by have e0 : canB S n cn ir0 wt0 lo0 hi0 ab0 = false := (hcan ir0 wt0 lo0 hi0 ab0).symm.trans cz1; have e1 : telO S n cn ir0 wt0 lo0 hi0 ab0 = false := (by rw [telO, e0, Bool.false_and]); rw [telV, e0, e1, if_neg (by decide), if_neg (by decide), if_neg (by decide), if_neg (by decide)]; exact ⟨rfl, ⟨T, q0, ra, rd, sp, rr, sb, h⟩, fun z => absurd z (by decide)⟩) dX5_tell_9
