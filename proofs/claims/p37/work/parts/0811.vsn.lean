/-! BOTH SIDES: the state stays as it should be -/
theorem SenK.cong {s s2 : Nat → Int32} (h : SenK s) (e : ∀ w, w < 66 → s2 w = s w) : SenK s2 := by
  obtain ⟨⟨ct, a1, a2, a3⟩, a4, a5⟩ := h
  refine ⟨⟨ct, (e 0 (by decide)).trans a1, a2, fun t ht => ?_⟩, fun h => ?_, fun j hj => ?_⟩
  · rw [e _ (by omega), e _ (by omega)]; exact a3 t ht
  · rw [e _ (by decide)] at h ⊢; exact a4 h
  · rw [e _ (by omega), e _ (by omega)]; exact a5 j hj
theorem VSn.of {S S2 : Nat → Int32} {n cn n2 cn2 : Nat} (hv : VSn S n cn) (h56 : S2 56 = nI n2) (hn : n2 ≤ 16) (h7 : S2 7 = nI cn2) (h24 : cn2 ≤ 24) (ht : ∀ j, j < cn2 → vtB (S2 (7 + 1 + j)) (S2 (7 + 25 + j)) = true) (hs : ∀ i, i < n2 → ∃ i0, i0 < n ∧ ∀ w, w < 66 → S2 (57 + 66 * i + w) = S (57 + 66 * i0 + w)) (hf : ∀ j, j < 7 → -100005 < S2 j) : VSn S2 n2 cn2 :=
  ⟨h56, hn, h7, h24, ht, fun i hi => by obtain ⟨i0, h0, e⟩ := hs i hi; exact (hv.2.2.2.2.2.1 i0 h0).cong e, hf⟩
theorem VSn.cong {S S2 : Nat → Int32} {n cn : Nat} (hv : VSn S n cn) (e : ∀ w, w < 1113 → S2 w = S w) : VSn S2 n cn := by
  have h := hv
  obtain ⟨v1, v2, v3, v4, v5, v6, v7⟩ := h
  exact hv.of ((e 56 (by decide)).trans v1) v2 ((e 7 (by decide)).trans v3) v4 (fun j hj => by rw [e _ (by omega), e _ (by omega)]; exact v5 j hj) (fun i hi => ⟨i, hi, fun w hw => e _ (by omega)⟩) (fun j hj => by rw [e j (by omega)]; exact v7 j hj)
theorem VSn.add {S : Nat → Int32} {n cn : Nat} (hv : VSn S n cn) {kd x : Int32} (hx : vtB kd x = true) : ∃ c2, VSn (addT S cn kd x) n c2 := by
  have h := hv
  obtain ⟨v1, v2, v3, v4, v5, v6, v7⟩ := h
  by_cases hc : cn = 24
  · rw [addT, if_pos hc]; exact ⟨cn, hv⟩
  · rw [addT, if_neg hc]
    refine ⟨cn + 1, hv.of ((addS_at (by omega) (by omega) (by omega)).trans v1) v2 (by unfold addS upd; rw [if_pos rfl]) (by omega) (fun j hj => ?_) (fun i hi => ⟨i, hi, fun w hw => addS_at (by omega) (by omega) (by omega)⟩) (fun j hj => by rw [addS_at (by omega) (by omega) (by omega)]; exact v7 j hj)⟩
    by_cases e : j = cn
    · subst e
      have e1 : addS S j kd x (7 + 1 + j) = kd := by unfold addS upd; rw [if_neg (by omega), if_neg (by omega), if_pos (by omega)]
      have e2 : addS S j kd x (7 + 25 + j) = x := by unfold addS upd; rw [if_neg (by omega), if_pos (by omega)]
      rw [e1, e2]; exact hx
    · rw [addS_at (by omega) (by omega) (by omega), addS_at (by omega) (by omega) (by omega)]; exact v5 j (by omega)
theorem VSn.cnt {S : Nat → Int32} {n cn c : Nat} (hv : VSn S n cn) (hc : c ≤ cn) : VSn (upd S 7 (nI c)) n c := by
  have h := hv
  obtain ⟨v1, v2, v3, v4, v5, v6, v7⟩ := h
  exact hv.of ((up7 (by decide)).trans v1) v2 (updE rfl) (by omega) (fun j hj => by rw [up7 (by omega), up7 (by omega)]; exact v5 j (by omega)) (fun i hi => ⟨i, hi, fun w hw => up7 (by omega)⟩) (fun j hj => by rw [up7 (by omega)]; exact v7 j hj)
theorem VSn.fact {S : Nat → Int32} {n cn k : Nat} {x : Int32} (hv : VSn S n cn) (hk : k < 7) (hx : valB (nI k) x = true) : VSn (upd S k x) n cn := by
  have h := hv
  obtain ⟨v1, v2, v3, v4, v5, v6, v7⟩ := h
  refine hv.of ((updN (by omega)).trans v1) v2 ((updN (by omega)).trans v3) v4 (fun j hj => by rw [updN (by omega), updN (by omega)]; exact v5 j hj) (fun i hi => ⟨i, hi, fun w hw => updN (by omega)⟩) (fun j hj => ?_)
  by_cases e : j = k
  · rw [updE e]
    rw [valB, Bool.and_eq_true] at hx
    exact Int32.lt_of_lt_of_le (show (-100005 : Int32) < -9999 by decide) (Int32.le_trans (lim_lo hk).1 (inB_le hx.2).1)
  · rw [updN e]; exact v7 j hj
theorem VSn.ret {S : Nat → Int32} {n cn j : Nat} (hv : VSn S n cn) (hj : j < n) : VSn (retS S n j) (n - 1) cn := by
  have h := hv
  obtain ⟨v1, v2, v3, v4, v5, v6, v7⟩ := h
  have e : ∀ m, m < 56 → retS S n j m = S m := fun m hm => by unfold retS; rw [updN (by omega), retK_lo (by omega)]
  refine hv.of (by unfold retS; exact updE rfl) (by omega) ((e 7 (by decide)).trans v3) v4 (fun i hi => by rw [e _ (by omega), e _ (by omega)]; exact v5 i hi) (fun i hi => ?_) (fun i hi => by rw [e i (by omega)]; exact v7 i hi)
  by_cases hij : j ≤ i
  · refine ⟨i + 1, by omega, fun w hw => ?_⟩
    unfold retS retK; rw [updN (by omega), if_pos (by omega)]; congr 1; omega
  · refine ⟨i, by omega, fun w hw => ?_⟩
    unfold retS retK; rw [updN (by omega), if_neg (by omega)]
def PK (P : Nat → Int32) (rc : Nat) : Prop := ∀ i, i < rc → ∃ n cn, VSn (fun w => P (1113 * i + w)) n cn
theorem PK.rec_ {S P : Nat → Int32} {rc n cn : Nat} (h : PK P rc) (hv : VSn S n cn) (hr : rc ≤ 8) : PK (recP S P rc) (recN rc) := by
  intro i hi
  by_cases h8 : rc = 8
  · rw [recN, if_pos h8] at hi
    rw [recP, if_pos h8]
    by_cases e7 : i = 7
    · subst e7; exact ⟨n, cn, hv.cong (fun w hw => cpK_at hw)⟩
    · obtain ⟨n2, c2, h2⟩ := h (i + 1) (by omega)
      refine ⟨n2, c2, h2.cong (fun w hw => ?_)⟩
      show cpK S _ 7 1113 (1113 * i + w) = P (1113 * (i + 1) + w)
      rw [cpK_lo (by omega) hw]
      unfold shK
      rw [if_pos (by omega)]
      congr 1; omega
  · rw [recN, if_neg h8] at hi
    rw [recP, if_neg h8]
    by_cases e : i = rc
    · subst e; exact ⟨n, cn, hv.cong (fun w hw => cpK_at hw)⟩
    · obtain ⟨n2, c2, h2⟩ := h i (by omega)
      exact ⟨n2, c2, h2.cong (fun w hw => cpK_lo (by omega) hw)⟩
theorem PK.less {P : Nat → Int32} {rc q : Nat} (h : PK P rc) (hq : q ≤ rc) : PK P q := fun i hi => h i (by omega)
theorem recN_le {rc : Nat} (h : rc ≤ 8) : recN rc ≤ 8 := by unfold recN; split <;> omega
theorem CC.rc8 {G : mG} {f : mE} {T : Nat → Nat} {o q0 ra rd sp rr sb : Nat} {S P : Nat → Int32} {rc : Nat} (h : CC G f T o q0 ra rd sp rr sb S P rc) : rc ≤ 8 := by
  obtain ⟨-, -, -, -, -, -, -, ⟨RB, Z, -, -, hr, -⟩⟩ := h
  exact hr

