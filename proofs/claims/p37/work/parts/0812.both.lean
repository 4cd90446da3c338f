theorem VSn.ct {S : Nat → Int32} {n cn : Nat} (hv : VSn S n cn) : (∀ k, k < n → S (57 + 66 * k + 0) = nI (ctN S k) ∧ ctN S k ≤ 24) ∧ ∀ k, k < n → ∀ t, t < ctN S k → vtB (S (57 + 66 * k + (1 + t))) (S (57 + 66 * k + (25 + t))) = true := by
  have key : ∀ k, k < n → ∃ ct, S (57 + 66 * k + 0) = nI ct ∧ ctN S k = ct ∧ ct ≤ 24 ∧ ∀ t, t < ct → vtB (S (57 + 66 * k + (1 + t))) (S (57 + 66 * k + (25 + t))) = true := fun k hk => by
    obtain ⟨⟨ct, a1, a2, a3⟩, -⟩ := hv.2.2.2.2.2.1 k hk
    exact ⟨ct, a1, by rw [ctN, show S (57 + 66 * k + 0) = nI ct from a1, nI_clamp (by omega)], a2, a3⟩
  refine ⟨fun k hk => ?_, fun k hk t ht => ?_⟩
  · obtain ⟨ct, a1, a2, a3, -⟩ := key k hk
    rw [a2]; exact ⟨a1, a3⟩
  · obtain ⟨ct, a1, a2, a3, a4⟩ := key k hk
    exact a4 t (by rw [← a2]; exact ht)
theorem yrN_up : ∀ k i, yrN i + 365 * k ≤ yrN (i + k)
  | 0, i => Nat.le_refl _
  | k + 1, i => by
    have h := yrN_up k i
    rw [show i + (k + 1) = (i + k) + 1 by omega, yrN]
    split <;> omega
theorem yr199x : yrN 199 = 72684 := by decide +kernel
theorem mo2099 : ∀ m, m < 12 → moN 2099 m + daysN 2099 (1 + m) ≤ 365 := by decide +kernel
theorem vt_0 {x : Int32} (h : inB x 0 25 = true) : vtB 0 x = true := by unfold vtB; rw [h]; rfl
theorem vt_1 {x : Int32} (h : inB x (-9999) 9999 = true) : vtB 1 x = true := by unfold vtB; rw [h]; rfl
theorem vt_2 {x1 x2 x3 : Int32} (h : dateB x1 x2 x3 = true) : vtB 2 (dayI x1 x2 x3) = true := by
  obtain ⟨y, m, d, hy1, hy2, hm1, hm2, hd1, hd2, rfl, rfl, rfl⟩ := date_nat h
  have hb : inB (dayI (nI y) (nI m) (nI d)) 0 73048 = true := by
    have hq := h
    rw [dateB, Bool.and_eq_true, Bool.and_eq_true, daysF_nI (by omega)] at hq
    have h3 := (inB_le hq.2).2
    rw [Int32.le_iff_toInt_le, nI_toInt (by omega), nI_toInt (by have := daysN_le y m; omega)] at h3
    have hN : dayN y m d ≤ 73048 := by
      unfold dayN
      by_cases e : y = 2099
      · subst e
        have h4 := mo2099 (m - 1) (by omega)
        rw [show 1 + (m - 1) = m by omega] at h4
        have h5 : yrN (2099 - 1900) = 72684 := yr199x
        omega
      · have h4 := yrN_up (199 - (y - 1900)) (y - 1900)
        rw [show y - 1900 + (199 - (y - 1900)) = 199 by omega, yr199x] at h4
        have h5 := moN_le y (m - 1)
        omega
    rw [dayI_nI hy2 hm2 hd2]
    show inB (nI (dayN y m d)) (nI 0) (nI 73048) = true
    rw [inB_nI (by omega) (by decide) (by decide), decide_eq_true (Nat.zero_le _), decide_eq_true hN]; rfl
  unfold vtB; rw [hb]; rfl
theorem VSn.add_if {S : Nat → Int32} {n cn : Nat} (hv : VSn S n cn) {c : Prop} [Decidable c] {kd x : Int32} (hx : c → vtB kd x = true) : ∃ n c2, VSn (if c then addT S cn kd x else S) n c2 := by
  by_cases h : c
  · rw [if_pos h]; obtain ⟨c2, h2⟩ := hv.add (hx h); exact ⟨n, c2, h2⟩
  · rw [if_neg h]; exact ⟨n, cn, hv⟩
