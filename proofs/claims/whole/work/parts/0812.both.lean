/-! BOTH SIDES: one call, alike -/
def RX (G : mG) (h : mE) (o : Nat) (S P : Nat → Int32) (rc : Nat) : Prop := ∃ (a : Nat → Nat) (lo hi ou : Nat → Int32) (ir wt : Bool) (us ab gi wr : Int32), RI G h o a S P lo hi ou (nI rc) (bI ir) (bI wt) us ab gi wr (-100005)
def LI (G : mG) (f h : mE) (ox om : Nat) : Prop := ∃ (S P : Nat → Int32) (rc : Nat), CI G f ox S P rc ∧ RX G h om S P rc ∧ (∃ n c, VSn S n c) ∧ PK P rc
def BB (l : Launch) (G : mG) (y5 : MethodName) (ws5 : List Cond) (R5 : Room) (y6 : MethodName) (ws6 : List Cond) (R6 : Room) (f h : mE) (ox om : Nat) (as : List Value) (mc ms : Nat) : Prop := ∃ (V : Int32) (S1 P1 : Nat → Int32) (rc1 : Nat), mC l G y5 ws5 R5 f (.ref ox :: as) (fun v f1 => v = some (.int V) ∧ CI G f1 ox S1 P1 rc1 ∧ (∃ n c, VSn S1 n c) ∧ PK P1 rc1) mc ms ∧ mC l G y6 ws6 R6 h (.ref om :: as) (fun v h1 => v = some (.int V) ∧ RX G h1 om S1 P1 rc1) 0 0
theorem VSn.ct {S : Nat → Int32} {n cn : Nat} (hv : VSn S n cn) : (∀ k, k < n → S (57 + 66 * k + 0) = nI (ctN S k) ∧ ctN S k ≤ 24) ∧ ∀ k, k < n → ∀ t, t < ctN S k → vtB (S (57 + 66 * k + (1 + t))) (S (57 + 66 * k + (25 + t))) = true := by
  have key : ∀ k, k < n → ∃ ct, S (57 + 66 * k + 0) = nI ct ∧ ctN S k = ct ∧ ct ≤ 24 ∧ ∀ t, t < ct → vtB (S (57 + 66 * k + (1 + t))) (S (57 + 66 * k + (25 + t))) = true := fun k hk => by
    obtain ⟨⟨ct, a1, a2, a3⟩, -⟩ := hv.2.2.2.2.2.1 k hk
    exact ⟨ct, a1, by rw [ctN, show S (57 + 66 * k + 0) = nI ct from a1, nI_clamp (by omega)], a2, a3⟩
  refine ⟨fun k hk => ?_, fun k hk t ht => ?_⟩
  · obtain ⟨ct, a1, a2, a3, -⟩ := key k hk
    rw [a2]; exact ⟨a1, a3⟩
  · obtain ⟨ct, a1, a2, a3, a4⟩ := key k hk
    exact a4 t (by rw [← a2]; exact ht)
theorem yrN_up : ∀ k i, yrN i + 365 * k ≤ yrN (i + k)
  | 0, i => Nat.le_refl _
  | k + 1, i => by
    have h := yrN_up k i
    rw [show i + (k + 1) = (i + k) + 1 by omega, yrN]
    split <;> omega
theorem yr199x : yrN 199 = 72684 := by decide +kernel
theorem mo2099 : ∀ m, m < 12 → moN 2099 m + daysN 2099 (1 + m) ≤ 365 := by decide +kernel
theorem vt_0 {x : Int32} (h : inB x 0 25 = true) : vtB 0 x = true := by unfold vtB; rw [h]; rfl
theorem vt_1 {x : Int32} (h : inB x (-9999) 9999 = true) : vtB 1 x = true := by unfold vtB; rw [h]; rfl
theorem vt_2 {x1 x2 x3 : Int32} (h : dateB x1 x2 x3 = true) : vtB 2 (dayI x1 x2 x3) = true := by
  obtain ⟨y, m, d, hy1, hy2, hm1, hm2, hd1, hd2, rfl, rfl, rfl⟩ := date_nat h
  have hb : inB (dayI (nI y) (nI m) (nI d)) 0 73048 = true := by
    have hq := h
    rw [dateB, Bool.and_eq_true, Bool.and_eq_true, daysF_nI (by omega)] at hq
    have h3 := (inB_le hq.2).2
    rw [Int32.le_iff_toInt_le, nI_toInt (by omega), nI_toInt (by have := daysN_le y m; omega)] at h3
    have hN : dayN y m d ≤ 73048 := by
      unfold dayN
      by_cases e : y = 2099
      · subst e
        have h4 := mo2099 (m - 1) (by omega)
        rw [show 1 + (m - 1) = m by omega] at h4
        have h5 : yrN (2099 - 1900) = 72684 := yr199x
        omega
      · have h4 := yrN_up (199 - (y - 1900)) (y - 1900)
        rw [show y - 1900 + (199 - (y - 1900)) = 199 by omega, yr199x] at h4
        have h5 := moN_le y (m - 1)
        omega
    rw [dayI_nI hy2 hm2 hd2]
    show inB (nI (dayN y m d)) (nI 0) (nI 73048) = true
    rw [inB_nI (by omega) (by decide) (by decide), decide_eq_true (Nat.zero_le _), decide_eq_true hN]; rfl
  unfold vtB; rw [hb]; rfl
theorem VSn.add_if {S : Nat → Int32} {n cn : Nat} (hv : VSn S n cn) {c : Prop} [Decidable c] {kd x : Int32} (hx : c → vtB kd x = true) : ∃ n c2, VSn (if c then addT S cn kd x else S) n c2 := by
  by_cases h : c
  · rw [if_pos h]; obtain ⟨c2, h2⟩ := hv.add (hx h); exact ⟨n, c2, h2⟩
  · rw [if_neg h]; exact ⟨n, cn, hv⟩
theorem c6_backG (l : Launch) (G : mG) {f : mE} {o : Nat} {a : Nat → Nat} {S P lo hi ou : Nat → Int32} {rc isr wd us ab gi wr wo : Int32} (hI : RI G f o a S P lo hi ou rc isr wd us ab gi wr wo) {cn : Nat} (hc : S 7 = nI cn) (hc24 : cn ≤ 24) : mC l G yX6_back wsX6_back ({ frames := 0, cells := 0, slots := 0, locals := 0 } : Room) f [.ref o] (fun v f1 => v = some (.int (if cn = 0 then -100003 else nI (cn - 1))) ∧ RI G f1 o a (if cn = 0 then S else upd S 7 (nI (cn - 1))) P lo hi ou rc isr wd us ab gi wr wo) 0 0 := by
  by_cases h0 : cn = 0
  · subst h0
    exact (c6_back0 l G hI hc).mono (fun v f1 q => ⟨q.1, by rw [if_pos rfl]; exact q.2 ▸ hI⟩)
  · obtain ⟨c, rfl⟩ : ∃ c, cn = c + 1 := ⟨cn - 1, by omega⟩
    exact (c6_backL l G hI hc (by omega)).mono (fun v f1 q => by rw [if_neg h0, if_neg h0, Nat.add_sub_cancel]; exact q)
theorem b_sentences (l : Launch) (G : mG) {f h : mE} {ox om : Nat} (hLI : LI G f h ox om) : BB l G yX5_sentences wsX5_sentences ({ frames := 0, cells := 0, slots := 0, locals := 0 } : Room) yX6_sentences wsX6_sentences ({ frames := 0, cells := 0, slots := 0, locals := 0 } : Room) f h ox om [] 0 0 := by
  obtain ⟨S, P, rc, hC0, hR0, ⟨n, cn, hv⟩, hP⟩ := hLI
  have hR1 := hR0
  obtain ⟨a, lo, hi, ou, ir, wt, us, ab, gi, wr, hI⟩ := hR0
  have hC1 := hC0
  obtain ⟨T, q0, ra, rd, sp, rr, sb, hC⟩ := hC0
  exact ⟨_, S, P, rc, (k_sentences l G hC hv ).mono (fun v f1 hp => ⟨hp.1, hp.2, ⟨n, cn, hv⟩, hP⟩), (c6_sentences l G hI hv.1 hv.2.1 ).mono (fun v f1 hp => ⟨hp.1, hp.2 ▸ hR1⟩)⟩
theorem b_about (l : Launch) (G : mG) {f h : mE} {ox om : Nat} (hLI : LI G f h ox om) (k : Int32) : BB l G yX5_about wsX5_about ({ frames := 1, cells := 0, slots := 0, locals := 21 } : Room) yX6_about wsX6_about ({ frames := 3, cells := 0, slots := 0, locals := 65 } : Room) f h ox om [.int k] 0 0 := by
  obtain ⟨S, P, rc, hC0, hR0, ⟨n, cn, hv⟩, hP⟩ := hLI
  have hR1 := hR0
  obtain ⟨a, lo, hi, ou, ir, wt, us, ab, gi, wr, hI⟩ := hR0
  have hC1 := hC0
  obtain ⟨T, q0, ra, rd, sp, rr, sb, hC⟩ := hC0
  exact ⟨_, S, P, rc, (k_about l G hC hv k).mono (fun v f1 hp => ⟨hp.1, hp.2, ⟨n, cn, hv⟩, hP⟩), (c6_about l G hI hv.1 hv.2.1 k).mono (fun v f1 hp => ⟨hp.1, hp.2 ▸ hR1⟩)⟩
theorem b_gives (l : Launch) (G : mG) {f h : mE} {ox om : Nat} (hLI : LI G f h ox om) (k : Int32) : BB l G yX5_gives wsX5_gives ({ frames := 1, cells := 0, slots := 0, locals := 21 } : Room) yX6_gives wsX6_gives ({ frames := 3, cells := 0, slots := 0, locals := 65 } : Room) f h ox om [.int k] 0 0 := by
  obtain ⟨S, P, rc, hC0, hR0, ⟨n, cn, hv⟩, hP⟩ := hLI
  have hR1 := hR0
  obtain ⟨a, lo, hi, ou, ir, wt, us, ab, gi, wr, hI⟩ := hR0
  have hC1 := hC0
  obtain ⟨T, q0, ra, rd, sp, rr, sb, hC⟩ := hC0
  exact ⟨_, S, P, rc, (k_gives l G hC hv k).mono (fun v f1 hp => ⟨hp.1, hp.2, ⟨n, cn, hv⟩, hP⟩), (c6_gives l G hI hv.1 hv.2.1 k).mono (fun v f1 hp => ⟨hp.1, hp.2 ▸ hR1⟩)⟩
theorem b_least (l : Launch) (G : mG) {f h : mE} {ox om : Nat} (hLI : LI G f h ox om) (k x : Int32) : BB l G yX5_least wsX5_least ({ frames := 1, cells := 0, slots := 0, locals := 21 } : Room) yX6_least wsX6_least ({ frames := 2, cells := 0, slots := 0, locals := 43 } : Room) f h ox om [.int k, .int x] 0 0 := by
  obtain ⟨S, P, rc, hC0, hR0, ⟨n, cn, hv⟩, hP⟩ := hLI
  have hR1 := hR0
  obtain ⟨a, lo, hi, ou, ir, wt, us, ab, gi, wr, hI⟩ := hR0
  have hC1 := hC0
  obtain ⟨T, q0, ra, rd, sp, rr, sb, hC⟩ := hC0
  exact ⟨_, S, P, rc, (k_least l G hC hv k x).mono (fun v f1 hp => ⟨hp.1, hp.2, ⟨n, cn, hv⟩, hP⟩), (c6_least l G hI hv.1 hv.2.1 k x).mono (fun v f1 hp => ⟨hp.1, hp.2 ▸ hR1⟩)⟩
theorem b_greatest (l : Launch) (G : mG) {f h : mE} {ox om : Nat} (hLI : LI G f h ox om) (k x : Int32) : BB l G yX5_greatest wsX5_greatest ({ frames := 1, cells := 0, slots := 0, locals := 21 } : Room) yX6_greatest wsX6_greatest ({ frames := 2, cells := 0, slots := 0, locals := 43 } : Room) f h ox om [.int k, .int x] 0 0 := by
  obtain ⟨S, P, rc, hC0, hR0, ⟨n, cn, hv⟩, hP⟩ := hLI
  have hR1 := hR0
  obtain ⟨a, lo, hi, ou, ir, wt, us, ab, gi, wr, hI⟩ := hR0
  have hC1 := hC0
  obtain ⟨T, q0, ra, rd, sp, rr, sb, hC⟩ := hC0
  exact ⟨_, S, P, rc, (k_greatest l G hC hv k x).mono (fun v f1 hp => ⟨hp.1, hp.2, ⟨n, cn, hv⟩, hP⟩), (c6_greatest l G hI hv.1 hv.2.1 k x).mono (fun v f1 hp => ⟨hp.1, hp.2 ▸ hR1⟩)⟩
theorem b_sharpness (l : Launch) (G : mG) {f h : mE} {ox om : Nat} (hLI : LI G f h ox om) (k : Int32) : BB l G yX5_sharpness wsX5_sharpness ({ frames := 2, cells := 0, slots := 0, locals := 42 } : Room) yX6_sharpness wsX6_sharpness ({ frames := 2, cells := 0, slots := 0, locals := 45 } : Room) f h ox om [.int k] 0 0 := by
  obtain ⟨S, P, rc, hC0, hR0, ⟨n, cn, hv⟩, hP⟩ := hLI
  have hR1 := hR0
  obtain ⟨a, lo, hi, ou, ir, wt, us, ab, gi, wr, hI⟩ := hR0
  have hC1 := hC0
  obtain ⟨T, q0, ra, rd, sp, rr, sb, hC⟩ := hC0
  exact ⟨_, S, P, rc, (k_sharpness l G hC hv k).mono (fun v f1 hp => ⟨hp.1, hp.2, ⟨n, cn, hv⟩, hP⟩), (c6_sharpness l G hI hv.1 hv.2.1 k).mono (fun v f1 hp => ⟨hp.1, hp.2 ▸ hR1⟩)⟩
theorem b_uses (l : Launch) (G : mG) {f h : mE} {ox om : Nat} (hLI : LI G f h ox om) (k : Int32) : BB l G yX5_uses wsX5_uses ({ frames := 1, cells := 0, slots := 0, locals := 21 } : Room) yX6_uses wsX6_uses ({ frames := 3, cells := 0, slots := 0, locals := 65 } : Room) f h ox om [.int k] 0 0 := by
  obtain ⟨S, P, rc, hC0, hR0, ⟨n, cn, hv⟩, hP⟩ := hLI
  have hR1 := hR0
  obtain ⟨a, lo, hi, ou, ir, wt, us, ab, gi, wr, hI⟩ := hR0
  have hC1 := hC0
  obtain ⟨T, q0, ra, rd, sp, rr, sb, hC⟩ := hC0
  exact ⟨_, S, P, rc, (k_uses l G hC hv k).mono (fun v f1 hp => ⟨hp.1, hp.2, ⟨n, cn, hv⟩, hP⟩), (c6_uses l G hI hv.1 hv.2.1 k).mono (fun v f1 hp => ⟨hp.1, hp.2 ▸ hR1⟩)⟩
theorem b_definition (l : Launch) (G : mG) {f h : mE} {ox om : Nat} (hLI : LI G f h ox om) (w : Int32) : BB l G yX5_definition wsX5_definition ({ frames := 2, cells := 0, slots := 0, locals := 44 } : Room) yX6_definition wsX6_definition ({ frames := 2, cells := 0, slots := 0, locals := 44 } : Room) f h ox om [.int w] 0 0 := by
  obtain ⟨S, P, rc, hC0, hR0, ⟨n, cn, hv⟩, hP⟩ := hLI
  have hR1 := hR0
  obtain ⟨a, lo, hi, ou, ir, wt, us, ab, gi, wr, hI⟩ := hR0
  have hC1 := hC0
  obtain ⟨T, q0, ra, rd, sp, rr, sb, hC⟩ := hC0
  exact ⟨_, S, P, rc, (k_definition l G hC hv w).mono (fun v f1 hp => ⟨hp.1, hp.2, ⟨n, cn, hv⟩, hP⟩), (c6_definition l G hI hv.1 hv.2.1 w).mono (fun v f1 hp => ⟨hp.1, hp.2 ▸ hR1⟩)⟩
theorem b_answer (l : Launch) (G : mG) {f h : mE} {ox om : Nat} (hLI : LI G f h ox om) (r : Int32) : BB l G yX5_answer wsX5_answer ({ frames := 5, cells := 0, slots := 0, locals := 124 } : Room) yX6_answer wsX6_answer ({ frames := 5, cells := 0, slots := 0, locals := 115 } : Room) f h ox om [.int r] 0 0 := by
  obtain ⟨S, P, rc, hC0, hR0, ⟨n, cn, hv⟩, hP⟩ := hLI
  have hR1 := hR0
  obtain ⟨a, lo, hi, ou, ir, wt, us, ab, gi, wr, hI⟩ := hR0
  have hC1 := hC0
  obtain ⟨T, q0, ra, rd, sp, rr, sb, hC⟩ := hC0
  exact ⟨_, S, P, rc, (k_answer l G hC hv r).mono (fun v f1 hp => ⟨hp.1, hp.2, ⟨n, cn, hv⟩, hP⟩), (c6_answer l G hI hv.1 hv.2.1 r).mono (fun v f1 hp => ⟨hp.1, hp.2 ▸ hR1⟩)⟩
theorem b_reasons (l : Launch) (G : mG) {f h : mE} {ox om : Nat} (hLI : LI G f h ox om) (r : Int32) : BB l G yX5_reasons wsX5_reasons ({ frames := 5, cells := 0, slots := 0, locals := 121 } : Room) yX6_reasons wsX6_reasons ({ frames := 4, cells := 0, slots := 0, locals := 92 } : Room) f h ox om [.int r] 0 0 := by
  obtain ⟨S, P, rc, hC0, hR0, ⟨n, cn, hv⟩, hP⟩ := hLI
  have hR1 := hR0
  obtain ⟨a, lo, hi, ou, ir, wt, us, ab, gi, wr, hI⟩ := hR0
  have hC1 := hC0
  obtain ⟨T, q0, ra, rd, sp, rr, sb, hC⟩ := hC0
  exact ⟨_, S, P, rc, (k_reasons l G hC hv r).mono (fun v f1 hp => ⟨hp.1, hp.2, ⟨n, cn, hv⟩, hP⟩), (c6_reasons l G hI hv.1 hv.2.1 r).mono (fun v f1 hp => ⟨hp.1, hp.2 ▸ hR1⟩)⟩
theorem b_reason (l : Launch) (G : mG) {f h : mE} {ox om : Nat} (hLI : LI G f h ox om) (r x : Int32) : BB l G yX5_reason wsX5_reason ({ frames := 5, cells := 0, slots := 0, locals := 121 } : Room) yX6_reason wsX6_reason ({ frames := 4, cells := 0, slots := 0, locals := 92 } : Room) f h ox om [.int r, .int x] 0 0 := by
  obtain ⟨S, P, rc, hC0, hR0, ⟨n, cn, hv⟩, hP⟩ := hLI
  have hR1 := hR0
  obtain ⟨a, lo, hi, ou, ir, wt, us, ab, gi, wr, hI⟩ := hR0
  have hC1 := hC0
  obtain ⟨T, q0, ra, rd, sp, rr, sb, hC⟩ := hC0
  exact ⟨_, S, P, rc, (k_reason l G hC hv r x).mono (fun v f1 hp => ⟨hp.1, hp.2, ⟨n, cn, hv⟩, hP⟩), (c6_reason l G hI hv.1 hv.2.1 r x).mono (fun v f1 hp => ⟨hp.1, hp.2 ▸ hR1⟩)⟩
theorem b_overridden (l : Launch) (G : mG) {f h : mE} {ox om : Nat} (hLI : LI G f h ox om) (r : Int32) : BB l G yX5_overridden wsX5_overridden ({ frames := 3, cells := 0, slots := 0, locals := 74 } : Room) yX6_overridden wsX6_overridden ({ frames := 4, cells := 0, slots := 0, locals := 92 } : Room) f h ox om [.int r] 0 0 := by
  obtain ⟨S, P, rc, hC0, hR0, ⟨n, cn, hv⟩, hP⟩ := hLI
  have hR1 := hR0
  obtain ⟨a, lo, hi, ou, ir, wt, us, ab, gi, wr, hI⟩ := hR0
  have hC1 := hC0
  obtain ⟨T, q0, ra, rd, sp, rr, sb, hC⟩ := hC0
  exact ⟨_, S, P, rc, (k_overridden l G hC hv r).mono (fun v f1 hp => ⟨hp.1, hp.2, ⟨n, cn, hv⟩, hP⟩), (c6_overridden l G hI hv.1 hv.2.1 r).mono (fun v f1 hp => ⟨hp.1, hp.2 ▸ hR1⟩)⟩
theorem b_holds (l : Launch) (G : mG) {f h : mE} {ox om : Nat} (hLI : LI G f h ox om) (w : Int32) : BB l G yX5_holds wsX5_holds ({ frames := 2, cells := 0, slots := 0, locals := 44 } : Room) yX6_holds wsX6_holds ({ frames := 2, cells := 0, slots := 0, locals := 45 } : Room) f h ox om [.int w] 0 0 := by
  obtain ⟨S, P, rc, hC0, hR0, ⟨n, cn, hv⟩, hP⟩ := hLI
  have hR1 := hR0
  obtain ⟨a, lo, hi, ou, ir, wt, us, ab, gi, wr, hI⟩ := hR0
  have hC1 := hC0
  obtain ⟨T, q0, ra, rd, sp, rr, sb, hC⟩ := hC0
  exact ⟨_, S, P, rc, (k_holds l G hC hv w).mono (fun v f1 hp => ⟨hp.1, hp.2, ⟨n, cn, hv⟩, hP⟩), (c6_holds l G hI hv.1 hv.2.1 w).mono (fun v f1 hp => ⟨hp.1, hp.2 ▸ hR1⟩)⟩
theorem b_fact (l : Launch) (G : mG) {f h : mE} {ox om : Nat} (hLI : LI G f h ox om) (x : Int32) : BB l G yX5_fact wsX5_fact ({ frames := 1, cells := 0, slots := 0, locals := 20 } : Room) yX6_fact wsX6_fact ({ frames := 2, cells := 0, slots := 0, locals := 42 } : Room) f h ox om [.int x] 0 0 := by
  obtain ⟨S, P, rc, hC0, hR0, ⟨n, cn, hv⟩, hP⟩ := hLI
  have hR1 := hR0
  obtain ⟨a, lo, hi, ou, ir, wt, us, ab, gi, wr, hI⟩ := hR0
  have hC1 := hC0
  obtain ⟨T, q0, ra, rd, sp, rr, sb, hC⟩ := hC0
  exact ⟨_, S, P, rc, (k_fact l G hC hv x).mono (fun v f1 hp => ⟨hp.1, hp.2, ⟨n, cn, hv⟩, hP⟩), (c6_fact l G hI x).mono (fun v f1 hp => ⟨hp.1, hp.2 ▸ hR1⟩)⟩
theorem b_dayNumber (l : Launch) (G : mG) {f h : mE} {ox om : Nat} (hLI : LI G f h ox om) (x1 x2 x3 : Int32) : BB l G yX5_dayNumber wsX5_dayNumber ({ frames := 3, cells := 0, slots := 0, locals := 65 } : Room) yX6_dayNumber wsX6_dayNumber ({ frames := 3, cells := 0, slots := 0, locals := 65 } : Room) f h ox om [.int x1, .int x2, .int x3] 0 0 := by
  obtain ⟨S, P, rc, hC0, hR0, ⟨n, cn, hv⟩, hP⟩ := hLI
  have hR1 := hR0
  obtain ⟨a, lo, hi, ou, ir, wt, us, ab, gi, wr, hI⟩ := hR0
  have hC1 := hC0
  obtain ⟨T, q0, ra, rd, sp, rr, sb, hC⟩ := hC0
  exact ⟨_, S, P, rc, (k_dayNumber l G x1 x2 x3).mono (fun v f1 hp => ⟨hp.1, hp.2 ▸ hC1, ⟨n, cn, hv⟩, hP⟩), (c6_dayNumber l G hI.obj x1 x2 x3).mono (fun v f1 hp => ⟨hp.1, hp.2 ▸ hR1⟩)⟩
theorem b_dateOf (l : Launch) (G : mG) {f h : mE} {ox om : Nat} (hLI : LI G f h ox om) (x : Int32) : BB l G yX5_dateOf wsX5_dateOf ({ frames := 3, cells := 0, slots := 0, locals := 65 } : Room) yX6_dateOf wsX6_dateOf ({ frames := 3, cells := 0, slots := 0, locals := 64 } : Room) f h ox om [.int x] 0 0 := by
  obtain ⟨S, P, rc, hC0, hR0, ⟨n, cn, hv⟩, hP⟩ := hLI
  have hR1 := hR0
  obtain ⟨a, lo, hi, ou, ir, wt, us, ab, gi, wr, hI⟩ := hR0
  have hC1 := hC0
  obtain ⟨T, q0, ra, rd, sp, rr, sb, hC⟩ := hC0
  exact ⟨_, S, P, rc, (k_dateOf l G x).mono (fun v f1 hp => ⟨hp.1, hp.2 ▸ hC1, ⟨n, cn, hv⟩, hP⟩), (c6_dateOf l G hI.obj x).mono (fun v f1 hp => ⟨hp.1, hp.2 ▸ hR1⟩)⟩
theorem b_compare (l : Launch) (G : mG) {f h : mE} {ox om : Nat} (hLI : LI G f h ox om) (k x : Int32) : BB l G yX5_compare wsX5_compare ({ frames := 2, cells := 0, slots := 0, locals := 43 } : Room) yX6_compare wsX6_compare ({ frames := 2, cells := 0, slots := 0, locals := 46 } : Room) f h ox om [.int k, .int x] 0 0 := by
  obtain ⟨S, P, rc, hC0, hR0, ⟨n, cn, hv⟩, hP⟩ := hLI
  have hR1 := hR0
  obtain ⟨a, lo, hi, ou, ir, wt, us, ab, gi, wr, hI⟩ := hR0
  have hC1 := hC0
  obtain ⟨T, q0, ra, rd, sp, rr, sb, hC⟩ := hC0
  exact ⟨_, S, P, rc, (k_compare l G hC hv k x).mono (fun v f1 hp => ⟨hp.1, hp.2, ⟨n, cn, hv⟩, hP⟩), (c6_compare l G hI hv.1 hv.2.1 k x).mono (fun v f1 hp => by obtain ⟨e, lo1, hi1, h1⟩ := hp; exact ⟨e, a, lo1, hi1, ou, ir, wt, us, ab, gi, wr, h1⟩)⟩
theorem b_contradiction (l : Launch) (G : mG) {f h : mE} {ox om : Nat} (hLI : LI G f h ox om) (x : Int32) : BB l G yX5_contradiction wsX5_contradiction ({ frames := 4, cells := 0, slots := 0, locals := 92 } : Room) yX6_contradiction wsX6_contradiction ({ frames := 4, cells := 0, slots := 0, locals := 92 } : Room) f h ox om [.int x] 0 0 := by
  obtain ⟨S, P, rc, hC0, hR0, ⟨n, cn, hv⟩, hP⟩ := hLI
  have hR1 := hR0
  obtain ⟨a, lo, hi, ou, ir, wt, us, ab, gi, wr, hI⟩ := hR0
  have hC1 := hC0
  obtain ⟨T, q0, ra, rd, sp, rr, sb, hC⟩ := hC0
  exact ⟨_, S, P, rc, (k_contradiction l G hC hv x).mono (fun v f1 hp => ⟨hp.1, hp.2, ⟨n, cn, hv⟩, hP⟩), (c6_contradiction l G hI hv.1 hv.2.1 x).mono (fun v f1 hp => by obtain ⟨e, lo1, hi1, h1⟩ := hp; exact ⟨e, a, lo1, hi1, ou, ir, wt, us, ab, gi, wr, h1⟩)⟩
theorem b_answerIf (l : Launch) (G : mG) {f h : mE} {ox om : Nat} (hLI : LI G f h ox om) (r k x : Int32) : BB l G yX5_answerIf wsX5_answerIf ({ frames := 6, cells := 0, slots := 0, locals := 147 } : Room) yX6_answerIf wsX6_answerIf ({ frames := 6, cells := 0, slots := 0, locals := 140 } : Room) f h ox om [.int r, .int k, .int x] 0 0 := by
  obtain ⟨S, P, rc, hC0, hR0, ⟨n, cn, hv⟩, hP⟩ := hLI
  have hR1 := hR0
  obtain ⟨a, lo, hi, ou, ir, wt, us, ab, gi, wr, hI⟩ := hR0
  have hC1 := hC0
  obtain ⟨T, q0, ra, rd, sp, rr, sb, hC⟩ := hC0
  exact ⟨_, S, P, rc, (k_answerIf l G hC hv r k x).mono (fun v f1 hp => ⟨hp.1, hp.2, ⟨n, cn, hv⟩, hP⟩), (c6_answerIf l G hI hv.1 hv.2.1 r k x).mono (fun v f1 hp => ⟨hp.1, ⟨a, lo, hi, ou, ir, wt, us, ab, gi, wr, hp.2⟩⟩)⟩
theorem b_nextChange (l : Launch) (G : mG) {f h : mE} {ox om : Nat} (hLI : LI G f h ox om) (r k : Int32) : BB l G yX5_nextChange wsX5_nextChange ({ frames := 6, cells := 0, slots := 0, locals := 147 } : Room) yX6_nextChange wsX6_nextChange ({ frames := 6, cells := 0, slots := 0, locals := 140 } : Room) f h ox om [.int r, .int k] 0 0 := by
  obtain ⟨S, P, rc, hC0, hR0, ⟨n, cn, hv⟩, hP⟩ := hLI
  have hR1 := hR0
  obtain ⟨a, lo, hi, ou, ir, wt, us, ab, gi, wr, hI⟩ := hR0
  have hC1 := hC0
  obtain ⟨T, q0, ra, rd, sp, rr, sb, hC⟩ := hC0
  exact ⟨_, S, P, rc, (k_nextChange l G hC hv r k).mono (fun v f1 hp => ⟨hp.1, hp.2, ⟨n, cn, hv⟩, hP⟩), (c6_nextChange l G hI hv.1 hv.2.1 r k).mono (fun v f1 hp => ⟨hp.1, ⟨a, lo, hi, ou, ir, wt, us, ab, gi, wr, hp.2⟩⟩)⟩
theorem b_leastFor (l : Launch) (G : mG) {f h : mE} {ox om : Nat} (hLI : LI G f h ox om) (r k x : Int32) : BB l G yX5_leastFor wsX5_leastFor ({ frames := 6, cells := 0, slots := 0, locals := 147 } : Room) yX6_leastFor wsX6_leastFor ({ frames := 6, cells := 0, slots := 0, locals := 140 } : Room) f h ox om [.int r, .int k, .int x] 0 0 := by
  obtain ⟨S, P, rc, hC0, hR0, ⟨n, cn, hv⟩, hP⟩ := hLI
  have hR1 := hR0
  obtain ⟨a, lo, hi, ou, ir, wt, us, ab, gi, wr, hI⟩ := hR0
  have hC1 := hC0
  obtain ⟨T, q0, ra, rd, sp, rr, sb, hC⟩ := hC0
  exact ⟨_, S, P, rc, (k_leastFor l G hC hv r k x).mono (fun v f1 hp => ⟨hp.1, hp.2, ⟨n, cn, hv⟩, hP⟩), (c6_leastFor l G hI hv.1 hv.2.1 r k x).mono (fun v f1 hp => ⟨hp.1, ⟨a, lo, hi, ou, ir, wt, us, ab, gi, wr, hp.2⟩⟩)⟩
theorem b_matters (l : Launch) (G : mG) {f h : mE} {ox om : Nat} (hLI : LI G f h ox om) (k : Int32) : BB l G yX5_matters wsX5_matters ({ frames := 5, cells := 0, slots := 0, locals := 124 } : Room) yX6_matters wsX6_matters ({ frames := 5, cells := 0, slots := 0, locals := 115 } : Room) f h ox om [.int k] 0 0 := by
  obtain ⟨S, P, rc, hC0, hR0, ⟨n, cn, hv⟩, hP⟩ := hLI
  have hR1 := hR0
  obtain ⟨a, lo, hi, ou, ir, wt, us, ab, gi, wr, hI⟩ := hR0
  have hC1 := hC0
  obtain ⟨T, q0, ra, rd, sp, rr, sb, hC⟩ := hC0
  exact ⟨_, S, P, rc, (k_matters l G hC hv k).mono (fun v f1 hp => ⟨hp.1, hp.2, ⟨n, cn, hv⟩, hP⟩), (c6_matters l G hI hv.1 hv.2.1 rfl k).mono (fun v f1 hp => ⟨hp.1, ⟨a, lo, hi, ou, ir, wt, us, ab, gi, wr, hp.2⟩⟩)⟩
theorem b_length (l : Launch) (G : mG) {f h : mE} {ox om : Nat} (hLI : LI G f h ox om) (k : Int32) : BB l G yX5_length wsX5_length ({ frames := 2, cells := 0, slots := 0, locals := 40 } : Room) yX6_length wsX6_length ({ frames := 5, cells := 0, slots := 0, locals := 109 } : Room) f h ox om [.int k] 0 0 := by
  obtain ⟨S, P, rc, hC0, hR0, ⟨n, cn, hv⟩, hP⟩ := hLI
  have hR1 := hR0
  obtain ⟨a, lo, hi, ou, ir, wt, us, ab, gi, wr, hI⟩ := hR0
  have hC1 := hC0
  obtain ⟨T, q0, ra, rd, sp, rr, sb, hC⟩ := hC0
  exact ⟨_, S, P, rc, (k_length l G hC hv k).mono (fun v f1 hp => ⟨hp.1, hp.2, ⟨n, cn, hv⟩, hP⟩), (c6_length l G hI hv.1 hv.2.1 hv.ct.1 hv.ct.2 k).mono (fun v f1 hp => by obtain ⟨e, ou1, wr1, h1⟩ := hp; exact ⟨e, a, lo, hi, ou1, ir, wt, us, ab, gi, wr1, h1⟩)⟩
theorem b_character (l : Launch) (G : mG) {f h : mE} {ox om : Nat} (hLI : LI G f h ox om) (k x : Int32) : BB l G yX5_character wsX5_character ({ frames := 4, cells := 0, slots := 0, locals := 85 } : Room) yX6_character wsX6_character ({ frames := 5, cells := 0, slots := 0, locals := 109 } : Room) f h ox om [.int k, .int x] 0 0 := by
  obtain ⟨S, P, rc, hC0, hR0, ⟨n, cn, hv⟩, hP⟩ := hLI
  have hR1 := hR0
  obtain ⟨a, lo, hi, ou, ir, wt, us, ab, gi, wr, hI⟩ := hR0
  have hC1 := hC0
  obtain ⟨T, q0, ra, rd, sp, rr, sb, hC⟩ := hC0
  exact ⟨_, S, P, rc, (k_character l G hC hv k x).mono (fun v f1 hp => ⟨hp.1, hp.2, ⟨n, cn, hv⟩, hP⟩), (c6_character l G hI hv.1 hv.2.1 hv.ct.1 hv.ct.2 k x).mono (fun v f1 hp => by obtain ⟨e, ou1, wr1, h1⟩ := hp; exact ⟨e, a, lo, hi, ou1, ir, wt, us, ab, gi, wr1, h1⟩)⟩
theorem b_word (l : Launch) (G : mG) {f h : mE} {ox om : Nat} (hLI : LI G f h ox om) (x : Int32) : BB l G yX5_word wsX5_word ({ frames := 2, cells := 0, slots := 0, locals := 44 } : Room) yX6_word wsX6_word ({ frames := 1, cells := 0, slots := 0, locals := 23 } : Room) f h ox om [.int x] 0 0 := by
  obtain ⟨S, P, rc, hC0, hR0, ⟨n, cn, hv⟩, hP⟩ := hLI
  have hR1 := hR0
  obtain ⟨a, lo, hi, ou, ir, wt, us, ab, gi, wr, hI⟩ := hR0
  have hC1 := hC0
  obtain ⟨T, q0, ra, rd, sp, rr, sb, hC⟩ := hC0
  exact ⟨_, (if inB x 0 25 = true then addT S cn 0 x else S), P, rc, (k_word l G hC hv x).mono (fun v f1 hp => ⟨hp.1, hp.2, hv.add_if vt_0, hP⟩), (c6_word l G hI hv.2.2.1 hv.2.2.2.1 x).mono (fun v f1 hp => ⟨hp.1, ⟨a, lo, hi, ou, ir, wt, us, ab, gi, wr, hp.2⟩⟩)⟩
theorem b_number (l : Launch) (G : mG) {f h : mE} {ox om : Nat} (hLI : LI G f h ox om) (x : Int32) : BB l G yX5_number wsX5_number ({ frames := 2, cells := 0, slots := 0, locals := 44 } : Room) yX6_number wsX6_number ({ frames := 1, cells := 0, slots := 0, locals := 23 } : Room) f h ox om [.int x] 0 0 := by
  obtain ⟨S, P, rc, hC0, hR0, ⟨n, cn, hv⟩, hP⟩ := hLI
  have hR1 := hR0
  obtain ⟨a, lo, hi, ou, ir, wt, us, ab, gi, wr, hI⟩ := hR0
  have hC1 := hC0
  obtain ⟨T, q0, ra, rd, sp, rr, sb, hC⟩ := hC0
  exact ⟨_, (if inB x (-9999) 9999 = true then addT S cn 1 x else S), P, rc, (k_number l G hC hv x).mono (fun v f1 hp => ⟨hp.1, hp.2, hv.add_if vt_1, hP⟩), (c6_number l G hI hv.2.2.1 hv.2.2.2.1 x).mono (fun v f1 hp => ⟨hp.1, ⟨a, lo, hi, ou, ir, wt, us, ab, gi, wr, hp.2⟩⟩)⟩
theorem b_date (l : Launch) (G : mG) {f h : mE} {ox om : Nat} (hLI : LI G f h ox om) (x1 x2 x3 : Int32) : BB l G yX5_date wsX5_date ({ frames := 3, cells := 0, slots := 0, locals := 65 } : Room) yX6_date wsX6_date ({ frames := 3, cells := 0, slots := 0, locals := 65 } : Room) f h ox om [.int x1, .int x2, .int x3] 0 0 := by
  obtain ⟨S, P, rc, hC0, hR0, ⟨n, cn, hv⟩, hP⟩ := hLI
  have hR1 := hR0
  obtain ⟨a, lo, hi, ou, ir, wt, us, ab, gi, wr, hI⟩ := hR0
  have hC1 := hC0
  obtain ⟨T, q0, ra, rd, sp, rr, sb, hC⟩ := hC0
  exact ⟨_, (if dateB x1 x2 x3 = true then addT S cn 2 (dayI x1 x2 x3) else S), P, rc, (k_date l G hC hv x1 x2 x3).mono (fun v f1 hp => ⟨hp.1, hp.2, hv.add_if vt_2, hP⟩), (c6_date l G hI hv.2.2.1 hv.2.2.2.1 x1 x2 x3).mono (fun v f1 hp => ⟨hp.1, ⟨a, lo, hi, ou, ir, wt, us, ab, gi, wr, hp.2⟩⟩)⟩
theorem b_back (l : Launch) (G : mG) {f h : mE} {ox om : Nat} (hLI : LI G f h ox om) : BB l G yX5_back wsX5_back ({ frames := 1, cells := 0, slots := 0, locals := 20 } : Room) yX6_back wsX6_back ({ frames := 0, cells := 0, slots := 0, locals := 0 } : Room) f h ox om [] 0 0 := by
  obtain ⟨S, P, rc, hC0, hR0, ⟨n, cn, hv⟩, hP⟩ := hLI
  have hR1 := hR0
  obtain ⟨a, lo, hi, ou, ir, wt, us, ab, gi, wr, hI⟩ := hR0
  have hC1 := hC0
  obtain ⟨T, q0, ra, rd, sp, rr, sb, hC⟩ := hC0
  refine ⟨_, (if cn = 0 then S else upd S 7 (nI (cn - 1))), P, rc, (k_back l G hC hv).mono (fun v f1 hp => ⟨hp.1, hp.2, ?_, hP⟩), (c6_backG l G hI hv.2.2.1 hv.2.2.2.1).mono (fun v f1 hp => ⟨hp.1, ⟨a, lo, hi, ou, ir, wt, us, ab, gi, wr, hp.2⟩⟩)⟩
  by_cases h0 : cn = 0
  · rw [if_pos h0]; exact ⟨n, cn, hv⟩
  · rw [if_neg h0]; exact ⟨n, cn - 1, hv.cnt (by omega)⟩
theorem b_clear (l : Launch) (G : mG) {f h : mE} {ox om : Nat} (hLI : LI G f h ox om) : BB l G yX5_clear wsX5_clear ({ frames := 1, cells := 0, slots := 0, locals := 20 } : Room) yX6_clear wsX6_clear ({ frames := 0, cells := 0, slots := 0, locals := 0 } : Room) f h ox om [] 0 0 := by
  obtain ⟨S, P, rc, hC0, hR0, ⟨n, cn, hv⟩, hP⟩ := hLI
  have hR1 := hR0
  obtain ⟨a, lo, hi, ou, ir, wt, us, ab, gi, wr, hI⟩ := hR0
  have hC1 := hC0
  obtain ⟨T, q0, ra, rd, sp, rr, sb, hC⟩ := hC0
  exact ⟨_, (upd S 7 (nI 0)), P, rc, (k_clear l G hC hv).mono (fun v f1 hp => ⟨hp.1, hp.2, ⟨n, 0, hv.cnt (Nat.zero_le _)⟩, hP⟩), (c6_clear l G hI).mono (fun v f1 hp => ⟨hp.1.trans (congrArg (fun z => some (Value.int z)) hv.2.2.1), ⟨a, lo, hi, ou, ir, wt, us, ab, gi, wr, hp.2⟩⟩)⟩
theorem b_syntaxError (l : Launch) (G : mG) {f h : mE} {ox om : Nat} (hLI : LI G f h ox om) : BB l G yX5_syntaxError wsX5_syntaxError ({ frames := 5, cells := 0, slots := 0, locals := 109 } : Room) yX6_syntaxError wsX6_syntaxError ({ frames := 4, cells := 0, slots := 0, locals := 92 } : Room) f h ox om [] 0 0 := by
  obtain ⟨S, P, rc, hC0, hR0, ⟨n, cn, hv⟩, hP⟩ := hLI
  have hR1 := hR0
  obtain ⟨a, lo, hi, ou, ir, wt, us, ab, gi, wr, hI⟩ := hR0
  have hC1 := hC0
  obtain ⟨T, q0, ra, rd, sp, rr, sb, hC⟩ := hC0
  exact ⟨(errF S cn 0 ir wt 0).1, S, P, rc, (k_syntaxError l G hC hv).mono (fun v f1 hp => by obtain ⟨E, e1, e2, e3⟩ := hp; exact ⟨e1.trans (congrArg (fun z => some (Value.int z)) (e2 ir wt)), e3, ⟨n, cn, hv⟩, hP⟩), (c6_syntaxError l G hI hv.2.2.1 hv.2.2.2.1).mono (fun v f1 hp => ⟨hp.1, a, lo, hi, ou, _, _, us, ab, gi, wr, hp.2⟩)⟩
theorem b_tell (l : Launch) (G : mG) {f h : mE} {ox om : Nat} (hLI : LI G f h ox om) : BB l G yX5_tell wsX5_tell ({ frames := 10, cells := 620, slots := 1909, locals := 221 } : Room) yX6_tell wsX6_tell ({ frames := 5, cells := 0, slots := 0, locals := 114 } : Room) f h ox om [] 620 1909 := by
  obtain ⟨S, P, rc, hC0, hR0, ⟨n, cn, hv⟩, hP⟩ := hLI
  have hR1 := hR0
  obtain ⟨a, lo, hi, ou, ir, wt, us, ab, gi, wr, hI⟩ := hR0
  have hC1 := hC0
  obtain ⟨T, q0, ra, rd, sp, rr, sb, hC⟩ := hC0
  have h8 := hC.rc8
  by_cases ho : telO S n cn ir wt lo hi ab = true
  · exact ⟨(telV S n cn ir wt lo hi ab), (telZ S n (rsAll S n cn lo hi ab)), (recP S P rc), (recN rc), (k_tell l G hC hv ir wt lo hi ab).mono (fun v f1 hp => by rw [if_pos ho, if_pos ho, if_pos ho] at hp; exact ⟨hp.1, hp.2.1, ⟨n + 1, 0, hp.2.2 ho⟩, hP.rec_ hv h8⟩), (c6_tell l G hI h8 hv.1 hv.2.1 hv.2.2.1 hv.2.2.2.1).mono (fun v f1 hp => by rw [if_pos ho, if_pos ho, if_pos ho] at hp; obtain ⟨e, l2, h2, u2, a2, g2, h1⟩ := hp; exact ⟨e, a, l2, h2, ou, _, _, u2, a2, g2, wr, h1⟩)⟩
  · exact ⟨(telV S n cn ir wt lo hi ab), S, P, rc, (k_tell l G hC hv ir wt lo hi ab).mono (fun v f1 hp => by rw [if_neg ho, if_neg ho, if_neg ho] at hp; exact ⟨hp.1, hp.2.1, ⟨n, cn, hv⟩, hP⟩), (c6_tell l G hI h8 hv.1 hv.2.1 hv.2.2.1 hv.2.2.2.1).mono (fun v f1 hp => by rw [if_neg ho, if_neg ho, if_neg ho] at hp; obtain ⟨e, l2, h2, u2, a2, g2, h1⟩ := hp; exact ⟨e, a, l2, h2, ou, _, _, u2, a2, g2, wr, h1⟩)⟩
theorem b_setFact (l : Launch) (G : mG) {f h : mE} {ox om : Nat} (hLI : LI G f h ox om) (k x : Int32) : BB l G yX5_setFact wsX5_setFact ({ frames := 4, cells := 6, slots := 78, locals := 90 } : Room) yX6_setFact wsX6_setFact ({ frames := 3, cells := 0, slots := 0, locals := 63 } : Room) f h ox om [.int k, .int x] 6 78 := by
  obtain ⟨S, P, rc, hC0, hR0, ⟨n, cn, hv⟩, hP⟩ := hLI
  have hR1 := hR0
  obtain ⟨a, lo, hi, ou, ir, wt, us, ab, gi, wr, hI⟩ := hR0
  have hC1 := hC0
  obtain ⟨T, q0, ra, rd, sp, rr, sb, hC⟩ := hC0
  have h8 := hC.rc8
  by_cases hb : valB k x = true
  · obtain ⟨i, hi9, rfl⟩ := val_nat hb
    refine ⟨(S (nI i).toNatClampNeg), (upd S (nI i).toNatClampNeg x), (recP S P rc), (recN rc), (k_setFact l G hC (nI i) x).mono (fun v f1 hp => ?_), (c6_setFact l G hI h8 (nI i) x).mono (fun v f1 hp => ?_)⟩
    · rw [if_pos hb, if_pos hb, if_pos hb, if_pos hb] at hp
      exact ⟨hp.1, hp.2, ⟨n, cn, by rw [nI_clamp (by omega)]; exact hv.fact (by omega) hb⟩, hP.rec_ hv h8⟩
    · rcases hp with ⟨e, -⟩ | ⟨-, e, h1⟩
      · rw [hb] at e; cases e
      · exact ⟨e, ⟨a, lo, hi, ou, ir, wt, us, ab, gi, wr, h1⟩⟩
  · refine ⟨(-100002), S, P, rc, (k_setFact l G hC k x).mono (fun v f1 hp => ?_), (c6_setFact l G hI h8 k x).mono (fun v f1 hp => ?_)⟩
    · rw [if_neg hb, if_neg hb, if_neg hb, if_neg hb] at hp
      exact ⟨hp.1, hp.2, ⟨n, cn, hv⟩, hP⟩
    · rcases hp with ⟨-, e, h1⟩ | ⟨e, -⟩
      · exact ⟨e, h1 ▸ hR1⟩
      · exact absurd e hb
theorem b_undo (l : Launch) (G : mG) {f h : mE} {ox om : Nat} (hLI : LI G f h ox om) : BB l G yX5_undo wsX5_undo ({ frames := 3, cells := 0, slots := 0, locals := 69 } : Room) yX6_undo wsX6_undo ({ frames := 0, cells := 0, slots := 0, locals := 0 } : Room) f h ox om [] 0 0 := by
  obtain ⟨S, P, rc, hC0, hR0, ⟨n, cn, hv⟩, hP⟩ := hLI
  have hR1 := hR0
  obtain ⟨a, lo, hi, ou, ir, wt, us, ab, gi, wr, hI⟩ := hR0
  have hC1 := hC0
  obtain ⟨T, q0, ra, rd, sp, rr, sb, hC⟩ := hC0
  by_cases h0 : rc = 0
  · subst h0
    exact ⟨(-100005), S, P, 0, (k_undo0 l G hC).mono (fun v f1 hp => ⟨hp.1, hp.2, ⟨n, cn, hv⟩, hP⟩), (c6_undo0 l G hI).mono (fun v f1 hp => ⟨hp.1, hp.2 ▸ hR1⟩)⟩
  · obtain ⟨q, rfl⟩ : ∃ q, rc = q + 1 := ⟨rc - 1, by omega⟩
    have h8 := hC.rc8
    obtain ⟨n2, c2, h2⟩ := hP q (Nat.lt_succ_self q)
    exact ⟨(nI q), (filN (fun j => P (1113 * q + j)) S 1113), P, q, (k_undoL l G hC (by omega)).mono (fun v f1 hp => ⟨hp.1, hp.2, ⟨n2, c2, h2.cong (fun w hw => filN_atX hw)⟩, hP.less (Nat.le_succ q)⟩), (c6_undoL l G hI (by omega)).mono (fun v f1 hp => ⟨hp.1, ⟨a, lo, hi, ou, ir, wt, us, ab, gi, wr, hp.2⟩⟩)⟩
theorem b_retract (l : Launch) (G : mG) {f h : mE} {ox om : Nat} (hLI : LI G f h ox om) (k : Int32) : BB l G yX5_retract wsX5_retract ({ frames := 4, cells := 6, slots := 78, locals := 90 } : Room) yX6_retract wsX6_retract ({ frames := 2, cells := 0, slots := 0, locals := 45 } : Room) f h ox om [.int k] 6 78 := by
  obtain ⟨S, P, rc, hC0, hR0, ⟨n, cn, hv⟩, hP⟩ := hLI
  have hR1 := hR0
  obtain ⟨a, lo, hi, ou, ir, wt, us, ab, gi, wr, hI⟩ := hR0
  have hC1 := hC0
  obtain ⟨T, q0, ra, rd, sp, rr, sb, hC⟩ := hC0
  have h8 := hC.rc8
  have h16 := hv.2.1
  by_cases hj : ∃ jj, jj < n ∧ k = nI jj ∧ retP S n jj = false
  · obtain ⟨jj, j1, rfl, j3⟩ := hj
    have eV : retV S n (nI jj) = nI (n - 1) := by
      rw [retV, tolN_S hv.1 h16, ← tolN_at (x := nI (n - 1)) (g := fun j => if retP S n j = true then -100003 else nI (n - 1)) h16 j1 (by rw [j3, if_neg (by decide)])]
    have hneg : ¬ retV S n (nI jj) < 0 := fun z => by rw [eV] at z; exact nI_pos (by omega) z
    refine ⟨(nI (n - 1)), (retS S n jj), (recP S P rc), (recN rc), (k_retract l G hC hv (nI jj)).mono (fun v f1 hp => ?_), (c6_retract l G hI h8 hv.1 h16 (nI jj)).mono (fun v f1 hp => ?_)⟩
    · rcases hp with ⟨-, z, -⟩ | ⟨j2, k1, k2, k3, k4, k5⟩
      · exact absurd z hneg
      · have e := nI_inj (by omega) (by omega) k2
        subst e
        exact ⟨k4, k5, ⟨n - 1, cn, hv.ret j1⟩, hP.rec_ hv h8⟩
    · rcases hp with ⟨-, z, -⟩ | ⟨j2, k1, k2, k3, k4, k5⟩
      · exact absurd z hneg
      · have e := nI_inj (by omega) (by omega) k2
        subst e
        exact ⟨k4, ⟨a, lo, hi, ou, ir, wt, us, ab, gi, wr, k5⟩⟩
  · refine ⟨(retV S n k), S, P, rc, (k_retract l G hC hv k).mono (fun v f1 hp => ?_), (c6_retract l G hI h8 hv.1 h16 k).mono (fun v f1 hp => ?_)⟩
    · rcases hp with ⟨e, -, h1⟩ | ⟨j2, k1, k2, k3, -⟩
      · exact ⟨e, h1, ⟨n, cn, hv⟩, hP⟩
      · exact absurd ⟨j2, k1, k2, k3⟩ hj
    · rcases hp with ⟨e, -, h1⟩ | ⟨j2, k1, k2, k3, -⟩
      · exact ⟨e, h1 ▸ hR1⟩
      · exact absurd ⟨j2, k1, k2, k3⟩ hj
