/-! THE CLASS, whole: questions -/
def SenK (s : Nat → Int32) : Prop := (∃ ct, s 0 = nI ct ∧ ct ≤ 24 ∧ ∀ t, t < ct → vtB (s (1 + t)) (s (25 + t)) = true) ∧ (s 49 < nI 10 → inB (s 50) (-9999) 9999 = true) ∧ ∀ j, j < 7 → inB (s (52 + j)) (leastF (nI j)) (greatestF (nI j)) = true ∧ inB (s (59 + j)) (leastF (nI j)) (greatestF (nI j)) = true
def VSn (S : Nat → Int32) (n cn : Nat) : Prop := S 56 = nI n ∧ n ≤ 16 ∧ S 7 = nI cn ∧ cn ≤ 24 ∧ (∀ j, j < cn → vtB (S (7 + 1 + j)) (S (7 + 25 + j)) = true) ∧ (∀ i, i < n → SenK (fun w => S (57 + 66 * i + w))) ∧ ∀ j, j < 7 → -100005 < S j
theorem lim_lo {j : Nat} (h : j < 7) : -9999 ≤ leastF (nI j) ∧ greatestF (nI j) ≤ 73048 := by
  have e : j = 0 ∨ j = 1 ∨ j = 2 ∨ j = 3 ∨ j = 4 ∨ j = 5 ∨ j = 6 := by omega
  rcases e with rfl | rfl | rfl | rfl | rfl | rfl | rfl <;> decide
theorem inB_le {v x y : Int32} (h : inB v x y = true) : x ≤ v ∧ v ≤ y := by
  rw [inB, Bool.and_eq_true, decide_eq_true_eq, decide_eq_true_eq] at h; exact h
theorem nI_inj {a b : Nat} (ha : a < 2 ^ 31) (hb : b < 2 ^ 31) (h : nI a = nI b) : a = b := (nI_eq ha hb).mp h
theorem CC.q {G : mG} {f : mE} {T : Nat → Nat} {o q0 ra rd sp rr sb : Nat} {S P : Nat → Int32} {rc n cn : Nat} (h : CC G f T o q0 ra rd sp rr sb S P rc) (hv : VSn S n cn) :
    ∃ (b fc pr ka va : Nat) (B : Nat → Option Nat) (X rg pa qa tk : Nat → Nat) (lo hi : Nat → Nat → Int32) (ab gv us g K V : Nat → Int32), StA G f T q0 b fc pr ka va n cn B g K V S ∧ StB G f T n B S ∧ StQ G f q0 b fc pr n B X rg pa qa tk lo hi ab gv us ∧ f fc = some (mI G 7 g) ∧ (∀ j, j < 7 → g j = S j) ∧ FlatV S n lo hi ab gv us ∧ (∀ i, i < n → ab i < nI 10 → inB (gv i) (-9999) 9999 = true) ∧ LimV S n ∧ (∀ i, i < n → T (pa i) = 0 ∧ T (qa i) = 0) ∧ ∀ i, i < n → TxtR G f T (tk i) (fun w => S (57 + 66 * i + w)) := by
  obtain ⟨b, fc, pr, ka, va, n', cn', B, g, K, V, hA, hB⟩ := h.2.2.2.2.2.2.1
  obtain ⟨v1, v2, v3, v4, v5, v6, v7⟩ := hv
  obtain ⟨⟨a1, a2, a3, a4, a5, a6⟩, hne, ht, c1, c2, c3, c4, c5, c6⟩ := hA
  have e1 : n' = n := nI_inj (by omega) (by omega) (c1.symm.trans v1)
  have e2 : cn' = cn := nI_inj (by omega) (by omega) (c3.symm.trans v3)
  subst e1; subst e2
  obtain ⟨X, rg, pa, qa, tk, lo, hi, ab, gv, us, hz⟩ := hB.opn
  have hF : FlatV S n' lo hi ab gv us := fun i hi' => (hz i hi').2.2.2
  refine ⟨b, fc, pr, ka, va, B, X, rg, pa, qa, tk, lo, hi, ab, gv, us, g, K, V, ⟨⟨a1, a2, a3, a4, a5, a6⟩, hne, ht, c1, c2, c3, c4, c5, c6⟩, hB, ⟨a1, a2, c2, fun i hi' => (hz i hi').1⟩, a3, c6, hF, fun i hi' hab => ?_, fun i hi' j hj => ?_, fun i hi' => ⟨(hz i hi').2.1.2.2.1, (hz i hi').2.1.2.2.2⟩, fun i hi' => (hz i hi').2.2.1⟩
  · have h1 := (v6 i hi').2.1 (by show S (57 + 66 * i + 49) < nI 10; rw [← hF.ab_ hi']; exact hab)
    have h2 : inB (S (57 + 66 * i + 50)) (-9999) 9999 = true := h1
    rw [hF.gv_ hi', if_pos hab] at h2; exact h2
  · have h1 := inB_le ((v6 i hi').2.2 j hj).2
    have h2 := lim_lo hj
    exact ⟨Int32.le_trans h2.1 h1.1, Int32.le_trans h1.2 h2.2⟩
theorem e_next {S : Nat → Int32} {n : Nat} {g : Nat → Int32} {lo hi : Nat → Nat → Int32} {ab gv us : Nat → Int32} (h : FlatV S n lo hi ab gv us) (hg : ∀ j, j < 7 → g j = S j) (hgv : ∀ i, i < n → ab i < nI 10 → inB (gv i) (-9999) 9999 = true) (hn : n ≤ 16) (hL : LimV S n) (hf : ∀ j, j < 7 → -100005 < S j) (r k : Int32) : (if inB r 0 3 = true ∧ inB k 0 6 = true then ncD (fun z => !decide (z = ansD g lo hi ab gv (-1) n r n 0 (-100005))) g lo hi ab gv n r k.toNatClampNeg 32 (nbrI lo hi ab n r k.toNatClampNeg (g k.toNatClampNeg)) else -100002) = a6_nextChange S (-100005) n r k := by
  rw [a6_nextChange]
  by_cases hc : inB r 0 3 = true ∧ inB k 0 6 = true
  · rw [if_pos hc, if_pos hc]
    obtain ⟨i, hi', rfl⟩ := inB_nat (K := 6) (by decide) hc.2
    have hi7 : i < 7 := by omega
    rw [nI_clamp (by omega), hg i hi7]
    have hr := res_lt hc.1
    have ea := e_ans h hg hgv hr (w_no hn)
    rw [ea]
    have hx := hf i hi7
    have e0 : ¬ S i = -100005 := fun z => by rw [z] at hx; exact Int32.lt_irrefl hx
    have eb : upd S i (S i) = S := by funext j; unfold upd; split <;> simp_all
    have ea2 : ansD (upd g i (S i)) lo hi ab gv (-1) n r n 0 (-100005) = ansI S (-100005) n r := by
      rw [e_ans (h.upd_ hi7 (S i)) (g_upd hg i (S i)) hgv hr (w_no hn), eb]
    have hw := e_walk h hg hgv hn hL hi7 hr (fun z => !decide (z = ansI S (-100005) n r)) (ncM (S i) + 1) (S i) 33 (Nat.lt_succ_self _) (Or.inr ⟨hx, by have := cb_2 (pr S r) (Lk S i) (Hk S i) (S i) n; omega⟩)
    have hs : ¬ (!decide (ansI S (-100005) n r = ansI S (-100005) n r)) = true := by rw [decide_eq_true rfl]; decide
    rw [ncD, if_neg e0, ea2, if_neg hs, ncF, if_neg e0, eb, if_neg hs] at hw
    rw [hw, ncZ]
    exact ncF_st (borI_M e0) (Nat.lt_succ_self _)
  · rw [if_neg hc, if_neg hc]
theorem e_least {S : Nat → Int32} {n : Nat} {g : Nat → Int32} {lo hi : Nat → Nat → Int32} {ab gv us : Nat → Int32} (h : FlatV S n lo hi ab gv us) (hg : ∀ j, j < 7 → g j = S j) (hgv : ∀ i, i < n → ab i < nI 10 → inB (gv i) (-9999) 9999 = true) (hn : n ≤ 16) (hL : LimV S n) (r k x : Int32) : (if inB r 0 3 = true ∧ inB k 0 6 = true ∧ inB x (-9999) 9999 = true then ncD (fun z => decide (z = x)) g lo hi ab gv n r k.toNatClampNeg 33 (leastF k) else -100002) = a6_leastFor S (-100005) n r k x := by
  rw [a6_leastFor]
  by_cases hc : inB r 0 3 = true ∧ inB k 0 6 = true ∧ inB x (-9999) 9999 = true
  · rw [if_pos hc, if_pos hc]
    obtain ⟨i, hi', rfl⟩ := inB_nat (K := 6) (by decide) hc.2.1
    have hi7 : i < 7 := by omega
    rw [nI_clamp (by omega)]
    exact e_walk h hg hgv hn hL hi7 (res_lt hc.1) (fun z => decide (z = x)) _ (leastF (nI i)) 33 (Nat.lt_succ_self _) (Or.inr ⟨Int32.lt_of_lt_of_le (by decide) (lim_lo hi7).1, by have := cb_2 (pr S r) (Lk S i) (Hk S i) (leastF (nI i)) n; omega⟩)
  · rw [if_neg hc, if_neg hc]
theorem k_about (l : Launch) (G : mG) {f : mE} {T : Nat → Nat} {o q0 ra rd sp rr sb : Nat} {S P : Nat → Int32} {rc n cn : Nat} (h : CC G f T o q0 ra rd sp rr sb S P rc) (hv : VSn S n cn) (k : Int32) : mC l G yX5_about wsX5_about ({ frames := 1, cells := 0, slots := 0, locals := 21 } : Room) f [.ref o, .int k] (fun v f1 => v = some (.int (tolI S k (fun j => S (57 + 66 * j + 49)))) ∧ CI G f1 o S P rc) 0 0 := by
  obtain ⟨b, fc, pr1, ka, va, B, X, rg, pa, qa, tk, lo, hi, ab, gv, us, g, K, V, hA, hB, hQ, hg, hgS, hF, hgv, hL, hT0, hTk⟩ := h.q hv
  have hn := hv.1
  have hn16 := hv.2.1
  refine (c5_about l G h.1 hQ hg k).mono (fun v f1 hp => ?_)
  obtain ⟨rfl, rfl⟩ := hp
  refine ⟨congrArg (fun z => some (Value.int z)) ?_, T, q0, ra, rd, sp, rr, sb, h⟩
  rw [tolN_S hn hn16]
  exact tolN_cong (fun j hj => hF.ab_ hj) hn16
theorem k_uses (l : Launch) (G : mG) {f : mE} {T : Nat → Nat} {o q0 ra rd sp rr sb : Nat} {S P : Nat → Int32} {rc n cn : Nat} (h : CC G f T o q0 ra rd sp rr sb S P rc) (hv : VSn S n cn) (k : Int32) : mC l G yX5_uses wsX5_uses ({ frames := 1, cells := 0, slots := 0, locals := 21 } : Room) f [.ref o, .int k] (fun v f1 => v = some (.int (tolI S k (fun j => S (57 + 66 * j + 51)))) ∧ CI G f1 o S P rc) 0 0 := by
  obtain ⟨b, fc, pr1, ka, va, B, X, rg, pa, qa, tk, lo, hi, ab, gv, us, g, K, V, hA, hB, hQ, hg, hgS, hF, hgv, hL, hT0, hTk⟩ := h.q hv
  have hn := hv.1
  have hn16 := hv.2.1
  refine (c5_uses l G h.1 hQ hg k).mono (fun v f1 hp => ?_)
  obtain ⟨rfl, rfl⟩ := hp
  refine ⟨congrArg (fun z => some (Value.int z)) ?_, T, q0, ra, rd, sp, rr, sb, h⟩
  rw [tolN_S hn hn16]
  exact tolN_cong (fun j hj => hF.us_ hj) hn16
theorem k_gives (l : Launch) (G : mG) {f : mE} {T : Nat → Nat} {o q0 ra rd sp rr sb : Nat} {S P : Nat → Int32} {rc n cn : Nat} (h : CC G f T o q0 ra rd sp rr sb S P rc) (hv : VSn S n cn) (k : Int32) : mC l G yX5_gives wsX5_gives ({ frames := 1, cells := 0, slots := 0, locals := 21 } : Room) f [.ref o, .int k] (fun v f1 => v = some (.int (tolI S k (fun j => S (57 + 66 * j + 50)))) ∧ CI G f1 o S P rc) 0 0 := by
  obtain ⟨b, fc, pr1, ka, va, B, X, rg, pa, qa, tk, lo, hi, ab, gv, us, g, K, V, hA, hB, hQ, hg, hgS, hF, hgv, hL, hT0, hTk⟩ := h.q hv
  have hn := hv.1
  have hn16 := hv.2.1
  refine (c5_gives l G h.1 hQ hg k).mono (fun v f1 hp => ?_)
  obtain ⟨rfl, rfl⟩ := hp
  refine ⟨congrArg (fun z => some (Value.int z)) ?_, T, q0, ra, rd, sp, rr, sb, h⟩
  rw [tolN_S hn hn16]
  exact tolN_cong (fun j hj => (hF.gv_ hj).symm) hn16
theorem k_least (l : Launch) (G : mG) {f : mE} {T : Nat → Nat} {o q0 ra rd sp rr sb : Nat} {S P : Nat → Int32} {rc n cn : Nat} (h : CC G f T o q0 ra rd sp rr sb S P rc) (hv : VSn S n cn) (k x : Int32) : mC l G yX5_least wsX5_least ({ frames := 1, cells := 0, slots := 0, locals := 21 } : Room) f [.ref o, .int k, .int x] (fun v f1 => v = some (.int (tolI S k (fun j => if inB x 0 6 = true then S (57 + 66 * j + (52 + x.toNatClampNeg)) else -100002))) ∧ CI G f1 o S P rc) 0 0 := by
  obtain ⟨b, fc, pr1, ka, va, B, X, rg, pa, qa, tk, lo, hi, ab, gv, us, g, K, V, hA, hB, hQ, hg, hgS, hF, hgv, hL, hT0, hTk⟩ := h.q hv
  have hn := hv.1
  have hn16 := hv.2.1
  refine (c5_least l G h.1 hQ hg k x).mono (fun v f1 hp => ?_)
  obtain ⟨rfl, rfl⟩ := hp
  refine ⟨congrArg (fun z => some (Value.int z)) ?_, T, q0, ra, rd, sp, rr, sb, h⟩
  rw [tolN_S hn hn16]
  exact tolN_cong (fun j hj => by
    show (if inB x 0 6 = true then _ else _) = if inB x 0 6 = true then _ else _
    by_cases hx : inB x 0 6 = true
    · rw [if_pos hx, if_pos hx]
      obtain ⟨i, hi', rfl⟩ := inB_nat (K := 6) (by decide) hx
      rw [nI_clamp (by omega)]; exact hF.lo_ hj (by omega)
    · rw [if_neg hx, if_neg hx]) hn16
theorem k_greatest (l : Launch) (G : mG) {f : mE} {T : Nat → Nat} {o q0 ra rd sp rr sb : Nat} {S P : Nat → Int32} {rc n cn : Nat} (h : CC G f T o q0 ra rd sp rr sb S P rc) (hv : VSn S n cn) (k x : Int32) : mC l G yX5_greatest wsX5_greatest ({ frames := 1, cells := 0, slots := 0, locals := 21 } : Room) f [.ref o, .int k, .int x] (fun v f1 => v = some (.int (tolI S k (fun j => if inB x 0 6 = true then S (57 + 66 * j + (59 + x.toNatClampNeg)) else -100002))) ∧ CI G f1 o S P rc) 0 0 := by
  obtain ⟨b, fc, pr1, ka, va, B, X, rg, pa, qa, tk, lo, hi, ab, gv, us, g, K, V, hA, hB, hQ, hg, hgS, hF, hgv, hL, hT0, hTk⟩ := h.q hv
  have hn := hv.1
  have hn16 := hv.2.1
  refine (c5_greatest l G h.1 hQ hg k x).mono (fun v f1 hp => ?_)
  obtain ⟨rfl, rfl⟩ := hp
  refine ⟨congrArg (fun z => some (Value.int z)) ?_, T, q0, ra, rd, sp, rr, sb, h⟩
  rw [tolN_S hn hn16]
  exact tolN_cong (fun j hj => by
    show (if inB x 0 6 = true then _ else _) = if inB x 0 6 = true then _ else _
    by_cases hx : inB x 0 6 = true
    · rw [if_pos hx, if_pos hx]
      obtain ⟨i, hi', rfl⟩ := inB_nat (K := 6) (by decide) hx
      rw [nI_clamp (by omega)]; exact hF.hi_ hj (by omega)
    · rw [if_neg hx, if_neg hx]) hn16
theorem k_sharpness (l : Launch) (G : mG) {f : mE} {T : Nat → Nat} {o q0 ra rd sp rr sb : Nat} {S P : Nat → Int32} {rc n cn : Nat} (h : CC G f T o q0 ra rd sp rr sb S P rc) (hv : VSn S n cn) (k : Int32) : mC l G yX5_sharpness wsX5_sharpness ({ frames := 2, cells := 0, slots := 0, locals := 42 } : Room) f [.ref o, .int k] (fun v f1 => v = some (.int (tolI S k (fun j => nI (shaN S j)))) ∧ CI G f1 o S P rc) 0 0 := by
  obtain ⟨b, fc, pr1, ka, va, B, X, rg, pa, qa, tk, lo, hi, ab, gv, us, g, K, V, hA, hB, hQ, hg, hgS, hF, hgv, hL, hT0, hTk⟩ := h.q hv
  have hn := hv.1
  have hn16 := hv.2.1
  refine (c5_sharpness l G h.1 hQ hg k).mono (fun v f1 hp => ?_)
  obtain ⟨rfl, rfl⟩ := hp
  refine ⟨congrArg (fun z => some (Value.int z)) ?_, T, q0, ra, rd, sp, rr, sb, h⟩
  rw [tolN_S hn hn16]
  exact tolN_cong (fun j hj => congrArg nI (e_lim hF hj)) hn16
theorem k_sentences (l : Launch) (G : mG) {f : mE} {T : Nat → Nat} {o q0 ra rd sp rr sb : Nat} {S P : Nat → Int32} {rc n cn : Nat} (h : CC G f T o q0 ra rd sp rr sb S P rc) (hv : VSn S n cn) : mC l G yX5_sentences wsX5_sentences ({ frames := 0, cells := 0, slots := 0, locals := 0 } : Room) f [.ref o] (fun v f1 => v = some (.int (nI n)) ∧ CI G f1 o S P rc) 0 0 := by
  obtain ⟨b, fc, pr1, ka, va, B, X, rg, pa, qa, tk, lo, hi, ab, gv, us, g, K, V, hA, hB, hQ, hg, hgS, hF, hgv, hL, hT0, hTk⟩ := h.q hv
  have hn := hv.1
  have hn16 := hv.2.1
  refine (c5_sentences l G h.1 hQ hg ).mono (fun v f1 hp => ?_)
  obtain ⟨rfl, rfl⟩ := hp
  refine ⟨congrArg (fun z => some (Value.int z)) ?_, T, q0, ra, rd, sp, rr, sb, h⟩
  rfl
theorem k_fact (l : Launch) (G : mG) {f : mE} {T : Nat → Nat} {o q0 ra rd sp rr sb : Nat} {S P : Nat → Int32} {rc n cn : Nat} (h : CC G f T o q0 ra rd sp rr sb S P rc) (hv : VSn S n cn) (x : Int32) : mC l G yX5_fact wsX5_fact ({ frames := 1, cells := 0, slots := 0, locals := 20 } : Room) f [.ref o, .int x] (fun v f1 => v = some (.int (if inB x 0 6 = true then S x.toNatClampNeg else -100002)) ∧ CI G f1 o S P rc) 0 0 := by
  obtain ⟨b, fc, pr1, ka, va, B, X, rg, pa, qa, tk, lo, hi, ab, gv, us, g, K, V, hA, hB, hQ, hg, hgS, hF, hgv, hL, hT0, hTk⟩ := h.q hv
  have hn := hv.1
  have hn16 := hv.2.1
  refine (c5_fact l G h.1 hQ hg x).mono (fun v f1 hp => ?_)
  obtain ⟨rfl, rfl⟩ := hp
  refine ⟨congrArg (fun z => some (Value.int z)) ?_, T, q0, ra, rd, sp, rr, sb, h⟩
  by_cases hx : inB x 0 6 = true
  · rw [if_pos hx, if_pos hx]
    obtain ⟨i, hi', rfl⟩ := inB_nat (K := 6) (by decide) hx
    rw [nI_clamp (by omega)]; exact hgS i (by omega)
  · rw [if_neg hx, if_neg hx]
theorem k_definition (l : Launch) (G : mG) {f : mE} {T : Nat → Nat} {o q0 ra rd sp rr sb : Nat} {S P : Nat → Int32} {rc n cn : Nat} (h : CC G f T o q0 ra rd sp rr sb S P rc) (hv : VSn S n cn) (w : Int32) : mC l G yX5_definition wsX5_definition ({ frames := 2, cells := 0, slots := 0, locals := 44 } : Room) f [.ref o, .int w] (fun v f1 => v = some (.int (if inB w 0 5 = true then defI S n w else -100002)) ∧ CI G f1 o S P rc) 0 0 := by
  obtain ⟨b, fc, pr1, ka, va, B, X, rg, pa, qa, tk, lo, hi, ab, gv, us, g, K, V, hA, hB, hQ, hg, hgS, hF, hgv, hL, hT0, hTk⟩ := h.q hv
  have hn := hv.1
  have hn16 := hv.2.1
  refine (c5_definition l G h.1 hQ hg w).mono (fun v f1 hp => ?_)
  obtain ⟨rfl, rfl⟩ := hp
  refine ⟨congrArg (fun z => some (Value.int z)) ?_, T, q0, ra, rd, sp, rr, sb, h⟩
  rw [e_def hF w, defI]
theorem k_answer (l : Launch) (G : mG) {f : mE} {T : Nat → Nat} {o q0 ra rd sp rr sb : Nat} {S P : Nat → Int32} {rc n cn : Nat} (h : CC G f T o q0 ra rd sp rr sb S P rc) (hv : VSn S n cn) (r : Int32) : mC l G yX5_answer wsX5_answer ({ frames := 5, cells := 0, slots := 0, locals := 124 } : Room) f [.ref o, .int r] (fun v f1 => v = some (.int (a6_answer S (-100005) n r)) ∧ CI G f1 o S P rc) 0 0 := by
  obtain ⟨b, fc, pr1, ka, va, B, X, rg, pa, qa, tk, lo, hi, ab, gv, us, g, K, V, hA, hB, hQ, hg, hgS, hF, hgv, hL, hT0, hTk⟩ := h.q hv
  have hn := hv.1
  have hn16 := hv.2.1
  refine (c5_answer l G h.1 hQ hg r).mono (fun v f1 hp => ?_)
  obtain ⟨rfl, rfl⟩ := hp
  refine ⟨congrArg (fun z => some (Value.int z)) ?_, T, q0, ra, rd, sp, rr, sb, h⟩
  rw [a6_answer]
  by_cases hr : inB r 0 3 = true
  · rw [if_pos hr, if_pos hr]
    exact e_ans hF hgS hgv (res_lt hr) (w_no hn16)
  · rw [if_neg hr, if_neg hr]
theorem k_overridden (l : Launch) (G : mG) {f : mE} {T : Nat → Nat} {o q0 ra rd sp rr sb : Nat} {S P : Nat → Int32} {rc n cn : Nat} (h : CC G f T o q0 ra rd sp rr sb S P rc) (hv : VSn S n cn) (r : Int32) : mC l G yX5_overridden wsX5_overridden ({ frames := 3, cells := 0, slots := 0, locals := 74 } : Room) f [.ref o, .int r] (fun v f1 => v = some (.int (a6_overridden S (-100005) n r)) ∧ CI G f1 o S P rc) 0 0 := by
  obtain ⟨b, fc, pr1, ka, va, B, X, rg, pa, qa, tk, lo, hi, ab, gv, us, g, K, V, hA, hB, hQ, hg, hgS, hF, hgv, hL, hT0, hTk⟩ := h.q hv
  have hn := hv.1
  have hn16 := hv.2.1
  refine (c5_overridden l G h.1 hQ hg r).mono (fun v f1 hp => ?_)
  obtain ⟨rfl, rfl⟩ := hp
  refine ⟨congrArg (fun z => some (Value.int z)) ?_, T, q0, ra, rd, sp, rr, sb, h⟩
  rw [a6_overridden]
  by_cases hr : inB r 0 3 = true
  · rw [if_pos hr, if_pos hr]
    refine congrArg nI (cntN_cong (fun k hk => ?_))
    rw [← e_rea hF hgS hk (w_no hn16), ← e_app hF hgS hk (w_no hn16 k hk), reaD]
    cases appD g lo hi ab (-1) k r <;> cases exN (ovrQ g lo hi ab (-1) k r) n <;> rfl
  · rw [if_neg hr, if_neg hr]
theorem k_holds (l : Launch) (G : mG) {f : mE} {T : Nat → Nat} {o q0 ra rd sp rr sb : Nat} {S P : Nat → Int32} {rc n cn : Nat} (h : CC G f T o q0 ra rd sp rr sb S P rc) (hv : VSn S n cn) (w : Int32) : mC l G yX5_holds wsX5_holds ({ frames := 2, cells := 0, slots := 0, locals := 44 } : Room) f [.ref o, .int w] (fun v f1 => v = some (.int (a6_holds S n w)) ∧ CI G f1 o S P rc) 0 0 := by
  obtain ⟨b, fc, pr1, ka, va, B, X, rg, pa, qa, tk, lo, hi, ab, gv, us, g, K, V, hA, hB, hQ, hg, hgS, hF, hgv, hL, hT0, hTk⟩ := h.q hv
  have hn := hv.1
  have hn16 := hv.2.1
  refine (c5_holds l G h.1 hQ hg w).mono (fun v f1 hp => ?_)
  obtain ⟨rfl, rfl⟩ := hp
  refine ⟨congrArg (fun z => some (Value.int z)) ?_, T, q0, ra, rd, sp, rr, sb, h⟩
  rw [a6_holds, e_def hF w]
  by_cases hw : inB w 0 5 = true
  · rw [if_pos hw, if_pos hw]
    by_cases hd : firN (defQ S w) n < n
    · rw [if_pos hd, if_pos hd, e_con hF hgS hd]
    · rw [if_neg hd, if_neg hd]
  · rw [if_neg hw, if_neg hw]
theorem k_compare (l : Launch) (G : mG) {f : mE} {T : Nat → Nat} {o q0 ra rd sp rr sb : Nat} {S P : Nat → Int32} {rc n cn : Nat} (h : CC G f T o q0 ra rd sp rr sb S P rc) (hv : VSn S n cn) (k x : Int32) : mC l G yX5_compare wsX5_compare ({ frames := 2, cells := 0, slots := 0, locals := 43 } : Room) f [.ref o, .int k, .int x] (fun v f1 => v = some (.int (tolI S k (fun j => tolI S x (fun i => cmpS S j i)))) ∧ CI G f1 o S P rc) 0 0 := by
  obtain ⟨b, fc, pr1, ka, va, B, X, rg, pa, qa, tk, lo, hi, ab, gv, us, g, K, V, hA, hB, hQ, hg, hgS, hF, hgv, hL, hT0, hTk⟩ := h.q hv
  have hn := hv.1
  have hn16 := hv.2.1
  refine (c5_compare l G h.1 hQ hg k x).mono (fun v f1 hp => ?_)
  obtain ⟨rfl, rfl⟩ := hp
  refine ⟨congrArg (fun z => some (Value.int z)) ?_, T, q0, ra, rd, sp, rr, sb, h⟩
  rw [tolN_S hn hn16]
  refine tolN_cong (fun j hj => ?_) hn16
  rw [tolN_S hn hn16]
  exact tolN_cong (fun i hi' => e_cmp hF hj hi') hn16
theorem k_contradiction (l : Launch) (G : mG) {f : mE} {T : Nat → Nat} {o q0 ra rd sp rr sb : Nat} {S P : Nat → Int32} {rc n cn : Nat} (h : CC G f T o q0 ra rd sp rr sb S P rc) (hv : VSn S n cn) (x : Int32) : mC l G yX5_contradiction wsX5_contradiction ({ frames := 4, cells := 0, slots := 0, locals := 92 } : Room) f [.ref o, .int x] (fun v f1 => v = some (.int (ctdX S n x)) ∧ CI G f1 o S P rc) 0 0 := by
  obtain ⟨b, fc, pr1, ka, va, B, X, rg, pa, qa, tk, lo, hi, ab, gv, us, g, K, V, hA, hB, hQ, hg, hgS, hF, hgv, hL, hT0, hTk⟩ := h.q hv
  have hn := hv.1
  have hn16 := hv.2.1
  refine (c5_contradiction l G h.1 hQ hg x).mono (fun v f1 hp => ?_)
  obtain ⟨rfl, rfl⟩ := hp
  refine ⟨congrArg (fun z => some (Value.int z)) ?_, T, q0, ra, rd, sp, rr, sb, h⟩
  exact e_ctdX hF x
theorem k_matters (l : Launch) (G : mG) {f : mE} {T : Nat → Nat} {o q0 ra rd sp rr sb : Nat} {S P : Nat → Int32} {rc n cn : Nat} (h : CC G f T o q0 ra rd sp rr sb S P rc) (hv : VSn S n cn) (k : Int32) : mC l G yX5_matters wsX5_matters ({ frames := 5, cells := 0, slots := 0, locals := 124 } : Room) f [.ref o, .int k] (fun v f1 => v = some (.int (tolI S k (fun j => matI S n j))) ∧ CI G f1 o S P rc) 0 0 := by
  obtain ⟨b, fc, pr1, ka, va, B, X, rg, pa, qa, tk, lo, hi, ab, gv, us, g, K, V, hA, hB, hQ, hg, hgS, hF, hgv, hL, hT0, hTk⟩ := h.q hv
  have hn := hv.1
  have hn16 := hv.2.1
  refine (c5_matters l G h.1 hQ hg k).mono (fun v f1 hp => ?_)
  obtain ⟨rfl, rfl⟩ := hp
  refine ⟨congrArg (fun z => some (Value.int z)) ?_, T, q0, ra, rd, sp, rr, sb, h⟩
  rw [tolN_S hn hn16]
  refine tolN_cong (fun j hj => ?_) hn16
  rw [matI, ← hF.ab_ hj]
  by_cases hab : ab j < nI 10
  · rw [if_pos hab, if_neg (c := ¬ ab j < nI 10) (fun z => z hab), e_ans hF hgS hgv hab (w_no hn16), e_ans hF hgS hgv hab (wo := nI j) (fun _ _ => rfl)]; rfl
  · rw [if_neg hab, if_pos (c := ¬ ab j < nI 10) hab]; rfl
theorem CC.rr_ {G : mG} {f f1 : mE} {T : Nat → Nat} {o q0 ra rd sp rr sb : Nat} {S P : Nat → Int32} {rc : Nat} (h : CC G f T o q0 ra rd sp rr sb S P rc) (row : Nat → Int32) (h1 : f1 rr = some (mI G 16 row)) (hf : ∀ b, b ≠ rr → f1 b = f b) : CC G f1 T o q0 ra rd sp rr sb S P rc := by
  obtain ⟨hO, tO, hRe, hSp, ⟨row0, hr0, tr⟩, hTb, hSt, hHi⟩ := h
  have hk : Kp f f1 T T (fun t => t ≠ rr + 1) := fun b e hb => ⟨rfl, fun z => by rw [hf b (fun y => z (by rw [y]; exact tr))]; exact hb⟩
  obtain ⟨vs, hq⟩ := hSt.obj
  obtain ⟨gs, hs, ts⟩ := hSp
  have n1 : o + 1 ≠ rr + 1 := fun z => ne_oi hO hr0 (Nat.succ.inj z)
  have n2 : rd + 1 ≠ rr + 1 := fun z => by obtain ⟨_, _, _, _, _, _, _, _, _, _, _, _, _, hR, -⟩ := hRe; exact ne_oi hR.1 hr0 (Nat.succ.inj z)
  have n3 : sp + 1 ≠ rr + 1 := fun z => ne_len hs hr0 (by decide) (Nat.succ.inj z)
  have n4 : sb + 1 ≠ rr + 1 := fun z => by obtain ⟨_, _, _, _, _, hC, -⟩ := hTb; exact ne_oi hC.1 hr0 (Nat.succ.inj z)
  have n5 : q0 + 1 ≠ rr + 1 := fun z => ne_oi hq hr0 (Nat.succ.inj z)
  have n0 : (0 : Nat) ≠ rr + 1 := by omega
  refine ⟨(hk.at hO tO n1).1, tO, hRe.keep hk n2, SpI.keep ⟨gs, hs, ts⟩ hk n3, ⟨row, h1, tr⟩, hTb.keep hk n4, hSt.keep hk n0 n5, hHi.keep hk n0 n1 (fun q vs _ hq z => ne_oi hq hr0 (Nat.succ.inj z))⟩
theorem CC.sp_ {G : mG} {f f1 : mE} {T : Nat → Nat} {o q0 ra rd sp rr sb : Nat} {S P : Nat → Int32} {rc : Nat} (h : CC G f T o q0 ra rd sp rr sb S P rc) (gs : Nat → Int32) (h1 : f1 sp = some (mI G 7 gs)) (hf : ∀ b, b ≠ sp → f1 b = f b) : CC G f1 T o q0 ra rd sp rr sb S P rc := by
  obtain ⟨hO, tO, hRe, ⟨gs0, hs0, ts⟩, hRr, hTb, hSt, hHi⟩ := h
  have hk : Kp f f1 T T (fun t => t ≠ sp + 1) := fun b e hb => ⟨rfl, fun z => by rw [hf b (fun y => z (by rw [y]; exact ts))]; exact hb⟩
  obtain ⟨vs, hq⟩ := hSt.obj
  obtain ⟨row, hr, tr⟩ := hRr
  have n1 : o + 1 ≠ sp + 1 := fun z => ne_oi hO hs0 (Nat.succ.inj z)
  have n2 : rd + 1 ≠ sp + 1 := fun z => by obtain ⟨_, _, _, _, _, _, _, _, _, _, _, _, _, hR, -⟩ := hRe; exact ne_oi hR.1 hs0 (Nat.succ.inj z)
  have n3 : rr + 1 ≠ sp + 1 := fun z => ne_len hr hs0 (by decide) (Nat.succ.inj z)
  have n4 : sb + 1 ≠ sp + 1 := fun z => by obtain ⟨_, _, _, _, _, hC, -⟩ := hTb; exact ne_oi hC.1 hs0 (Nat.succ.inj z)
  have n5 : q0 + 1 ≠ sp + 1 := fun z => ne_oi hq hs0 (Nat.succ.inj z)
  have n0 : (0 : Nat) ≠ sp + 1 := by omega
  refine ⟨(hk.at hO tO n1).1, tO, hRe.keep hk n2, ⟨gs, h1, ts⟩, RrI.keep ⟨row, hr, tr⟩ hk n3, hTb.keep hk n4, hSt.keep hk n0 n5, hHi.keep hk n0 n1 (fun q vs _ hq z => ne_oi hq hs0 (Nat.succ.inj z))⟩
theorem k_reasons (l : Launch) (G : mG) {f : mE} {T : Nat → Nat} {o q0 ra rd sp rr sb : Nat} {S P : Nat → Int32} {rc n cn : Nat} (h : CC G f T o q0 ra rd sp rr sb S P rc) (hv : VSn S n cn) (r : Int32) : mC l G yX5_reasons wsX5_reasons ({ frames := 5, cells := 0, slots := 0, locals := 121 } : Room) f [.ref o, .int r] (fun v f1 => v = some (.int (a6_reasons S (-100005) n r)) ∧ CI G f1 o S P rc) 0 0 := by
  obtain ⟨b, fc, pr1, ka, va, B, X, rg, pa, qa, tk, lo, hi, ab, gv, us, g, K, V, hA, hB, hQ, hg, hgS, hF, hgv, hL, hT0, hTk⟩ := h.q hv
  have hn := hv.1
  have hn16 := hv.2.1
  obtain ⟨row, hr0, -⟩ := h.2.2.2.2.1
  refine (c5_reasons l G h.1 hQ hg hr0 r).mono (fun v f1 hp => ?_)
  obtain ⟨rfl, row1, hr1, hfr⟩ := hp
  refine ⟨congrArg (fun z => some (Value.int z)) ?_, T, q0, ra, rd, sp, rr, sb, h.rr_ row1 hr1 hfr⟩
  rw [a6_reasons]
  by_cases hr : inB r 0 3 = true
  · rw [if_pos hr, if_pos hr]
    exact congrArg nI (cntN_cong (fun k hk => e_rea hF hgS hk (w_no hn16)))
  · rw [if_neg hr, if_neg hr]
theorem k_reason (l : Launch) (G : mG) {f : mE} {T : Nat → Nat} {o q0 ra rd sp rr sb : Nat} {S P : Nat → Int32} {rc n cn : Nat} (h : CC G f T o q0 ra rd sp rr sb S P rc) (hv : VSn S n cn) (r x : Int32) : mC l G yX5_reason wsX5_reason ({ frames := 5, cells := 0, slots := 0, locals := 121 } : Room) f [.ref o, .int r, .int x] (fun v f1 => v = some (.int (a6_reason S (-100005) n r x)) ∧ CI G f1 o S P rc) 0 0 := by
  obtain ⟨b, fc, pr1, ka, va, B, X, rg, pa, qa, tk, lo, hi, ab, gv, us, g, K, V, hA, hB, hQ, hg, hgS, hF, hgv, hL, hT0, hTk⟩ := h.q hv
  have hn := hv.1
  have hn16 := hv.2.1
  obtain ⟨row, hr0, -⟩ := h.2.2.2.2.1
  refine (c5_reason l G h.1 hQ hg hr0 r x).mono (fun v f1 hp => ?_)
  obtain ⟨rfl, row1, hr1, hfr⟩ := hp
  refine ⟨congrArg (fun z => some (Value.int z)) ?_, T, q0, ra, rd, sp, rr, sb, h.rr_ row1 hr1 hfr⟩
  exact e_reas hF hgS hn16 r x
theorem k_answerIf (l : Launch) (G : mG) {f : mE} {T : Nat → Nat} {o q0 ra rd sp rr sb : Nat} {S P : Nat → Int32} {rc n cn : Nat} (h : CC G f T o q0 ra rd sp rr sb S P rc) (hv : VSn S n cn) (r k x : Int32) : mC l G yX5_answerIf wsX5_answerIf ({ frames := 6, cells := 0, slots := 0, locals := 147 } : Room) f [.ref o, .int r, .int k, .int x] (fun v f1 => v = some (.int (a6_answerIf S (-100005) n r k x)) ∧ CI G f1 o S P rc) 0 0 := by
  obtain ⟨b, fc, pr1, ka, va, B, X, rg, pa, qa, tk, lo, hi, ab, gv, us, g, K, V, hA, hB, hQ, hg, hgS, hF, hgv, hL, hT0, hTk⟩ := h.q hv
  have hn := hv.1
  have hn16 := hv.2.1
  obtain ⟨gs, hs0, ts⟩ := h.2.2.2.1
  have hq0 := hA.1.1
  have hsf : sp ≠ fc := fun z => by
    have t1 := hA.2.2.1.2.2.1
    rw [← z, ts] at t1
    exact ne_oi hq0 hs0 (Nat.succ.inj t1).symm
  have hsx : ∀ i, i < n → sp ≠ pa i ∧ sp ≠ qa i := fun i hi' => ⟨fun z => by have t1 := (hT0 i hi').1; rw [← z, ts] at t1; omega, fun z => by have t1 := (hT0 i hi').2; rw [← z, ts] at t1; omega⟩
  refine (c5_answerIf l G h.1 hQ hg hs0 hsf hsx r k x).mono (fun v f1 hp => ?_)
  obtain ⟨rfl, ⟨gs1, hs1⟩, hfr⟩ := hp
  refine ⟨congrArg (fun z => some (Value.int z)) ?_, T, q0, ra, rd, sp, rr, sb, h.sp_ gs1 hs1 hfr⟩
  rw [a6_answerIf]
  by_cases hc : inB r 0 3 = true ∧ valB k x = true
  · rw [if_pos hc, if_pos hc]
    obtain ⟨i, hi', rfl⟩ := val_nat hc.2
    rw [nI_clamp (by omega)]
    exact e_ans (hF.upd_ (by omega) x) (g_upd hgS i x) hgv (res_lt hc.1) (w_no hn16)
  · rw [if_neg hc, if_neg hc]
theorem k_nextChange (l : Launch) (G : mG) {f : mE} {T : Nat → Nat} {o q0 ra rd sp rr sb : Nat} {S P : Nat → Int32} {rc n cn : Nat} (h : CC G f T o q0 ra rd sp rr sb S P rc) (hv : VSn S n cn) (r k : Int32) : mC l G yX5_nextChange wsX5_nextChange ({ frames := 6, cells := 0, slots := 0, locals := 147 } : Room) f [.ref o, .int r, .int k] (fun v f1 => v = some (.int (a6_nextChange S (-100005) n r k)) ∧ CI G f1 o S P rc) 0 0 := by
  obtain ⟨b, fc, pr1, ka, va, B, X, rg, pa, qa, tk, lo, hi, ab, gv, us, g, K, V, hA, hB, hQ, hg, hgS, hF, hgv, hL, hT0, hTk⟩ := h.q hv
  have hn := hv.1
  have hn16 := hv.2.1
  obtain ⟨gs, hs0, ts⟩ := h.2.2.2.1
  have hq0 := hA.1.1
  have hsf : sp ≠ fc := fun z => by
    have t1 := hA.2.2.1.2.2.1
    rw [← z, ts] at t1
    exact ne_oi hq0 hs0 (Nat.succ.inj t1).symm
  have hsx : ∀ i, i < n → sp ≠ pa i ∧ sp ≠ qa i := fun i hi' => ⟨fun z => by have t1 := (hT0 i hi').1; rw [← z, ts] at t1; omega, fun z => by have t1 := (hT0 i hi').2; rw [← z, ts] at t1; omega⟩
  refine (c5_nextChange l G h.1 hQ hg hs0 hsf hsx r k).mono (fun v f1 hp => ?_)
  obtain ⟨rfl, ⟨gs1, hs1⟩, hfr⟩ := hp
  refine ⟨congrArg (fun z => some (Value.int z)) ?_, T, q0, ra, rd, sp, rr, sb, h.sp_ gs1 hs1 hfr⟩
  exact e_next hF hgS hgv hn16 hL hv.2.2.2.2.2.2 r k
theorem k_leastFor (l : Launch) (G : mG) {f : mE} {T : Nat → Nat} {o q0 ra rd sp rr sb : Nat} {S P : Nat → Int32} {rc n cn : Nat} (h : CC G f T o q0 ra rd sp rr sb S P rc) (hv : VSn S n cn) (r k x : Int32) : mC l G yX5_leastFor wsX5_leastFor ({ frames := 6, cells := 0, slots := 0, locals := 147 } : Room) f [.ref o, .int r, .int k, .int x] (fun v f1 => v = some (.int (a6_leastFor S (-100005) n r k x)) ∧ CI G f1 o S P rc) 0 0 := by
  obtain ⟨b, fc, pr1, ka, va, B, X, rg, pa, qa, tk, lo, hi, ab, gv, us, g, K, V, hA, hB, hQ, hg, hgS, hF, hgv, hL, hT0, hTk⟩ := h.q hv
  have hn := hv.1
  have hn16 := hv.2.1
  obtain ⟨gs, hs0, ts⟩ := h.2.2.2.1
  have hq0 := hA.1.1
  have hsf : sp ≠ fc := fun z => by
    have t1 := hA.2.2.1.2.2.1
    rw [← z, ts] at t1
    exact ne_oi hq0 hs0 (Nat.succ.inj t1).symm
  have hsx : ∀ i, i < n → sp ≠ pa i ∧ sp ≠ qa i := fun i hi' => ⟨fun z => by have t1 := (hT0 i hi').1; rw [← z, ts] at t1; omega, fun z => by have t1 := (hT0 i hi').2; rw [← z, ts] at t1; omega⟩
  refine (c5_leastFor l G h.1 hQ hg hs0 hsf hsx r k x).mono (fun v f1 hp => ?_)
  obtain ⟨rfl, ⟨gs1, hs1⟩, hfr⟩ := hp
  refine ⟨congrArg (fun z => some (Value.int z)) ?_, T, q0, ra, rd, sp, rr, sb, h.sp_ gs1 hs1 hfr⟩
  exact e_least hF hgS hgv hn16 hL r k x

