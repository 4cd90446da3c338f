/-! THE CLASS's contracts, at the law's arguments -/
theorem CI.obj {G : mG} {f : mE} {o : Nat} {S P : Nat → Int32} {rc : Nat} (h : CI G f o S P rc) : ∃ vs, f o = some (.inr (6, vs)) := by
  obtain ⟨T, q0, ra, rd, sp, rr, sb, h⟩ := h; exact ⟨_, h.1⟩
theorem tolS {S : Nat → Int32} {n cn k : Nat} (hv : VSn S n cn) (hk : k < n) (g : Nat → Int32) : tolI S (nI k) g = g k := (tolN_S hv.1 hv.2.1).trans (tolN_at hv.2.1 hk rfl).symm
theorem res4 {r : Nat} (h : r < 4) : inB (nI r) 0 3 = true := by
  have : r = 0 ∨ r = 1 ∨ r = 2 ∨ r = 3 := by omega
  rcases this with rfl | rfl | rfl | rfl <;> decide
theorem fac7 {j : Nat} (h : j < 7) : inB (nI j) 0 6 = true ∧ (nI j).toNatClampNeg = j := by
  have : j = 0 ∨ j = 1 ∨ j = 2 ∨ j = 3 ∨ j = 4 ∨ j = 5 ∨ j = 6 := by omega
  rcases this with rfl | rfl | rfl | rfl | rfl | rfl | rfl <;> decide
theorem inB_n {a b c : Nat} (h1 : a ≤ b) (h2 : b ≤ c) (h3 : c < 2 ^ 31) : inB (nI b) (nI a) (nI c) = true := inB_t (Int32.not_lt.mpr (by rw [Int32.le_iff_toInt_le, nI_toInt (by omega), nI_toInt (by omega)]; omega)) (Int32.not_lt.mpr (by rw [Int32.le_iff_toInt_le, nI_toInt (by omega), nI_toInt (by omega)]; omega))
theorem num4 {w : Nat} (h : w < 4) : inB (nI w) (-9999) 9999 = true := by
  have : w = 0 ∨ w = 1 ∨ w = 2 ∨ w = 3 := by omega
  rcases this with rfl | rfl | rfl | rfl <;> decide
theorem w26 {x : Nat} (h : x < 26) : inB (nI x) 0 25 = true := by
  have e : inB (nI x) (nI 0) (nI 25) = true := inB_n (Nat.zero_le x) (show x ≤ 25 by omega) (by decide)
  exact e
theorem p_sentences (l : Launch) (G : mG) {f : mE} {o : Nat} {S P : Nat → Int32} {rc n cn : Nat} (h : CI G f o S P rc) (hv : VSn S n cn) : mC l G yX5_sentences wsX5_sentences ({ frames := 0, cells := 0, slots := 0, locals := 0 } : Room) f [.ref o] (fun v f1 => v = some (.int (nI n)) ∧ CI G f1 o S P rc) 0 0 := by
  obtain ⟨T, q0, ra, rd, sp, rr, sb, h⟩ := h
  have e := k_sentences l G h hv
  exact e
theorem p_fact (l : Launch) (G : mG) {f : mE} {o : Nat} {S P : Nat → Int32} {rc n cn : Nat} (h : CI G f o S P rc) (hv : VSn S n cn) {j : Nat} (hj : j < 7) : mC l G yX5_fact wsX5_fact ({ frames := 1, cells := 0, slots := 0, locals := 20 } : Room) f [.ref o, .int (nI j)] (fun v f1 => v = some (.int (S j)) ∧ CI G f1 o S P rc) 0 0 := by
  obtain ⟨T, q0, ra, rd, sp, rr, sb, h⟩ := h
  have e := k_fact l G h hv (nI j)
  rw [if_pos (fac7 hj).1, (fac7 hj).2] at e; exact e
theorem p_about (l : Launch) (G : mG) {f : mE} {o : Nat} {S P : Nat → Int32} {rc n cn : Nat} (h : CI G f o S P rc) (hv : VSn S n cn) {k : Nat} (hk : k < n) : mC l G yX5_about wsX5_about ({ frames := 1, cells := 0, slots := 0, locals := 21 } : Room) f [.ref o, .int (nI k)] (fun v f1 => v = some (.int (S (57 + 66 * k + 49))) ∧ CI G f1 o S P rc) 0 0 := by
  obtain ⟨T, q0, ra, rd, sp, rr, sb, h⟩ := h
  have e := k_about l G h hv (nI k)
  rw [tolS hv hk] at e; exact e
theorem p_gives (l : Launch) (G : mG) {f : mE} {o : Nat} {S P : Nat → Int32} {rc n cn : Nat} (h : CI G f o S P rc) (hv : VSn S n cn) {k : Nat} (hk : k < n) : mC l G yX5_gives wsX5_gives ({ frames := 1, cells := 0, slots := 0, locals := 21 } : Room) f [.ref o, .int (nI k)] (fun v f1 => v = some (.int (S (57 + 66 * k + 50))) ∧ CI G f1 o S P rc) 0 0 := by
  obtain ⟨T, q0, ra, rd, sp, rr, sb, h⟩ := h
  have e := k_gives l G h hv (nI k)
  rw [tolS hv hk] at e; exact e
theorem p_uses (l : Launch) (G : mG) {f : mE} {o : Nat} {S P : Nat → Int32} {rc n cn : Nat} (h : CI G f o S P rc) (hv : VSn S n cn) {k : Nat} (hk : k < n) : mC l G yX5_uses wsX5_uses ({ frames := 1, cells := 0, slots := 0, locals := 21 } : Room) f [.ref o, .int (nI k)] (fun v f1 => v = some (.int (S (57 + 66 * k + 51))) ∧ CI G f1 o S P rc) 0 0 := by
  obtain ⟨T, q0, ra, rd, sp, rr, sb, h⟩ := h
  have e := k_uses l G h hv (nI k)
  rw [tolS hv hk] at e; exact e
theorem p_least (l : Launch) (G : mG) {f : mE} {o : Nat} {S P : Nat → Int32} {rc n cn : Nat} (h : CI G f o S P rc) (hv : VSn S n cn) {k : Nat} (hk : k < n) {j : Nat} (hj : j < 7) : mC l G yX5_least wsX5_least ({ frames := 1, cells := 0, slots := 0, locals := 21 } : Room) f [.ref o, .int (nI k), .int (nI j)] (fun v f1 => v = some (.int (S (57 + 66 * k + (52 + j)))) ∧ CI G f1 o S P rc) 0 0 := by
  obtain ⟨T, q0, ra, rd, sp, rr, sb, h⟩ := h
  have e := k_least l G h hv (nI k) (nI j)
  rw [tolS hv hk, if_pos (fac7 hj).1, (fac7 hj).2] at e; exact e
theorem p_greatest (l : Launch) (G : mG) {f : mE} {o : Nat} {S P : Nat → Int32} {rc n cn : Nat} (h : CI G f o S P rc) (hv : VSn S n cn) {k : Nat} (hk : k < n) {j : Nat} (hj : j < 7) : mC l G yX5_greatest wsX5_greatest ({ frames := 1, cells := 0, slots := 0, locals := 21 } : Room) f [.ref o, .int (nI k), .int (nI j)] (fun v f1 => v = some (.int (S (57 + 66 * k + (59 + j)))) ∧ CI G f1 o S P rc) 0 0 := by
  obtain ⟨T, q0, ra, rd, sp, rr, sb, h⟩ := h
  have e := k_greatest l G h hv (nI k) (nI j)
  rw [tolS hv hk, if_pos (fac7 hj).1, (fac7 hj).2] at e; exact e
theorem p_sharpness (l : Launch) (G : mG) {f : mE} {o : Nat} {S P : Nat → Int32} {rc n cn : Nat} (h : CI G f o S P rc) (hv : VSn S n cn) {k : Nat} (hk : k < n) : mC l G yX5_sharpness wsX5_sharpness ({ frames := 2, cells := 0, slots := 0, locals := 42 } : Room) f [.ref o, .int (nI k)] (fun v f1 => v = some (.int (nI (shaN S k))) ∧ CI G f1 o S P rc) 0 0 := by
  obtain ⟨T, q0, ra, rd, sp, rr, sb, h⟩ := h
  have e := k_sharpness l G h hv (nI k)
  rw [tolS hv hk] at e; exact e
theorem p_answer (l : Launch) (G : mG) {f : mE} {o : Nat} {S P : Nat → Int32} {rc n cn : Nat} (h : CI G f o S P rc) (hv : VSn S n cn) {r : Nat} (hr : r < 4) : mC l G yX5_answer wsX5_answer ({ frames := 5, cells := 0, slots := 0, locals := 124 } : Room) f [.ref o, .int (nI r)] (fun v f1 => v = some (.int (ansI S (-100005) n (nI r))) ∧ CI G f1 o S P rc) 0 0 := by
  obtain ⟨T, q0, ra, rd, sp, rr, sb, h⟩ := h
  have e := k_answer l G h hv (nI r)
  rw [a6_answer, if_pos (res4 hr)] at e; exact e
theorem p_reasons (l : Launch) (G : mG) {f : mE} {o : Nat} {S P : Nat → Int32} {rc n cn : Nat} (h : CI G f o S P rc) (hv : VSn S n cn) {r : Nat} (hr : r < 4) : mC l G yX5_reasons wsX5_reasons ({ frames := 5, cells := 0, slots := 0, locals := 121 } : Room) f [.ref o, .int (nI r)] (fun v f1 => v = some (.int (nI (mS_ S n (nI r)))) ∧ CI G f1 o S P rc) 0 0 := by
  obtain ⟨T, q0, ra, rd, sp, rr, sb, h⟩ := h
  have e := k_reasons l G h hv (nI r)
  rw [a6_reasons, if_pos (res4 hr)] at e; exact e
theorem p_reason (l : Launch) (G : mG) {f : mE} {o : Nat} {S P : Nat → Int32} {rc n cn : Nat} (h : CI G f o S P rc) (hv : VSn S n cn) (r i : Nat) : mC l G yX5_reason wsX5_reason ({ frames := 5, cells := 0, slots := 0, locals := 121 } : Room) f [.ref o, .int (nI r), .int (nI i)] (fun v f1 => v = some (.int (a6_reason S (-100005) n (nI r) (nI i))) ∧ CI G f1 o S P rc) 0 0 := by
  obtain ⟨T, q0, ra, rd, sp, rr, sb, h⟩ := h
  have e := k_reason l G h hv (nI r) (nI i)
  exact e
theorem p_overridden (l : Launch) (G : mG) {f : mE} {o : Nat} {S P : Nat → Int32} {rc n cn : Nat} (h : CI G f o S P rc) (hv : VSn S n cn) {r : Nat} (hr : r < 4) : mC l G yX5_overridden wsX5_overridden ({ frames := 3, cells := 0, slots := 0, locals := 74 } : Room) f [.ref o, .int (nI r)] (fun v f1 => v = some (.int (nI (cntN (fun k => appB S (-100005) k (nI r) && !reaB S (-100005) n k (nI r)) n))) ∧ CI G f1 o S P rc) 0 0 := by
  obtain ⟨T, q0, ra, rd, sp, rr, sb, h⟩ := h
  have e := k_overridden l G h hv (nI r)
  rw [a6_overridden, if_pos (res4 hr)] at e; exact e
theorem p_compare (l : Launch) (G : mG) {f : mE} {o : Nat} {S P : Nat → Int32} {rc n cn : Nat} (h : CI G f o S P rc) (hv : VSn S n cn) {a b : Nat} (ha : a < n) (hb : b < n) : mC l G yX5_compare wsX5_compare ({ frames := 2, cells := 0, slots := 0, locals := 43 } : Room) f [.ref o, .int (nI a), .int (nI b)] (fun v f1 => v = some (.int (cmpS S a b)) ∧ CI G f1 o S P rc) 0 0 := by
  obtain ⟨T, q0, ra, rd, sp, rr, sb, h⟩ := h
  have e := k_compare l G h hv (nI a) (nI b)
  rw [tolS hv ha, tolS hv hb] at e; exact e
theorem p_contradiction (l : Launch) (G : mG) {f : mE} {o : Nat} {S P : Nat → Int32} {rc n cn : Nat} (h : CI G f o S P rc) (hv : VSn S n cn) (x : Int32) : mC l G yX5_contradiction wsX5_contradiction ({ frames := 4, cells := 0, slots := 0, locals := 92 } : Room) f [.ref o, .int x] (fun v f1 => v = some (.int (ctdX S n x)) ∧ CI G f1 o S P rc) 0 0 := by
  obtain ⟨T, q0, ra, rd, sp, rr, sb, h⟩ := h
  have e := k_contradiction l G h hv x
  exact e
theorem p_matters (l : Launch) (G : mG) {f : mE} {o : Nat} {S P : Nat → Int32} {rc n cn : Nat} (h : CI G f o S P rc) (hv : VSn S n cn) {k : Nat} (hk : k < n) : mC l G yX5_matters wsX5_matters ({ frames := 5, cells := 0, slots := 0, locals := 124 } : Room) f [.ref o, .int (nI k)] (fun v f1 => v = some (.int (matI S n k)) ∧ CI G f1 o S P rc) 0 0 := by
  obtain ⟨T, q0, ra, rd, sp, rr, sb, h⟩ := h
  have e := k_matters l G h hv (nI k)
  rw [tolS hv hk] at e; exact e
theorem p_answerIf (l : Launch) (G : mG) {f : mE} {o : Nat} {S P : Nat → Int32} {rc n cn : Nat} (h : CI G f o S P rc) (hv : VSn S n cn) {r : Nat} (hr : r < 4) {j : Nat} (hj : j < 7) {x : Int32} (hx : valB (nI j) x = true) : mC l G yX5_answerIf wsX5_answerIf ({ frames := 6, cells := 0, slots := 0, locals := 147 } : Room) f [.ref o, .int (nI r), .int (nI j), .int x] (fun v f1 => v = some (.int (ansI (upd S j x) (-100005) n (nI r))) ∧ CI G f1 o S P rc) 0 0 := by
  obtain ⟨T, q0, ra, rd, sp, rr, sb, h⟩ := h
  have e := k_answerIf l G h hv (nI r) (nI j) x
  rw [a6_answerIf, if_pos ⟨res4 hr, hx⟩, (fac7 hj).2] at e; exact e
theorem p_nextChange (l : Launch) (G : mG) {f : mE} {o : Nat} {S P : Nat → Int32} {rc n cn : Nat} (h : CI G f o S P rc) (hv : VSn S n cn) {r : Nat} (hr : r < 4) {j : Nat} (hj : j < 7) : mC l G yX5_nextChange wsX5_nextChange ({ frames := 6, cells := 0, slots := 0, locals := 147 } : Room) f [.ref o, .int (nI r), .int (nI j)] (fun v f1 => v = some (.int (ncZ S (-100005) n (nI r) j (fun z => !decide (z = ansI S (-100005) n (nI r))) (borI S n j (S j)))) ∧ CI G f1 o S P rc) 0 0 := by
  obtain ⟨T, q0, ra, rd, sp, rr, sb, h⟩ := h
  have e := k_nextChange l G h hv (nI r) (nI j)
  rw [a6_nextChange, if_pos ⟨res4 hr, (fac7 hj).1⟩, (fac7 hj).2] at e; exact e
theorem p_leastFor (l : Launch) (G : mG) {f : mE} {o : Nat} {S P : Nat → Int32} {rc n cn : Nat} (h : CI G f o S P rc) (hv : VSn S n cn) {r : Nat} (hr : r < 4) {j : Nat} (hj : j < 7) {w : Nat} (hw : w < 4) : mC l G yX5_leastFor wsX5_leastFor ({ frames := 6, cells := 0, slots := 0, locals := 147 } : Room) f [.ref o, .int (nI r), .int (nI j), .int (nI w)] (fun v f1 => v = some (.int (ncZ S (-100005) n (nI r) j (fun z => decide (z = nI w)) (leastF (nI j)))) ∧ CI G f1 o S P rc) 0 0 := by
  obtain ⟨T, q0, ra, rd, sp, rr, sb, h⟩ := h
  have e := k_leastFor l G h hv (nI r) (nI j) (nI w)
  rw [a6_leastFor, if_pos ⟨res4 hr, (fac7 hj).1, num4 hw⟩, (fac7 hj).2] at e; exact e
theorem p_definition (l : Launch) (G : mG) {f : mE} {o : Nat} {S P : Nat → Int32} {rc n cn : Nat} (h : CI G f o S P rc) (hv : VSn S n cn) (w : Int32) : mC l G yX5_definition wsX5_definition ({ frames := 2, cells := 0, slots := 0, locals := 44 } : Room) f [.ref o, .int w] (fun v f1 => v = some (.int (if inB w 0 5 = true then defI S n w else -100002)) ∧ CI G f1 o S P rc) 0 0 := by
  obtain ⟨T, q0, ra, rd, sp, rr, sb, h⟩ := h
  have e := k_definition l G h hv w
  exact e
theorem p_holds (l : Launch) (G : mG) {f : mE} {o : Nat} {S P : Nat → Int32} {rc n cn : Nat} (h : CI G f o S P rc) (hv : VSn S n cn) (w : Int32) : mC l G yX5_holds wsX5_holds ({ frames := 2, cells := 0, slots := 0, locals := 44 } : Room) f [.ref o, .int w] (fun v f1 => v = some (.int (a6_holds S n w)) ∧ CI G f1 o S P rc) 0 0 := by
  obtain ⟨T, q0, ra, rd, sp, rr, sb, h⟩ := h
  have e := k_holds l G h hv w
  exact e
theorem p_length (l : Launch) (G : mG) {f : mE} {o : Nat} {S P : Nat → Int32} {rc n cn : Nat} (h : CI G f o S P rc) (hv : VSn S n cn) (k : Int32) : mC l G yX5_length wsX5_length ({ frames := 2, cells := 0, slots := 0, locals := 40 } : Room) f [.ref o, .int k] (fun v f1 => v = some (.int (tolI S k (fun j => nI ((senL S j (ctN S j)).length + 1)))) ∧ CI G f1 o S P rc) 0 0 := by
  obtain ⟨T, q0, ra, rd, sp, rr, sb, h⟩ := h
  have e := k_length l G h hv k
  exact e
theorem p_clear (l : Launch) (G : mG) {f : mE} {o : Nat} {S P : Nat → Int32} {rc n cn : Nat} (h : CI G f o S P rc) (hv : VSn S n cn) : mC l G yX5_clear wsX5_clear ({ frames := 1, cells := 0, slots := 0, locals := 20 } : Room) f [.ref o] (fun v f1 => v = some (.int (nI cn)) ∧ CI G f1 o (upd S 7 (nI 0)) P rc) 0 0 := by
  obtain ⟨T, q0, ra, rd, sp, rr, sb, h⟩ := h
  have e := k_clear l G h hv
  exact e
theorem p_word (l : Launch) (G : mG) {f : mE} {o : Nat} {S P : Nat → Int32} {rc n cn : Nat} (h : CI G f o S P rc) (hv : VSn S n cn) {x : Nat} (hx : x < 26) : mC l G yX5_word wsX5_word ({ frames := 2, cells := 0, slots := 0, locals := 44 } : Room) f [.ref o, .int (nI x)] (fun v f1 => v = some (.int (addI cn)) ∧ CI G f1 o (addT S cn 0 (nI x)) P rc) 0 0 := by
  obtain ⟨T, q0, ra, rd, sp, rr, sb, h⟩ := h
  have e := k_word l G h hv (nI x)
  rw [if_pos (w26 hx), if_pos (w26 hx)] at e; exact e
theorem p_number (l : Launch) (G : mG) {f : mE} {o : Nat} {S P : Nat → Int32} {rc n cn : Nat} (h : CI G f o S P rc) (hv : VSn S n cn) {x : Int32} (hx : inB x (-9999) 9999 = true) : mC l G yX5_number wsX5_number ({ frames := 2, cells := 0, slots := 0, locals := 44 } : Room) f [.ref o, .int x] (fun v f1 => v = some (.int (addI cn)) ∧ CI G f1 o (addT S cn 1 x) P rc) 0 0 := by
  obtain ⟨T, q0, ra, rd, sp, rr, sb, h⟩ := h
  have e := k_number l G h hv x
  rw [if_pos hx, if_pos hx] at e; exact e
theorem p_date (l : Launch) (G : mG) {f : mE} {o : Nat} {S P : Nat → Int32} {rc n cn : Nat} (h : CI G f o S P rc) (hv : VSn S n cn) {x y z : Int32} (hx : dateB x y z = true) : mC l G yX5_date wsX5_date ({ frames := 3, cells := 0, slots := 0, locals := 65 } : Room) f [.ref o, .int x, .int y, .int z] (fun v f1 => v = some (.int (addI cn)) ∧ CI G f1 o (addT S cn 2 (dayI x y z)) P rc) 0 0 := by
  obtain ⟨T, q0, ra, rd, sp, rr, sb, h⟩ := h
  have e := k_date l G h hv x y z
  rw [if_pos hx, if_pos hx] at e; exact e
theorem p_setFact (l : Launch) (G : mG) {f : mE} {o : Nat} {S P : Nat → Int32} {rc n cn : Nat} (h : CI G f o S P rc) (hv : VSn S n cn) {j : Nat} (hj : j < 7) {x : Int32} (hx : valB (nI j) x = true) : mC l G yX5_setFact wsX5_setFact ({ frames := 4, cells := 6, slots := 78, locals := 90 } : Room) f [.ref o, .int (nI j), .int x] (fun v f1 => v = some (.int (S j)) ∧ CI G f1 o (upd S j x) (recP S P rc) (recN rc)) 6 78 := by
  obtain ⟨T, q0, ra, rd, sp, rr, sb, h⟩ := h
  have e := k_setFact l G h (nI j) x
  rw [if_pos hx, if_pos hx, if_pos hx, if_pos hx, (fac7 hj).2] at e; exact e
theorem p_syntaxError (l : Launch) (G : mG) {f : mE} {o : Nat} {S P : Nat → Int32} {rc n cn : Nat} (h : CI G f o S P rc) (hv : VSn S n cn) : mC l G yX5_syntaxError wsX5_syntaxError ({ frames := 5, cells := 0, slots := 0, locals := 109 } : Room) f [.ref o] (fun v f1 => v = some (.int ((errF S cn 0 false false 0).1)) ∧ CI G f1 o S P rc) 0 0 := by
  obtain ⟨T, q0, ra, rd, sp, rr, sb, h⟩ := h
  exact mC.mono (k_syntaxError l G h hv) (fun v f1 ⟨E, e1, e2, e3⟩ => ⟨by rw [e1, e2 false false], e3⟩)
def tZ0 : Nat → Int32 := fun _ => 0
def tOk (S : Nat → Int32) (n cn : Nat) : Bool := telO S n cn false false tZ0 tZ0 0
def tSt (S : Nat → Int32) (n cn : Nat) : Nat → Int32 := telZ S n (rsAll S n cn tZ0 tZ0 0)
theorem p_tell (l : Launch) (G : mG) {f : mE} {o : Nat} {S P : Nat → Int32} {rc n cn : Nat} (h : CI G f o S P rc) (hv : VSn S n cn) : mC l G yX5_tell wsX5_tell ({ frames := 10, cells := 620, slots := 1909, locals := 221 } : Room) f [.ref o] (fun v f1 => v = some (.int (telV S n cn false false tZ0 tZ0 0)) ∧ CI G f1 o (if tOk S n cn = true then tSt S n cn else S) (if tOk S n cn = true then recP S P rc else P) (if tOk S n cn = true then recN rc else rc) ∧ (tOk S n cn = true → VSn (tSt S n cn) (n + 1) 0)) 620 1909 := by
  obtain ⟨T, q0, ra, rd, sp, rr, sb, h⟩ := h
  exact k_tell l G h hv false false tZ0 tZ0 0
theorem p_retract (l : Launch) (G : mG) {f : mE} {o : Nat} {S P : Nat → Int32} {rc n cn : Nat} (h : CI G f o S P rc) (hv : VSn S n cn) {k : Nat} (hk : k < n) : mC l G yX5_retract wsX5_retract ({ frames := 4, cells := 6, slots := 78, locals := 90 } : Room) f [.ref o, .int (nI k)] (fun v f1 => (v = some (.int (retV S n (nI k))) ∧ retP S n k = true ∧ CI G f1 o S P rc) ∨ (retP S n k = false ∧ v = some (.int (nI (n - 1))) ∧ CI G f1 o (retS S n k) (recP S P rc) (recN rc))) 6 78 := by
  obtain ⟨T, q0, ra, rd, sp, rr, sb, h⟩ := h
  have hn := hv.2.1
  refine mC.mono (k_retract l G h hv (nI k)) (fun v f1 hp => ?_)
  rcases hp with ⟨e1, e2, e3⟩ | ⟨j, j1, j2, j3, j4, j5⟩
  · refine Or.inl ⟨e1, ?_, e3⟩
    rw [retV, tolS hv hk] at e2
    cases hr : retP S n k with
    | true => rfl
    | false =>
      rw [hr, if_neg (by decide)] at e2
      exact absurd e2 (nI_pos (by omega))
  · have e : j = k := nI_inj (by omega) (by omega) j2.symm
    subst e
    exact Or.inr ⟨j3, j4, j5⟩
theorem CI.words {G : mG} {f : mE} {o : Nat} {S S2 P : Nat → Int32} {rc : Nat} (h : CI G f o S P rc) (e : ∀ w, w < 1113 → S2 w = S w) : CI G f o S2 P rc := by
  obtain ⟨T, q0, ra, rd, sp, rr, sb, h1, h2, h3, h4, h5, h6, h7, h8⟩ := h
  exact ⟨T, q0, ra, rd, sp, rr, sb, h1, h2, h3, h4, h5, h6, h7.cong e, h8⟩
theorem recN_s {rc : Nat} (h : rc ≤ 8) : ∃ q, recN rc = q + 1 ∧ q < 8 := by
  unfold recN; split
  · exact ⟨7, rfl, by decide⟩
  · exact ⟨rc, rfl, by omega⟩
theorem recP_q {S P : Nat → Int32} {rc q w : Nat} (hr : rc ≤ 8) (h : recN rc = q + 1) (hw : w < 1113) : recP S P rc (1113 * q + w) = S w := by
  unfold recN at h
  unfold recP
  split
  · rename_i e
    rw [if_pos e] at h
    have : q = 7 := by omega
    subst this
    unfold cpK; rw [if_pos (by omega)]; exact congrArg S (by omega)
  · rename_i e
    rw [if_neg e] at h
    have : q = rc := by omega
    subst this
    unfold cpK; rw [if_pos (by omega)]; exact congrArg S (by omega)
theorem CI.le8 {G : mG} {f : mE} {o : Nat} {S P : Nat → Int32} {rc : Nat} (h : CI G f o S P rc) : rc ≤ 8 := by
  obtain ⟨T, q0, ra, rd, sp, rr, sb, h⟩ := h
  obtain ⟨-, -, -, -, -, -, -, RB, Z, -, -, e, -⟩ := h
  exact e
/-- what was changed once is taken back -/
theorem p_undo (l : Launch) (G : mG) {f : mE} {o : Nat} {S S2 P : Nat → Int32} {rc q : Nat} (hr : rc ≤ 8) (hq : recN rc = q + 1) (h : CI G f o S2 (recP S P rc) (recN rc)) : mC l G yX5_undo wsX5_undo ({ frames := 3, cells := 0, slots := 0, locals := 69 } : Room) f [.ref o] (fun v f1 => v = some (.int (nI q)) ∧ ∃ P1 rc1, CI G f1 o S P1 rc1) 0 0 := by
  obtain ⟨T, q0, ra, rd, sp, rr, sb, h⟩ := h
  rw [hq] at h
  have hq8 : q < 8 := by
    obtain ⟨q1, e1, e2⟩ := recN_s hr
    omega
  refine mC.mono (k_undoL l G h hq8) (fun v f1 ⟨e1, e2⟩ => ⟨e1, _, _, e2.words (fun w hw => ?_)⟩)
  rw [filN_in hw, recP_q hr hq hw]
