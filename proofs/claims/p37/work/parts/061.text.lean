/-! THE CLASS: texts -/
theorem txt_len : ∀ i, i < 27 → textL.getD i 0 = (textB.getD i []).length := by decide +kernel
def Gc (cap n : Nat) : Nat := if n ≤ cap then cap else 2 * cap + 2
theorem Gc_ge (cap n : Nat) : cap ≤ Gc cap n := by unfold Gc; split <;> omega
theorem Gc_mono {cap n m : Nat} (h : n ≤ m) : Gc cap n ≤ Gc cap m := by unfold Gc; (repeat' split) <;> omega
theorem GcGc {cap n m : Nat} (h : n ≤ m) (h2 : m ≤ cap + 16) (h3 : 16 ≤ cap) : Gc (Gc cap n) m = Gc cap m := by unfold Gc; (repeat' split) <;> omega
theorem Gc_has {cap n : Nat} (h : n ≤ cap + 16) (h3 : 16 ≤ cap) : n ≤ Gc cap n := by unfold Gc; split <;> omega
theorem Gc_600 {cap n : Nat} (h : cap ≤ 600) (h2 : n ≤ 290) : Gc cap n ≤ 600 := by unfold Gc; split <;> omega
section LWS
variable {p : Program} {l : Launch} {e : Env} {R : Room} {s : State} {m : MethodId} {args : Array Value} {below : List Frame} {meth : Method} {c : Code} {H : Heap} {locs : List Loc} {cells slots : Nat} {Q : State → Prop}
variable {cc : ByteArray} {pc : Nat} {ls : Array Slot} {rest : List Value}
theorem va_ldcwS0 {T : State} (X : Stand p l e R s m args below meth c T locs cells slots) (hexec : p.tables.exec = Jvm.exec) {own text : String} {index : Nat} {a : Addr} (hown : s.vm.findClass own = some m.cls)
    (hconst : (Cond.stringRef own index text).before args s = true) (hev : (Term.string own index).eval args s none [] s = some (.ref a)) {g : JFrame} (hg : g.method = m) (hdg : decode c.code g.pc = .ok (.ldc_w index, 3)) :
    ∀ target, Steps p.tables e below (T.setTop { g with pc := g.pc + 3, stack := .ref a :: g.stack }) target → Steps p.tables e below (T.setTop g) target := by
  obtain ⟨k, cf, i, a', hk, hcf, hcp, -, hr, hev'⟩ := Cond.stringRef_spec hown hconst
  cases hev.symm.trans hev'
  obtain ⟨k', hk', he⟩ := X.warmed.alike.2.2 _ _ hk
  have hr' : k'.resolved[index]? = some (some (.string a)) := by
    rcases X.warmed.entry hk hk' index with h | ⟨h, -⟩
    · rw [h]; exact hr
    · rw [hr] at h; cases h
  intro target hrest
  subst hg
  jvm_step X.here [hexec, hdg, ldc_w.wp_string (e := e) (s := T) (f := g) X.here.top hk' (by rw [he]; exact hcf) hcp hr']
  exact hrest
theorem va_ldcwS (hexec : p.tables.exec = Jvm.exec) (hb : c.code = cc) {own tx : String} {index q : Nat} (hown : s.vm.findClass own = some m.cls) (hZ : vk_R own index tx q s) (hdg : decode cc pc = .ok (.ldc_w index, 3))
    (k : W p l e R s m args below meth c H locs cells slots Q (F0 m (pc + 3) ls (.ref q :: rest))) : W p l e R s m args below meth c H locs cells slots Q (F0 m pc ls rest) := by
  intro T hT X
  obtain ⟨t, a1, b1⟩ := k T hT X
  exact ⟨t, va_ldcwS0 X hexec hown (text := tx) (a := q) (by first | exact hZ.1 | exact (va_tabs rfl rfl hZ.1)) (by first | exact hZ.2 | (rw [Term.string_eval_of_vm (args := #[]) rfl]; exact hZ.2)) (g := F0 m pc ls rest) rfl (by rw [hb]; exact hdg) t a1, b1⟩
end LWS
def TbP (G : mG) (f : mE) (sb va cap : Nat) (ml : Int32) (L : List Int32) : Prop := ∃ by1 : Nat → Int32, f sb = some (.inr (0, [.ref va, .int (nI 0), .int ml, .int (nI L.length)])) ∧ f va = some (mB G cap by1) ∧ sb_Fit by1 ∧ ∀ j, j < L.length → by1 j = L.getD j 0
def TbW (G : mG) (f f1 : mE) (sb va : Nat) (ml : Int32) (cap : Nat) (L : List Int32) : Prop := ∃ z, TbP G f1 sb z cap ml L ∧ (z = va ∨ f z = none) ∧ ∀ c e, f c = some e → c ≠ sb → c ≠ va → f1 c = some e
theorem TbP.start {G : mG} {f : mE} {sb va cap : Nat} {ml : Int32} {L : List Int32} (h : TbP G f sb va cap ml L) : TbW G f f sb va ml cap L := ⟨va, h, Or.inl rfl, fun _ _ h _ _ => h⟩
theorem TbW.trans {G : mG} {f f1 f2 : mE} {sb va z cap1 cap2 : Nat} {ml : Int32} {L1 L2 : List Int32} (hp : TbP G f1 sb z cap1 ml L1) (hz : z = va ∨ f z = none) (hfr : ∀ c e, f c = some e → c ≠ sb → c ≠ va → f1 c = some e) (h2 : TbW G f1 f2 sb z ml cap2 L2) : TbW G f f2 sb va ml cap2 L2 := by
  obtain ⟨z2, a, b, c⟩ := h2
  obtain ⟨by1, s1, s2, -⟩ := hp
  refine ⟨z2, a, ?_, fun q e hq n1 n2 => c q e (hfr q e hq n1 n2) n1 (fun hz2 => ?_)⟩
  · by_cases h : z2 = va
    · exact Or.inl h
    · refine Or.inr ?_
      rcases b with b | b
      · subst b; rcases hz with hz | hz
        · exact absurd hz h
        · exact hz
      · cases hf : f z2 with
        | none => rfl
        | some e =>
          by_cases hs : z2 = sb
          · rw [hs, s1] at b; cases b
          · rw [hfr z2 e hf hs h] at b; cases b
  · subst hz2
    rcases hz with hz | hz
    · exact n2 hz
    · rw [hz] at hq; cases hq
theorem TbP.sb {G : mG} {f : mE} {sb va cap : Nat} {ml : Int32} {L : List Int32} (h : TbP G f sb va cap ml L) : f sb = some (.inr (0, [.ref va, .int (nI 0), .int ml, .int (nI L.length)])) := by
  obtain ⟨by1, a, -⟩ := h; exact a
theorem TbW.get {G : mG} {f f1 : mE} {sb va cap : Nat} {ml : Int32} {L : List Int32} (h : TbW G f f1 sb va ml cap L) {o : Nat} {e : va_E} (ho : f o = some e) (n1 : o ≠ sb) (n2 : o ≠ va) : f1 o = some e := by
  obtain ⟨z, -, -, c⟩ := h; exact c o e ho n1 n2
theorem apart_z {f : mE} {o va z : Nat} {e : va_E} (h : o ≠ va) (hz : z = va ∨ f z = none) (ho : f o = some e) : o ≠ z := by
  rintro rfl
  rcases hz with hz | hz
  · exact h hz
  · rw [ho] at hz; cases hz
theorem Gc_two (cap n : Nat) : Gc cap n ≤ 2 * cap + 2 := by unfold Gc; split <;> omega
theorem codeN_yr {x : Nat} (h : x ≤ 73048) : 1900 ≤ codeN x / 10000 ∧ codeN x / 10000 ≤ 2120 := by
  have := codG_le 73048 (Nat.le_refl _) (x + 1) (lf := x) (y := 1900) (m := 1) (by omega) (by omega) (by omega) (by omega) (by omega)
  unfold codeN
  omega
theorem TbW.cap {G : mG} {f f1 : mE} {sb va cap cap2 : Nat} {ml : Int32} {L L2 : List Int32} (h : TbW G f f1 sb va ml cap L) (e : cap = cap2) (e2 : L = L2) : TbW G f f1 sb va ml cap2 L2 := by subst e; subst e2; exact h
theorem t_appC (l : Launch) (G : mG) {f : mE} {sb va cap : Nat} {ml : Int32} {L : List Int32} (h : TbP G f sb va cap ml L) (hl : L.length ≤ cap) (hc : 16 ≤ cap) (hc2 : cap ≤ 15000) (x : Nat) (hx8 : x < 128) : mC l G yJ4_append_cf468 wsJ4_append_cf468 ({ frames := 5, cells := Gc cap (L.length + 1) - cap, slots := 2 * (Gc cap (L.length + 1) - cap), locals := 112 } : Room) f [.ref sb, .int (nI x)] (fun v f1 => v = some (va_rf (some sb)) ∧ TbW G f f1 sb va ml (Gc cap (L.length + 1)) (L ++ [nI x])) (Gc cap (L.length + 1) - cap) (2 * (Gc cap (L.length + 1) - cap)) := by
  obtain ⟨by1, h1, h2, h3, h4⟩ := h
  have key : ∀ g : Nat → Int32, (∀ j, j < L.length → g j = by1 j) → ∀ j, j < (L ++ [nI x]).length → upd g L.length (nI x) j = (L ++ [nI x]).getD j 0 := by
    intro g hg j hj
    rw [List.length_append, List.length_singleton] at hj
    unfold upd
    by_cases e : j = L.length
    · subst e; rw [if_pos rfl, gD_r (Nat.le_refl _), Nat.sub_self]; rfl
    · rw [if_neg e, hg j (by omega), h4 j (by omega), gD_l (by omega)]
  by_cases hq : L.length + 1 ≤ cap
  · have e : Gc cap (L.length + 1) = cap := if_pos hq
    rw [e, Nat.sub_self, Nat.mul_zero]
    refine (j4_appC0 l G h1 h2 x hx8 hq (by omega)).mono (fun v f1 hp => ?_)
    obtain ⟨a, b, c, d⟩ := hp
    exact ⟨a, va, ⟨_, by rw [List.length_append]; exact b, c, sb_fitU h3 (fit_nI hx8), key _ (fun _ _ => rfl)⟩, Or.inl rfl, d⟩
  · have e : Gc cap (L.length + 1) = 2 * cap + 2 := if_neg hq
    rw [e, show 2 * cap + 2 - cap = cap + 2 by omega]
    refine (j4_appC1 l G h1 h2 x hx8 h3 (by omega) hl hc hc2).mono (fun v f1 hp => ?_)
    obtain ⟨a, z, b, c, d, d2⟩ := hp
    exact ⟨a, z, ⟨_, by rw [List.length_append]; exact c, d, sb_fitU (sb_fitC h3 sb_fit0) (fit_nI hx8), key _ (fun j hj => sb_cpy0 (by omega))⟩, Or.inr b, d2⟩
theorem t_appS (l : Launch) (G : mG) {f : mE} {sb va cap : Nat} {ml : Int32} {L : List Int32} (h : TbP G f sb va cap ml L) (hl : L.length ≤ cap) (hc : 16 ≤ cap) (hc2 : cap ≤ 15000) (i : Nat) (hi : i < 27) {M : List Int32} (hM : textB.getD i [] = M) : mC l G yJ4_append_15ec4 wsJ4_append_15ec4 ({ frames := 5, cells := Gc cap (L.length + M.length) - cap, slots := 2 * (Gc cap (L.length + M.length) - cap), locals := 113 } : Room) f [.ref sb, .ref (G.2.2 (10 + i))] (fun v f1 => v = some (va_rf (some sb)) ∧ TbW G f f1 sb va ml (Gc cap (L.length + M.length)) (L ++ M)) (Gc cap (L.length + M.length) - cap) (2 * (Gc cap (L.length + M.length) - cap)) := by
  obtain ⟨by1, h1, h2, h3, h4⟩ := h
  obtain ⟨hl8, hft⟩ := txt_all i hi
  have hlen : textL.getD i 0 = M.length := by rw [← hM]; exact txt_len i hi
  have key : ∀ g : Nat → Int32, (∀ j, j < L.length → g j = by1 j) → ∀ j, j < (L ++ M).length → va_cpy (fun j => (textB.getD i []).getD j 0) g 0 L.length (textL.getD i 0) j = (L ++ M).getD j 0 := by
    intro g hg j hj
    rw [List.length_append] at hj
    unfold va_cpy
    by_cases e : L.length ≤ j
    · rw [if_pos ⟨e, by omega⟩, gD_r e, hM, Nat.zero_add]
    · rw [if_neg (fun z => e z.1), hg j (by omega), h4 j (by omega), gD_l (by omega)]
  have fitC : ∀ g : Nat → Int32, sb_Fit g → sb_Fit (va_cpy (fun j => (textB.getD i []).getD j 0) g 0 L.length (textL.getD i 0)) := by
    intro g hg j
    unfold va_cpy
    split
    · exact txt_fit hi (by omega)
    · exact hg j
  by_cases hq : L.length + M.length ≤ cap
  · have e : Gc cap (L.length + M.length) = cap := if_pos hq
    rw [e, Nat.sub_self, Nat.mul_zero]
    refine (j4_appS0 l G h1 h2 i hi hl8 (by omega) (by omega)).mono (fun v f1 hp => ?_)
    obtain ⟨a, b, c, d⟩ := hp
    exact ⟨a, va, ⟨_, by rw [List.length_append, ← hlen]; exact b, c, fitC _ h3, key _ (fun _ _ => rfl)⟩, Or.inl rfl, d⟩
  · have e : Gc cap (L.length + M.length) = 2 * cap + 2 := if_neg hq
    rw [e, show 2 * cap + 2 - cap = cap + 2 by omega]
    refine (j4_appS1 l G h1 h2 i hi hl8 h3 (by omega) hl hc hc2).mono (fun v f1 hp => ?_)
    obtain ⟨a, z, b, c, d, d2⟩ := hp
    exact ⟨a, z, ⟨_, by rw [List.length_append, ← hlen]; exact c, d, fitC _ (sb_fitC h3 sb_fit0), key _ (fun j hj => sb_cpy0 (by omega))⟩, Or.inr b, d2⟩
theorem t_appI (l : Launch) (G : mG) {f : mE} {sb va cap : Nat} {ml : Int32} {L : List Int32} (h : TbP G f sb va cap ml L) (hl : L.length ≤ cap) (hc : 16 ≤ cap) (hc2 : cap ≤ 15000) {x : Int32} {M : List Int32} (hd : isDec x M) (hM10 : M.length ≤ 10) : mC l G yJ4_append_bf812 wsJ4_append_bf812 ({ frames := 5, cells := Gc cap (L.length + M.length) - cap, slots := 2 * (Gc cap (L.length + M.length) - cap), locals := 114 } : Room) f [.ref sb, .int x] (fun v f1 => v = some (va_rf (some sb)) ∧ TbW G f f1 sb va ml (Gc cap (L.length + M.length)) (L ++ M)) (Gc cap (L.length + M.length) - cap) (2 * (Gc cap (L.length + M.length) - cap)) := by
  obtain ⟨by1, h1, h2, h3, h4⟩ := h
  have key : ∀ g : Nat → Int32, (∀ j, j < L.length → g j = by1 j) → (∀ j, j < M.length → g (L.length + j) = M.getD j 0) → ∀ j, j < (L ++ M).length → g j = (L ++ M).getD j 0 := by
    intro g hg hg2 j hj
    rw [List.length_append] at hj
    by_cases e : L.length ≤ j
    · rw [gD_r e, ← hg2 (j - L.length) (by omega), show L.length + (j - L.length) = j by omega]
    · rw [hg j (by omega), h4 j (by omega), gD_l (by omega)]
  by_cases hq : L.length + M.length ≤ cap
  · have e : Gc cap (L.length + M.length) = cap := if_pos hq
    rw [e, Nat.sub_self, Nat.mul_zero]
    refine (j4_appI0 l G h1 h2 hd hM10 h3 hq (by omega)).mono (fun v f1 hp => ?_)
    obtain ⟨a, b, ⟨g1, c, c2, c3, c4⟩, d⟩ := hp
    exact ⟨a, va, ⟨g1, by rw [List.length_append]; exact b, c, c2, key _ c3 c4⟩, Or.inl rfl, d⟩
  · have e : Gc cap (L.length + M.length) = 2 * cap + 2 := if_neg hq
    rw [e, show 2 * cap + 2 - cap = cap + 2 by omega]
    refine (j4_appI1 l G h1 h2 hd hM10 h3 (by omega) hl hc hc2).mono (fun v f1 hp => ?_)
    obtain ⟨a, z, b, b2, ⟨g1, c, c2, c3, c4⟩, d⟩ := hp
    exact ⟨a, z, ⟨g1, by rw [List.length_append]; exact b2, c, c2, key _ c3 c4⟩, Or.inr b, d⟩
/-! the reference's letters are the same -/
theorem eN_at {b dg v e : Nat} (he : e < 8) (h : dg ≤ e + 1) (h2 : v / b ^ e < b) (hno : ∀ j, j < e → j + 1 < dg ∨ b ≤ v / b ^ j) : eN b dg v = e := firN_eq he (qd_yes h h2) (fun j hj => qd_no (hno j hj))
theorem eN_0 {v : Nat} (h : v < 10) : eN 10 1 v = 0 := eN_at (by decide) (by omega) (by omega) (fun j hj => absurd hj (Nat.not_lt_zero j))
theorem eN_1 {dg v : Nat} (hd : dg ≤ 2) (h : v < 100) (h2 : dg = 2 ∨ 10 ≤ v) : eN 10 dg v = 1 := eN_at (by decide) (by omega) (by omega) (fun j hj => by
  have : j = 0 := by omega
  subst this
  rcases h2 with h2 | h2
  · left; omega
  · right; omega)
theorem eN_2 {v : Nat} (h : v < 1000) (h2 : 100 ≤ v) : eN 10 1 v = 2 := eN_at (by decide) (by omega) (by omega) (fun j hj => by
  have : j = 0 ∨ j = 1 := by omega
  rcases this with rfl | rfl <;> right <;> omega)
theorem eN_3 {dg v : Nat} (hd : dg ≤ 4) (h : v < 10000) (h2 : 1000 ≤ v) : eN 10 dg v = 3 := eN_at (by decide) (by omega) (by omega) (fun j hj => by
  have : j = 0 ∨ j = 1 ∨ j = 2 := by omega
  rcases this with rfl | rfl | rfl <;> right <;> omega)
theorem digL4 (v : Nat) : digL 10 48 v 3 4 = [nI (48 + v / 1000 % 10), nI (48 + v / 100 % 10), nI (48 + v / 10 % 10), nI (48 + v % 10)] := by
  simp [digL, List.range_succ]
theorem digL3 (v : Nat) : digL 10 48 v 2 3 = [nI (48 + v / 100 % 10), nI (48 + v / 10 % 10), nI (48 + v % 10)] := by
  simp [digL, List.range_succ]
theorem digL2 (v : Nat) : digL 10 48 v 1 2 = [nI (48 + v / 10 % 10), nI (48 + v % 10)] := by
  simp [digL, List.range_succ]
theorem digL1 (v : Nat) : digL 10 48 v 0 1 = [nI (48 + v % 10)] := by
  simp [digL, List.range_succ]
theorem numL_dec {w : Nat} (h : w ≤ 9999) : numL 10 48 1 w = decL w := by
  unfold numL decL
  by_cases h1 : w < 10
  · rw [eN_0 h1, if_pos (by omega), if_pos h1, digL1]
  · by_cases h2 : w < 100
    · rw [eN_1 (by omega) h2 (by omega), if_pos h2, if_neg h1, digL2, show w / 10 % 10 = w / 10 by omega]
    · by_cases h3 : w < 1000
      · rw [eN_2 h3 (by omega), if_neg h2, if_pos (by omega), digL3, show w / 10 % 10 = w % 100 / 10 by omega, show w % 10 = w % 100 % 10 by omega]
      · rw [eN_3 (by omega) (by omega) (by omega), if_neg h2, if_neg (by omega), digL4, show w / 1000 % 10 = w / 100 / 10 by omega, show w / 10 % 10 = w % 100 / 10 by omega, show w % 10 = w % 100 % 10 by omega]
theorem numL_dec4 {w : Nat} (h : w ≤ 9999) (h2 : 1000 ≤ w) : numL 10 48 4 w = decL w := by
  rw [← numL_dec h]; unfold numL
  rw [eN_3 (by omega) (by omega) h2, eN_3 (by omega) (by omega) h2]
def ddL (k : Nat) : List Int32 := [nI (48 + k / 10), nI (48 + k % 10)]
theorem numL_dd {k : Nat} (h : k < 100) : numL 10 48 2 k = ddL k := by
  unfold numL ddL
  rw [eN_1 (by omega) h (Or.inl rfl), digL2, show k / 10 % 10 = k / 10 by omega]
theorem ddL_1 {k : Nat} (h : k < 10) : [nI 48] ++ decL k = ddL k := by
  unfold decL ddL
  rw [if_pos (by omega), if_pos h, show k / 10 = 0 by omega]; rfl
theorem ddL_2 {k : Nat} (h : k < 100) (h1 : 10 ≤ k) : decL k = ddL k := by
  unfold decL ddL
  rw [if_pos h, if_neg (by omega)]
theorem isDec_nat {w : Nat} (h : w ≤ 9999) : isDec (nI w) (decL w) := Or.inl ⟨w, h, rfl, rfl⟩
theorem decL_10 (w : Nat) : (decL w).length ≤ 4 := by rw [decL_len]; exact (szP_1 w).2
theorem isDec_sgn {x : Int32} (h : inB x (-9999) 9999 = true) : isDec x (sgnL x) := by
  unfold sgnL
  by_cases h0 : 0 ≤ x
  · obtain ⟨e, hb⟩ := abs_nn h h0
    exact (by rw [if_pos h0, numL_dec hb]; exact Or.inl ⟨_, hb, e, rfl⟩)
  · obtain ⟨e, hb⟩ := abs_neg h h0
    rw [if_neg h0, numL_dec hb]
    refine Or.inr ⟨_, ?_, hb, by rw [← e, Int32.neg_neg], rfl⟩
    rcases Nat.eq_zero_or_pos x.toInt.natAbs with z | z
    · exfalso
      apply h0
      rw [Int32.le_iff_toInt_le, Int32.toInt_zero]
      omega
    · exact z
theorem dat_len {k : Nat} (h : 1000 ≤ k / 10000) (h2 : k / 10000 ≤ 9999) : (decL (k / 10000) ++ nI 45 :: (ddL (k / 100 % 100) ++ nI 45 :: ddL (k % 100))).length = 10 := by
  have hdl : (decL (k / 10000)).length = 4 := by rw [decL_len]; unfold szP; (repeat' split) <;> omega
  rw [List.length_append, hdl]; rfl
theorem dat_eq {k : Nat} (h : 1000 ≤ k / 10000) (h2 : k / 10000 ≤ 9999) : datL k = decL (k / 10000) ++ nI 45 :: (ddL (k / 100 % 100) ++ nI 45 :: ddL (k % 100)) := by
  unfold datL
  rw [numL_dec4 h2 h, numL_dd (by omega), numL_dd (by omega)]
theorem voc_txt : ∀ i, i < 26 → numL 27 96 1 (vocN i) = textB.getD i [] := by decide +kernel
set_option maxHeartbeats 4000000 in
set_option maxRecDepth 100000 in
theorem c5_twoDigits (l : Launch) (G : mG) {f : mE} {o q0 ra rd sp rr sb va cap rc : Nat} {ml : Int32} {L : List Int32} (h_o : f o = some (.inr (6, [.ref q0, .ref ra, .int (nI rc), .ref rd, .ref sp, .ref rr, .ref sb]))) (hos : o ≠ sb) (hov : o ≠ va) (h : TbP G f sb va cap ml L) (hlL : L.length ≤ cap) (hc : 16 ≤ cap) (hc2 : cap ≤ 7000) (k : Nat) (hk : k < 100) : mC l G yX5_writeTwoDigits wsX5_writeTwoDigits ({ frames := 6, cells := (Gc cap (L.length + 2) - cap), slots := (2 * (Gc cap (L.length + 2) - cap)), locals := 135 } : Room) f [.ref o, .int (nI k)] (fun v f1 => v = none ∧ TbW G f f1 sb va ml (Gc cap (L.length + 2)) (L ++ ddL k)) (Gc cap (L.length + 2) - cap) (2 * (Gc cap (L.length + 2) - cap)) := by
  refine mC.of (cc := cX5_writeTwoDigits) (maxL := 2) (ret := none) (by decide) rfl (Nat.le_of_ble_eq_true rfl) ?_
  intro pgm env s mt args below meth c A ls hx hb hml hr hlocks hown hname hts hK hE hA hM hl
  have hl : lv_has ls 2 [(0, .ref o), (1, .int (nI k))] := hl
  have hF := fun w9 e (hb : f w9 = some e)  => hb
  have hW := (TbP.start h).cap (cap2 := Gc cap L.length) (if_pos hlL).symm rfl
  have hnL : (L).length = L.length := rfl
  have hG0 : Gc cap L.length = cap := if_pos hlL
  refine W_cast (k2 := Gc cap L.length - cap) (s2 := 2 * (Gc cap L.length - cap)) (by omega) (by omega) ?_
  refine lv_iload_n hx hb dX5_writeTwoDigits_0 rfl (lv_at hl 1 rfl) ?_
  refine lv_bipush (v := (nI 10)) hx hb dX5_writeTwoDigits_1 (by decide +kernel) ?_
  refine ln_icmp_ge k 10 (by omega) (by omega) (tgt := 16) hx hb dX5_writeTwoDigits_3 (by decide) (fun cz1 => ?_) (fun cz1 => ?_)
  · refine lv_aload_n hx hb dX5_writeTwoDigits_16 rfl (lv_at hl 0 rfl) ?_
    refine mm_get (C := RX5) (T := TX5) (N := 7) (k := 6) hx hb hts (fun _ h => List.mem_cons_of_mem _ (List.mem_append_left _ (List.mem_append_right _ h))) hown hK hM (hW.get h_o hos hov) rfl (by decide) (hts (.fieldLink RX5 37 "SentenceRules" "builder" "Ljava/lang/StringBuilder;") (List.mem_of_getElem? (i := 1) rfl)) rfl rfl dX5_writeTwoDigits_17 ?_
    refine lv_iload_n hx hb dX5_writeTwoDigits_20 rfl (lv_at hl 1 rfl) ?_
    obtain ⟨zc, hpc, hzc, hfrc⟩ := hW
    have hgc := Gc_has (cap := cap) (n := L.length) (by omega) hc
    have hge := Gc_ge cap (L.length)
    have hg2 := Gc_two cap (L.length)
    have hdl : (decL k).length = 2 := by rw [decL_len]; unfold szP; (repeat' split) <;> omega
    have hgm := Gc_mono (cap := cap) (show L.length ≤ L.length + (decL k).length by omega)
    have hgf := Gc_mono (cap := cap) (show L.length + (decL k).length ≤ L.length + 2 by omega)
    have hgg : Gc (Gc cap (L.length)) ((L).length + (decL k).length) = Gc cap (L.length + (decL k).length) := by rw [hnL]; exact GcGc (by omega) (by omega) hc
    refine mm_V (As := [.int (nI k)]) (rest := []) ⟨hx, hb, hml, hown, hts⟩ (t_appI l G hpc (by rw [hnL]; omega) (by omega) (by omega) (isDec_nat (by omega)) (Nat.le_trans (decL_10 _) (by decide))) (cwV 1 hts gX5_writeTwoDigits_J4_append_bf812 rfl rfl rfl (by decide +kernel) ⟨(by first | exact Nat.le_of_ble_eq_true rfl | omega | (dsimp only; omega)), (by first | exact Nat.le_of_ble_eq_true rfl | omega | (dsimp only; omega))⟩) hK hE hA hM (mm_recv hK hM hpc.sb (q := (RJ4, TJ4, 4)) rfl) rfl hl.1 rfl (by first | exact Nat.le_of_ble_eq_true rfl | omega | (dsimp only; omega)) dX5_writeTwoDigits_21 ⟨(by first | exact Nat.le_of_ble_eq_true rfl | omega | (dsimp only; omega)), (by first | exact Nat.le_of_ble_eq_true rfl | omega | (dsimp only; omega))⟩ (fun v ff Hp lcs hp hM => ?_)
    obtain ⟨rfl, hw2⟩ := hp
    have hW := (TbW.trans hpc hzc hfrc hw2).cap hgg rfl
    have hnL : ((L) ++ (decL k)).length = L.length + (decL k).length := by rw [List.length_append, hnL] <;> rfl
    refine W_cast (k2 := (Gc cap (L.length + (decL k).length) - cap)) (s2 := (2 * (Gc cap (L.length + (decL k).length) - cap))) (by omega) (by omega) ?_
    refine mv_val (y := .ref sb) rfl ?_
    refine lv_pop hx hb dX5_writeTwoDigits_24 rfl ?_
    exact mm_vret hx hb hlocks hr (by first | exact Nat.le_of_ble_eq_true rfl | omega | (dsimp only; omega)) (by first | exact Nat.le_of_ble_eq_true rfl | omega | (dsimp only; omega)) hM (⟨rfl, hW.cap (congrArg (Gc cap) (by omega)) (by rw [ddL_2 hk cz1])⟩) dX5_writeTwoDigits_25
  refine lv_aload_n hx hb dX5_writeTwoDigits_6 rfl (lv_at hl 0 rfl) ?_
  refine mm_get (C := RX5) (T := TX5) (N := 7) (k := 6) hx hb hts (fun _ h => List.mem_cons_of_mem _ (List.mem_append_left _ (List.mem_append_right _ h))) hown hK hM (hW.get h_o hos hov) rfl (by decide) (hts (.fieldLink RX5 37 "SentenceRules" "builder" "Ljava/lang/StringBuilder;") (List.mem_of_getElem? (i := 1) rfl)) rfl rfl dX5_writeTwoDigits_7 ?_
  refine lv_bipush (v := (nI 48)) hx hb dX5_writeTwoDigits_10 (by decide +kernel) ?_
  obtain ⟨zc, hpc, hzc, hfrc⟩ := hW
  have hgc := Gc_has (cap := cap) (n := L.length) (by omega) hc
  have hge := Gc_ge cap (L.length)
  have hg2 := Gc_two cap (L.length)
  skip
  have hgm := Gc_mono (cap := cap) (show L.length ≤ L.length + 1 by omega)
  have hgf := Gc_mono (cap := cap) (show L.length + 1 ≤ L.length + 2 by omega)
  have hgg : Gc (Gc cap (L.length)) ((L).length + 1) = Gc cap (L.length + 1) := by rw [hnL]; exact GcGc (by omega) (by omega) hc
  refine mm_V (As := [.int (nI 48)]) (rest := []) ⟨hx, hb, hml, hown, hts⟩ (t_appC l G hpc (by rw [hnL]; omega) (by omega) (by omega) 48 (by omega)) (cwV 1 hts gX5_writeTwoDigits_J4_append_cf468 rfl rfl rfl (by decide +kernel) ⟨(by first | exact Nat.le_of_ble_eq_true rfl | omega | (dsimp only; omega)), (by first | exact Nat.le_of_ble_eq_true rfl | omega | (dsimp only; omega))⟩) hK hE hA hM (mm_recv hK hM hpc.sb (q := (RJ4, TJ4, 4)) rfl) rfl hl.1 rfl (by first | exact Nat.le_of_ble_eq_true rfl | omega | (dsimp only; omega)) dX5_writeTwoDigits_12 ⟨(by first | exact Nat.le_of_ble_eq_true rfl | omega | (dsimp only; omega)), (by first | exact Nat.le_of_ble_eq_true rfl | omega | (dsimp only; omega))⟩ (fun v ff Hp lcs hp hM => ?_)
  obtain ⟨rfl, hw2⟩ := hp
  have hW := (TbW.trans hpc hzc hfrc hw2).cap hgg rfl
  have hnL : ((L) ++ [nI 48]).length = L.length + 1 := by rw [List.length_append, hnL] <;> rfl
  refine W_cast (k2 := (Gc cap (L.length + 1) - cap)) (s2 := (2 * (Gc cap (L.length + 1) - cap))) (by omega) (by omega) ?_
  refine mv_val (y := .ref sb) rfl ?_
  refine lv_pop hx hb dX5_writeTwoDigits_15 rfl ?_
  refine lv_aload_n hx hb dX5_writeTwoDigits_16 rfl (lv_at hl 0 rfl) ?_
  refine mm_get (C := RX5) (T := TX5) (N := 7) (k := 6) hx hb hts (fun _ h => List.mem_cons_of_mem _ (List.mem_append_left _ (List.mem_append_right _ h))) hown hK hM (hW.get h_o hos hov) rfl (by decide) (hts (.fieldLink RX5 37 "SentenceRules" "builder" "Ljava/lang/StringBuilder;") (List.mem_of_getElem? (i := 1) rfl)) rfl rfl dX5_writeTwoDigits_17 ?_
  refine lv_iload_n hx hb dX5_writeTwoDigits_20 rfl (lv_at hl 1 rfl) ?_
  obtain ⟨zc, hpc, hzc, hfrc⟩ := hW
  have hgc := Gc_has (cap := cap) (n := L.length + 1) (by omega) hc
  have hge := Gc_ge cap (L.length + 1)
  have hg2 := Gc_two cap (L.length + 1)
  have hdl : (decL k).length = 1 := by rw [decL_len]; unfold szP; (repeat' split) <;> omega
  have hgm := Gc_mono (cap := cap) (show L.length + 1 ≤ L.length + 1 + (decL k).length by omega)
  have hgf := Gc_mono (cap := cap) (show L.length + 1 + (decL k).length ≤ L.length + 2 by omega)
  have hgg : Gc (Gc cap (L.length + 1)) (((L) ++ [nI 48]).length + (decL k).length) = Gc cap (L.length + 1 + (decL k).length) := by rw [hnL]; exact GcGc (by omega) (by omega) hc
  refine mm_V (As := [.int (nI k)]) (rest := []) ⟨hx, hb, hml, hown, hts⟩ (t_appI l G hpc (by rw [hnL]; omega) (by omega) (by omega) (isDec_nat (by omega)) (Nat.le_trans (decL_10 _) (by decide))) (cwV 1 hts gX5_writeTwoDigits_J4_append_bf812 rfl rfl rfl (by decide +kernel) ⟨(by first | exact Nat.le_of_ble_eq_true rfl | omega | (dsimp only; omega)), (by first | exact Nat.le_of_ble_eq_true rfl | omega | (dsimp only; omega))⟩) hK hE hA hM (mm_recv hK hM hpc.sb (q := (RJ4, TJ4, 4)) rfl) rfl hl.1 rfl (by first | exact Nat.le_of_ble_eq_true rfl | omega | (dsimp only; omega)) dX5_writeTwoDigits_21 ⟨(by first | exact Nat.le_of_ble_eq_true rfl | omega | (dsimp only; omega)), (by first | exact Nat.le_of_ble_eq_true rfl | omega | (dsimp only; omega))⟩ (fun v ff Hp lcs hp hM => ?_)
  obtain ⟨rfl, hw2⟩ := hp
  have hW := (TbW.trans hpc hzc hfrc hw2).cap hgg rfl
  have hnL : (((L) ++ [nI 48]) ++ (decL k)).length = L.length + 1 + (decL k).length := by rw [List.length_append, hnL] <;> rfl
  refine W_cast (k2 := (Gc cap (L.length + 1 + (decL k).length) - cap)) (s2 := (2 * (Gc cap (L.length + 1 + (decL k).length) - cap))) (by omega) (by omega) ?_
  refine mv_val (y := .ref sb) rfl ?_
  refine lv_pop hx hb dX5_writeTwoDigits_24 rfl ?_
  exact mm_vret hx hb hlocks hr (by first | exact Nat.le_of_ble_eq_true rfl | omega | (dsimp only; omega)) (by first | exact Nat.le_of_ble_eq_true rfl | omega | (dsimp only; omega)) hM (⟨rfl, hW.cap (congrArg (Gc cap) (by omega)) (by rw [List.append_assoc, ddL_1 cz1])⟩) dX5_writeTwoDigits_25
set_option maxHeartbeats 4000000 in
set_option maxRecDepth 100000 in
theorem c5_writeDate (l : Launch) (G : mG) {f : mE} {o q0 ra rd sp rr sb va cap rc : Nat} {ml : Int32} {L : List Int32} (h_o : f o = some (.inr (6, [.ref q0, .ref ra, .int (nI rc), .ref rd, .ref sp, .ref rr, .ref sb]))) (hos : o ≠ sb) (hov : o ≠ va) (h : TbP G f sb va cap ml L) (hlL : L.length ≤ cap) (hc : 16 ≤ cap) (hc2 : cap ≤ 3000) (k : Nat) (hk1 : 1000 ≤ k / 10000) (hk2 : k / 10000 ≤ 9999) : mC l G yX5_writeDate wsX5_writeDate ({ frames := 7, cells := (Gc cap (L.length + 10) - cap), slots := (2 * (Gc cap (L.length + 10) - cap)), locals := 156 } : Room) f [.ref o, .int (nI k)] (fun v f1 => v = none ∧ TbW G f f1 sb va ml (Gc cap (L.length + 10)) (L ++ (decL (k / 10000) ++ nI 45 :: (ddL (k / 100 % 100) ++ nI 45 :: ddL (k % 100))))) (Gc cap (L.length + 10) - cap) (2 * (Gc cap (L.length + 10) - cap)) := by
  refine mC.of (cc := cX5_writeDate) (maxL := 2) (ret := none) (by decide) rfl (Nat.le_of_ble_eq_true rfl) ?_
  intro pgm env s mt args below meth c A ls hx hb hml hr hlocks hown hname hts hK hE hA hM hl
  have hl : lv_has ls 2 [(0, .ref o), (1, .int (nI k))] := hl
  have hF := fun w9 e (hb : f w9 = some e)  => hb
  have hW := (TbP.start h).cap (cap2 := Gc cap L.length) (if_pos hlL).symm rfl
  have hnL : (L).length = L.length := rfl
  have hG0 : Gc cap L.length = cap := if_pos hlL
  refine W_cast (k2 := Gc cap L.length - cap) (s2 := 2 * (Gc cap L.length - cap)) (by omega) (by omega) ?_
  refine lv_aload_n hx hb dX5_writeDate_0 rfl (lv_at hl 0 rfl) ?_
  refine mm_get (C := RX5) (T := TX5) (N := 7) (k := 6) hx hb hts (fun _ h => List.mem_cons_of_mem _ (List.mem_append_left _ (List.mem_append_right _ h))) hown hK hM (hW.get h_o hos hov) rfl (by decide) (hts (.fieldLink RX5 37 "SentenceRules" "builder" "Ljava/lang/StringBuilder;") (List.mem_of_getElem? (i := 1) rfl)) rfl rfl dX5_writeDate_1 ?_
  refine lv_iload_n hx hb dX5_writeDate_4 rfl (lv_at hl 1 rfl) ?_
  refine lv_sipush (v := (nI 10000)) hx hb dX5_writeDate_5 (by decide +kernel) ?_
  refine ln_idiv k 10000 (by omega) (by omega) (by omega) hx hb dX5_writeDate_8 ?_
  obtain ⟨zc, hpc, hzc, hfrc⟩ := hW
  have hgc := Gc_has (cap := cap) (n := L.length) (by omega) hc
  have hge := Gc_ge cap (L.length)
  have hg2 := Gc_two cap (L.length)
  have hdl : (decL (k / 10000)).length = 4 := by rw [decL_len]; unfold szP; (repeat' split) <;> omega
  have hgm := Gc_mono (cap := cap) (show L.length ≤ L.length + (decL (k / 10000)).length by omega)
  have hgf := Gc_mono (cap := cap) (show L.length + (decL (k / 10000)).length ≤ L.length + 10 by omega)
  have hgg : Gc (Gc cap (L.length)) ((L).length + (decL (k / 10000)).length) = Gc cap (L.length + (decL (k / 10000)).length) := by rw [hnL]; exact GcGc (by omega) (by omega) hc
  refine mm_V (As := [.int (nI (k / 10000))]) (rest := []) ⟨hx, hb, hml, hown, hts⟩ (t_appI l G hpc (by rw [hnL]; omega) (by omega) (by omega) (isDec_nat (by omega)) (Nat.le_trans (decL_10 _) (by decide))) (cwV 1 hts gX5_writeDate_J4_append_bf812 rfl rfl rfl (by decide +kernel) ⟨(by first | exact Nat.le_of_ble_eq_true rfl | omega | (dsimp only; omega)), (by first | exact Nat.le_of_ble_eq_true rfl | omega | (dsimp only; omega))⟩) hK hE hA hM (mm_recv hK hM hpc.sb (q := (RJ4, TJ4, 4)) rfl) rfl hl.1 rfl (by first | exact Nat.le_of_ble_eq_true rfl | omega | (dsimp only; omega)) dX5_writeDate_9 ⟨(by first | exact Nat.le_of_ble_eq_true rfl | omega | (dsimp only; omega)), (by first | exact Nat.le_of_ble_eq_true rfl | omega | (dsimp only; omega))⟩ (fun v ff Hp lcs hp hM => ?_)
  obtain ⟨rfl, hw2⟩ := hp
  have hW := (TbW.trans hpc hzc hfrc hw2).cap hgg rfl
  have hnL : ((L) ++ (decL (k / 10000))).length = L.length + (decL (k / 10000)).length := by rw [List.length_append, hnL] <;> rfl
  refine W_cast (k2 := (Gc cap (L.length + (decL (k / 10000)).length) - cap)) (s2 := (2 * (Gc cap (L.length + (decL (k / 10000)).length) - cap))) (by omega) (by omega) ?_
  refine mv_val (y := .ref sb) rfl ?_
  refine lv_bipush (v := (nI 45)) hx hb dX5_writeDate_12 (by decide +kernel) ?_
  obtain ⟨zc, hpc, hzc, hfrc⟩ := hW
  have hgc := Gc_has (cap := cap) (n := L.length + (decL (k / 10000)).length) (by omega) hc
  have hge := Gc_ge cap (L.length + (decL (k / 10000)).length)
  have hg2 := Gc_two cap (L.length + (decL (k / 10000)).length)
  skip
  have hgm := Gc_mono (cap := cap) (show L.length + (decL (k / 10000)).length ≤ L.length + (decL (k / 10000)).length + 1 by omega)
  have hgf := Gc_mono (cap := cap) (show L.length + (decL (k / 10000)).length + 1 ≤ L.length + 10 by omega)
  have hgg : Gc (Gc cap (L.length + (decL (k / 10000)).length)) (((L) ++ (decL (k / 10000))).length + 1) = Gc cap (L.length + (decL (k / 10000)).length + 1) := by rw [hnL]; exact GcGc (by omega) (by omega) hc
  refine mm_V (As := [.int (nI 45)]) (rest := []) ⟨hx, hb, hml, hown, hts⟩ (t_appC l G hpc (by rw [hnL]; omega) (by omega) (by omega) 45 (by omega)) (cwV 1 hts gX5_writeDate_J4_append_cf468 rfl rfl rfl (by decide +kernel) ⟨(by first | exact Nat.le_of_ble_eq_true rfl | omega | (dsimp only; omega)), (by first | exact Nat.le_of_ble_eq_true rfl | omega | (dsimp only; omega))⟩) hK hE hA hM (mm_recv hK hM hpc.sb (q := (RJ4, TJ4, 4)) rfl) rfl hl.1 rfl (by first | exact Nat.le_of_ble_eq_true rfl | omega | (dsimp only; omega)) dX5_writeDate_14 ⟨(by first | exact Nat.le_of_ble_eq_true rfl | omega | (dsimp only; omega)), (by first | exact Nat.le_of_ble_eq_true rfl | omega | (dsimp only; omega))⟩ (fun v ff Hp lcs hp hM => ?_)
  obtain ⟨rfl, hw2⟩ := hp
  have hW := (TbW.trans hpc hzc hfrc hw2).cap hgg rfl
  have hnL : (((L) ++ (decL (k / 10000))) ++ [nI 45]).length = L.length + (decL (k / 10000)).length + 1 := by rw [List.length_append, hnL] <;> rfl
  refine W_cast (k2 := (Gc cap (L.length + (decL (k / 10000)).length + 1) - cap)) (s2 := (2 * (Gc cap (L.length + (decL (k / 10000)).length + 1) - cap))) (by omega) (by omega) ?_
  refine mv_val (y := .ref sb) rfl ?_
  refine lv_pop hx hb dX5_writeDate_17 rfl ?_
  refine lv_aload_n hx hb dX5_writeDate_18 rfl (lv_at hl 0 rfl) ?_
  refine lv_iload_n hx hb dX5_writeDate_19 rfl (lv_at hl 1 rfl) ?_
  refine lv_bipush (v := (nI 100)) hx hb dX5_writeDate_20 (by decide +kernel) ?_
  refine ln_idiv k 100 (by omega) (by omega) (by omega) hx hb dX5_writeDate_22 ?_
  refine lv_bipush (v := (nI 100)) hx hb dX5_writeDate_23 (by decide +kernel) ?_
  refine ln_irem (k / 100) 100 (by omega) (by omega) (by omega) hx hb dX5_writeDate_25 ?_
  obtain ⟨zc, hpc, hzc, hfrc⟩ := hW
  have hgc := Gc_has (cap := cap) (n := L.length + (decL (k / 10000)).length + 1) (by omega) hc
  have hge := Gc_ge cap (L.length + (decL (k / 10000)).length + 1)
  have hg2 := Gc_two cap (L.length + (decL (k / 10000)).length + 1)
  skip
  have hgm := Gc_mono (cap := cap) (show L.length + (decL (k / 10000)).length + 1 ≤ L.length + (decL (k / 10000)).length + 1 + 2 by omega)
  have hgf := Gc_mono (cap := cap) (show L.length + (decL (k / 10000)).length + 1 + 2 ≤ L.length + 10 by omega)
  have hgg : Gc (Gc cap (L.length + (decL (k / 10000)).length + 1)) ((((L) ++ (decL (k / 10000))) ++ [nI 45]).length + 2) = Gc cap (L.length + (decL (k / 10000)).length + 1 + 2) := by rw [hnL]; exact GcGc (by omega) (by omega) hc
  refine mm_V (As := [.int (nI ((k / 100) % 100))]) (rest := []) ⟨hx, hb, hml, hown, hts⟩ (c5_twoDigits l G (hfrc o _ h_o hos hov) hos (apart_z hov hzc h_o) hpc (by rw [hnL]; omega) (by omega) (by omega) ((k / 100) % 100) (by omega)) (cwV 1 hts gX5_writeDate_X5_writeTwoDigits rfl rfl rfl (by decide +kernel) ⟨(by first | exact Nat.le_of_ble_eq_true rfl | omega | (dsimp only; omega)), (by first | exact Nat.le_of_ble_eq_true rfl | omega | (dsimp only; omega))⟩) hK hE hA hM (mm_recv hK hM (hfrc o _ h_o hos hov) (q := (RX5, TX5, 7)) rfl) rfl hl.1 rfl (by first | exact Nat.le_of_ble_eq_true rfl | omega | (dsimp only; omega)) dX5_writeDate_26 ⟨(by first | exact Nat.le_of_ble_eq_true rfl | omega | (dsimp only; omega)), (by first | exact Nat.le_of_ble_eq_true rfl | omega | (dsimp only; omega))⟩ (fun v ff Hp lcs hp hM => ?_)
  obtain ⟨rfl, hw2⟩ := hp
  have hW := (TbW.trans hpc hzc hfrc hw2).cap hgg rfl
  have hnL : ((((L) ++ (decL (k / 10000))) ++ [nI 45]) ++ (ddL ((k / 100) % 100))).length = L.length + (decL (k / 10000)).length + 1 + 2 := by rw [List.length_append, hnL] <;> rfl
  refine W_cast (k2 := (Gc cap (L.length + (decL (k / 10000)).length + 1 + 2) - cap)) (s2 := (2 * (Gc cap (L.length + (decL (k / 10000)).length + 1 + 2) - cap))) (by omega) (by omega) ?_
  refine lv_aload_n hx hb dX5_writeDate_29 rfl (lv_at hl 0 rfl) ?_
  refine mm_get (C := RX5) (T := TX5) (N := 7) (k := 6) hx hb hts (fun _ h => List.mem_cons_of_mem _ (List.mem_append_left _ (List.mem_append_right _ h))) hown hK hM (hW.get h_o hos hov) rfl (by decide) (hts (.fieldLink RX5 37 "SentenceRules" "builder" "Ljava/lang/StringBuilder;") (List.mem_of_getElem? (i := 1) rfl)) rfl rfl dX5_writeDate_30 ?_
  refine lv_bipush (v := (nI 45)) hx hb dX5_writeDate_33 (by decide +kernel) ?_
  obtain ⟨zc, hpc, hzc, hfrc⟩ := hW
  have hgc := Gc_has (cap := cap) (n := L.length + (decL (k / 10000)).length + 1 + 2) (by omega) hc
  have hge := Gc_ge cap (L.length + (decL (k / 10000)).length + 1 + 2)
  have hg2 := Gc_two cap (L.length + (decL (k / 10000)).length + 1 + 2)
  skip
  have hgm := Gc_mono (cap := cap) (show L.length + (decL (k / 10000)).length + 1 + 2 ≤ L.length + (decL (k / 10000)).length + 1 + 2 + 1 by omega)
  have hgf := Gc_mono (cap := cap) (show L.length + (decL (k / 10000)).length + 1 + 2 + 1 ≤ L.length + 10 by omega)
  have hgg : Gc (Gc cap (L.length + (decL (k / 10000)).length + 1 + 2)) (((((L) ++ (decL (k / 10000))) ++ [nI 45]) ++ (ddL ((k / 100) % 100))).length + 1) = Gc cap (L.length + (decL (k / 10000)).length + 1 + 2 + 1) := by rw [hnL]; exact GcGc (by omega) (by omega) hc
  refine mm_V (As := [.int (nI 45)]) (rest := []) ⟨hx, hb, hml, hown, hts⟩ (t_appC l G hpc (by rw [hnL]; omega) (by omega) (by omega) 45 (by omega)) (cwV 1 hts gX5_writeDate_J4_append_cf468 rfl rfl rfl (by decide +kernel) ⟨(by first | exact Nat.le_of_ble_eq_true rfl | omega | (dsimp only; omega)), (by first | exact Nat.le_of_ble_eq_true rfl | omega | (dsimp only; omega))⟩) hK hE hA hM (mm_recv hK hM hpc.sb (q := (RJ4, TJ4, 4)) rfl) rfl hl.1 rfl (by first | exact Nat.le_of_ble_eq_true rfl | omega | (dsimp only; omega)) dX5_writeDate_35 ⟨(by first | exact Nat.le_of_ble_eq_true rfl | omega | (dsimp only; omega)), (by first | exact Nat.le_of_ble_eq_true rfl | omega | (dsimp only; omega))⟩ (fun v ff Hp lcs hp hM => ?_)
  obtain ⟨rfl, hw2⟩ := hp
  have hW := (TbW.trans hpc hzc hfrc hw2).cap hgg rfl
  have hnL : (((((L) ++ (decL (k / 10000))) ++ [nI 45]) ++ (ddL ((k / 100) % 100))) ++ [nI 45]).length = L.length + (decL (k / 10000)).length + 1 + 2 + 1 := by rw [List.length_append, hnL] <;> rfl
  refine W_cast (k2 := (Gc cap (L.length + (decL (k / 10000)).length + 1 + 2 + 1) - cap)) (s2 := (2 * (Gc cap (L.length + (decL (k / 10000)).length + 1 + 2 + 1) - cap))) (by omega) (by omega) ?_
  refine mv_val (y := .ref sb) rfl ?_
  refine lv_pop hx hb dX5_writeDate_38 rfl ?_
  refine lv_aload_n hx hb dX5_writeDate_39 rfl (lv_at hl 0 rfl) ?_
  refine lv_iload_n hx hb dX5_writeDate_40 rfl (lv_at hl 1 rfl) ?_
  refine lv_bipush (v := (nI 100)) hx hb dX5_writeDate_41 (by decide +kernel) ?_
  refine ln_irem k 100 (by omega) (by omega) (by omega) hx hb dX5_writeDate_43 ?_
  obtain ⟨zc, hpc, hzc, hfrc⟩ := hW
  have hgc := Gc_has (cap := cap) (n := L.length + (decL (k / 10000)).length + 1 + 2 + 1) (by omega) hc
  have hge := Gc_ge cap (L.length + (decL (k / 10000)).length + 1 + 2 + 1)
  have hg2 := Gc_two cap (L.length + (decL (k / 10000)).length + 1 + 2 + 1)
  skip
  have hgm := Gc_mono (cap := cap) (show L.length + (decL (k / 10000)).length + 1 + 2 + 1 ≤ L.length + (decL (k / 10000)).length + 1 + 2 + 1 + 2 by omega)
  have hgf := Gc_mono (cap := cap) (show L.length + (decL (k / 10000)).length + 1 + 2 + 1 + 2 ≤ L.length + 10 by omega)
  have hgg : Gc (Gc cap (L.length + (decL (k / 10000)).length + 1 + 2 + 1)) ((((((L) ++ (decL (k / 10000))) ++ [nI 45]) ++ (ddL ((k / 100) % 100))) ++ [nI 45]).length + 2) = Gc cap (L.length + (decL (k / 10000)).length + 1 + 2 + 1 + 2) := by rw [hnL]; exact GcGc (by omega) (by omega) hc
  refine mm_V (As := [.int (nI (k % 100))]) (rest := []) ⟨hx, hb, hml, hown, hts⟩ (c5_twoDigits l G (hfrc o _ h_o hos hov) hos (apart_z hov hzc h_o) hpc (by rw [hnL]; omega) (by omega) (by omega) (k % 100) (by omega)) (cwV 1 hts gX5_writeDate_X5_writeTwoDigits rfl rfl rfl (by decide +kernel) ⟨(by first | exact Nat.le_of_ble_eq_true rfl | omega | (dsimp only; omega)), (by first | exact Nat.le_of_ble_eq_true rfl | omega | (dsimp only; omega))⟩) hK hE hA hM (mm_recv hK hM (hfrc o _ h_o hos hov) (q := (RX5, TX5, 7)) rfl) rfl hl.1 rfl (by first | exact Nat.le_of_ble_eq_true rfl | omega | (dsimp only; omega)) dX5_writeDate_44 ⟨(by first | exact Nat.le_of_ble_eq_true rfl | omega | (dsimp only; omega)), (by first | exact Nat.le_of_ble_eq_true rfl | omega | (dsimp only; omega))⟩ (fun v ff Hp lcs hp hM => ?_)
  obtain ⟨rfl, hw2⟩ := hp
  have hW := (TbW.trans hpc hzc hfrc hw2).cap hgg rfl
  have hnL : ((((((L) ++ (decL (k / 10000))) ++ [nI 45]) ++ (ddL ((k / 100) % 100))) ++ [nI 45]) ++ (ddL (k % 100))).length = L.length + (decL (k / 10000)).length + 1 + 2 + 1 + 2 := by rw [List.length_append, hnL] <;> rfl
  refine W_cast (k2 := (Gc cap (L.length + (decL (k / 10000)).length + 1 + 2 + 1 + 2) - cap)) (s2 := (2 * (Gc cap (L.length + (decL (k / 10000)).length + 1 + 2 + 1 + 2) - cap))) (by omega) (by omega) ?_
  exact mm_vret hx hb hlocks hr (by first | exact Nat.le_of_ble_eq_true rfl | omega | (dsimp only; omega)) (by first | exact Nat.le_of_ble_eq_true rfl | omega | (dsimp only; omega)) hM (⟨rfl, hW.cap (congrArg (Gc cap) (by omega)) (by simp)⟩) dX5_writeDate_47
set_option maxHeartbeats 4000000 in
set_option maxRecDepth 100000 in
theorem c5_spelling (l : Launch) (G : mG) (f : mE) (x : Nat) (hx6 : x < 26) : mC l G yX5_spelling wsX5_spelling ({ frames := 0, cells := 0, slots := 0, locals := 0 } : Room) f [.int (nI x)] (fun v f1 => v = some (va_rf (some (G.2.2 (10 + x)))) ∧ f = f1) 0 0 := by
  refine mC.of (cc := cX5_spelling) (maxL := 1) (ret := (some (.object "java/lang/String"))) (by decide) rfl (Nat.le_of_ble_eq_true rfl) ?_
  intro pgm env s mt args below meth c A ls hx hb hml hr hlocks hown hname hts hK hE hA hM hl
  have hl : lv_has ls 1 [(0, .int (nI x))] := hl
  have hF := fun w9 e (hb : f w9 = some e)  => hb
  refine lv_iload_n hx hb dX5_spelling_0 rfl (lv_at hl 0 rfl) ?_
  by_cases cz1 : x = 0
  · refine lv_tableIn (tgt := 120) hx hb dX5_spelling_1 (by rw [nI_toInt (by omega)]; omega) (by rw [nI_toInt (by omega)]; omega) (by rw [cz1]; rfl) (by decide) ?_
    refine va_ldcS (q := G.2.2 (10 + 0)) hx hb hown (hE.1.2.1 0 (by decide)) dX5_spelling_120 ?_
    exact mm_aret (r := (some (G.2.2 (10 + 0)))) hx hb hlocks hr (by first | exact Or.inl ⟨_, rfl⟩ | exact Or.inr ⟨_, rfl⟩) (by first | exact Nat.le_of_ble_eq_true rfl | omega | (dsimp only; omega)) (by first | exact Nat.le_of_ble_eq_true rfl | omega | (dsimp only; omega)) hM (⟨by rw [cz1], rfl⟩) dX5_spelling_122
  by_cases cz2 : x = 1
  · refine lv_tableIn (tgt := 123) hx hb dX5_spelling_1 (by rw [nI_toInt (by omega)]; omega) (by rw [nI_toInt (by omega)]; omega) (by rw [cz2]; rfl) (by decide) ?_
    refine va_ldcS (q := G.2.2 (10 + 1)) hx hb hown (hE.1.2.1 1 (by decide)) dX5_spelling_123 ?_
    exact mm_aret (r := (some (G.2.2 (10 + 1)))) hx hb hlocks hr (by first | exact Or.inl ⟨_, rfl⟩ | exact Or.inr ⟨_, rfl⟩) (by first | exact Nat.le_of_ble_eq_true rfl | omega | (dsimp only; omega)) (by first | exact Nat.le_of_ble_eq_true rfl | omega | (dsimp only; omega)) hM (⟨by rw [cz2], rfl⟩) dX5_spelling_125
  by_cases cz3 : x = 2
  · refine lv_tableIn (tgt := 126) hx hb dX5_spelling_1 (by rw [nI_toInt (by omega)]; omega) (by rw [nI_toInt (by omega)]; omega) (by rw [cz3]; rfl) (by decide) ?_
    refine va_ldcS (q := G.2.2 (10 + 2)) hx hb hown (hE.1.2.1 2 (by decide)) dX5_spelling_126 ?_
    exact mm_aret (r := (some (G.2.2 (10 + 2)))) hx hb hlocks hr (by first | exact Or.inl ⟨_, rfl⟩ | exact Or.inr ⟨_, rfl⟩) (by first | exact Nat.le_of_ble_eq_true rfl | omega | (dsimp only; omega)) (by first | exact Nat.le_of_ble_eq_true rfl | omega | (dsimp only; omega)) hM (⟨by rw [cz3], rfl⟩) dX5_spelling_128
  by_cases cz4 : x = 3
  · refine lv_tableIn (tgt := 129) hx hb dX5_spelling_1 (by rw [nI_toInt (by omega)]; omega) (by rw [nI_toInt (by omega)]; omega) (by rw [cz4]; rfl) (by decide) ?_
    refine va_ldcS (q := G.2.2 (10 + 3)) hx hb hown (hE.1.2.1 3 (by decide)) dX5_spelling_129 ?_
    exact mm_aret (r := (some (G.2.2 (10 + 3)))) hx hb hlocks hr (by first | exact Or.inl ⟨_, rfl⟩ | exact Or.inr ⟨_, rfl⟩) (by first | exact Nat.le_of_ble_eq_true rfl | omega | (dsimp only; omega)) (by first | exact Nat.le_of_ble_eq_true rfl | omega | (dsimp only; omega)) hM (⟨by rw [cz4], rfl⟩) dX5_spelling_131
  by_cases cz5 : x = 4
  · refine lv_tableIn (tgt := 132) hx hb dX5_spelling_1 (by rw [nI_toInt (by omega)]; omega) (by rw [nI_toInt (by omega)]; omega) (by rw [cz5]; rfl) (by decide) ?_
    refine va_ldcS (q := G.2.2 (10 + 4)) hx hb hown (hE.1.2.1 4 (by decide)) dX5_spelling_132 ?_
    exact mm_aret (r := (some (G.2.2 (10 + 4)))) hx hb hlocks hr (by first | exact Or.inl ⟨_, rfl⟩ | exact Or.inr ⟨_, rfl⟩) (by first | exact Nat.le_of_ble_eq_true rfl | omega | (dsimp only; omega)) (by first | exact Nat.le_of_ble_eq_true rfl | omega | (dsimp only; omega)) hM (⟨by rw [cz5], rfl⟩) dX5_spelling_134
  by_cases cz6 : x = 5
  · refine lv_tableIn (tgt := 135) hx hb dX5_spelling_1 (by rw [nI_toInt (by omega)]; omega) (by rw [nI_toInt (by omega)]; omega) (by rw [cz6]; rfl) (by decide) ?_
    refine va_ldcS (q := G.2.2 (10 + 5)) hx hb hown (hE.1.2.1 5 (by decide)) dX5_spelling_135 ?_
    exact mm_aret (r := (some (G.2.2 (10 + 5)))) hx hb hlocks hr (by first | exact Or.inl ⟨_, rfl⟩ | exact Or.inr ⟨_, rfl⟩) (by first | exact Nat.le_of_ble_eq_true rfl | omega | (dsimp only; omega)) (by first | exact Nat.le_of_ble_eq_true rfl | omega | (dsimp only; omega)) hM (⟨by rw [cz6], rfl⟩) dX5_spelling_137
  by_cases cz7 : x = 6
  · refine lv_tableIn (tgt := 138) hx hb dX5_spelling_1 (by rw [nI_toInt (by omega)]; omega) (by rw [nI_toInt (by omega)]; omega) (by rw [cz7]; rfl) (by decide) ?_
    refine va_ldcS (q := G.2.2 (10 + 6)) hx hb hown (hE.1.2.1 6 (by decide)) dX5_spelling_138 ?_
    exact mm_aret (r := (some (G.2.2 (10 + 6)))) hx hb hlocks hr (by first | exact Or.inl ⟨_, rfl⟩ | exact Or.inr ⟨_, rfl⟩) (by first | exact Nat.le_of_ble_eq_true rfl | omega | (dsimp only; omega)) (by first | exact Nat.le_of_ble_eq_true rfl | omega | (dsimp only; omega)) hM (⟨by rw [cz7], rfl⟩) dX5_spelling_140
  by_cases cz8 : x = 7
  · refine lv_tableIn (tgt := 141) hx hb dX5_spelling_1 (by rw [nI_toInt (by omega)]; omega) (by rw [nI_toInt (by omega)]; omega) (by rw [cz8]; rfl) (by decide) ?_
    refine va_ldcS (q := G.2.2 (10 + 7)) hx hb hown (hE.1.2.1 7 (by decide)) dX5_spelling_141 ?_
    exact mm_aret (r := (some (G.2.2 (10 + 7)))) hx hb hlocks hr (by first | exact Or.inl ⟨_, rfl⟩ | exact Or.inr ⟨_, rfl⟩) (by first | exact Nat.le_of_ble_eq_true rfl | omega | (dsimp only; omega)) (by first | exact Nat.le_of_ble_eq_true rfl | omega | (dsimp only; omega)) hM (⟨by rw [cz8], rfl⟩) dX5_spelling_143
  by_cases cz9 : x = 8
  · refine lv_tableIn (tgt := 144) hx hb dX5_spelling_1 (by rw [nI_toInt (by omega)]; omega) (by rw [nI_toInt (by omega)]; omega) (by rw [cz9]; rfl) (by decide) ?_
    refine va_ldcwS (q := G.2.2 (10 + 8)) hx hb hown (hE.1.2.1 8 (by decide)) dX5_spelling_144 ?_
    exact mm_aret (r := (some (G.2.2 (10 + 8)))) hx hb hlocks hr (by first | exact Or.inl ⟨_, rfl⟩ | exact Or.inr ⟨_, rfl⟩) (by first | exact Nat.le_of_ble_eq_true rfl | omega | (dsimp only; omega)) (by first | exact Nat.le_of_ble_eq_true rfl | omega | (dsimp only; omega)) hM (⟨by rw [cz9], rfl⟩) dX5_spelling_147
  by_cases cz10 : x = 9
  · refine lv_tableIn (tgt := 148) hx hb dX5_spelling_1 (by rw [nI_toInt (by omega)]; omega) (by rw [nI_toInt (by omega)]; omega) (by rw [cz10]; rfl) (by decide) ?_
    refine va_ldcwS (q := G.2.2 (10 + 9)) hx hb hown (hE.1.2.1 9 (by decide)) dX5_spelling_148 ?_
    exact mm_aret (r := (some (G.2.2 (10 + 9)))) hx hb hlocks hr (by first | exact Or.inl ⟨_, rfl⟩ | exact Or.inr ⟨_, rfl⟩) (by first | exact Nat.le_of_ble_eq_true rfl | omega | (dsimp only; omega)) (by first | exact Nat.le_of_ble_eq_true rfl | omega | (dsimp only; omega)) hM (⟨by rw [cz10], rfl⟩) dX5_spelling_151
  by_cases cz11 : x = 10
  · refine lv_tableIn (tgt := 152) hx hb dX5_spelling_1 (by rw [nI_toInt (by omega)]; omega) (by rw [nI_toInt (by omega)]; omega) (by rw [cz11]; rfl) (by decide) ?_
    refine va_ldcwS (q := G.2.2 (10 + 10)) hx hb hown (hE.1.2.1 10 (by decide)) dX5_spelling_152 ?_
    exact mm_aret (r := (some (G.2.2 (10 + 10)))) hx hb hlocks hr (by first | exact Or.inl ⟨_, rfl⟩ | exact Or.inr ⟨_, rfl⟩) (by first | exact Nat.le_of_ble_eq_true rfl | omega | (dsimp only; omega)) (by first | exact Nat.le_of_ble_eq_true rfl | omega | (dsimp only; omega)) hM (⟨by rw [cz11], rfl⟩) dX5_spelling_155
  by_cases cz12 : x = 11
  · refine lv_tableIn (tgt := 156) hx hb dX5_spelling_1 (by rw [nI_toInt (by omega)]; omega) (by rw [nI_toInt (by omega)]; omega) (by rw [cz12]; rfl) (by decide) ?_
    refine va_ldcwS (q := G.2.2 (10 + 11)) hx hb hown (hE.1.2.1 11 (by decide)) dX5_spelling_156 ?_
    exact mm_aret (r := (some (G.2.2 (10 + 11)))) hx hb hlocks hr (by first | exact Or.inl ⟨_, rfl⟩ | exact Or.inr ⟨_, rfl⟩) (by first | exact Nat.le_of_ble_eq_true rfl | omega | (dsimp only; omega)) (by first | exact Nat.le_of_ble_eq_true rfl | omega | (dsimp only; omega)) hM (⟨by rw [cz12], rfl⟩) dX5_spelling_159
  by_cases cz13 : x = 12
  · refine lv_tableIn (tgt := 160) hx hb dX5_spelling_1 (by rw [nI_toInt (by omega)]; omega) (by rw [nI_toInt (by omega)]; omega) (by rw [cz13]; rfl) (by decide) ?_
    refine va_ldcwS (q := G.2.2 (10 + 12)) hx hb hown (hE.1.2.1 12 (by decide)) dX5_spelling_160 ?_
    exact mm_aret (r := (some (G.2.2 (10 + 12)))) hx hb hlocks hr (by first | exact Or.inl ⟨_, rfl⟩ | exact Or.inr ⟨_, rfl⟩) (by first | exact Nat.le_of_ble_eq_true rfl | omega | (dsimp only; omega)) (by first | exact Nat.le_of_ble_eq_true rfl | omega | (dsimp only; omega)) hM (⟨by rw [cz13], rfl⟩) dX5_spelling_163
  by_cases cz14 : x = 13
  · refine lv_tableIn (tgt := 164) hx hb dX5_spelling_1 (by rw [nI_toInt (by omega)]; omega) (by rw [nI_toInt (by omega)]; omega) (by rw [cz14]; rfl) (by decide) ?_
    refine va_ldcwS (q := G.2.2 (10 + 13)) hx hb hown (hE.1.2.1 13 (by decide)) dX5_spelling_164 ?_
    exact mm_aret (r := (some (G.2.2 (10 + 13)))) hx hb hlocks hr (by first | exact Or.inl ⟨_, rfl⟩ | exact Or.inr ⟨_, rfl⟩) (by first | exact Nat.le_of_ble_eq_true rfl | omega | (dsimp only; omega)) (by first | exact Nat.le_of_ble_eq_true rfl | omega | (dsimp only; omega)) hM (⟨by rw [cz14], rfl⟩) dX5_spelling_167
  by_cases cz15 : x = 14
  · refine lv_tableIn (tgt := 168) hx hb dX5_spelling_1 (by rw [nI_toInt (by omega)]; omega) (by rw [nI_toInt (by omega)]; omega) (by rw [cz15]; rfl) (by decide) ?_
    refine va_ldcwS (q := G.2.2 (10 + 14)) hx hb hown (hE.1.2.1 14 (by decide)) dX5_spelling_168 ?_
    exact mm_aret (r := (some (G.2.2 (10 + 14)))) hx hb hlocks hr (by first | exact Or.inl ⟨_, rfl⟩ | exact Or.inr ⟨_, rfl⟩) (by first | exact Nat.le_of_ble_eq_true rfl | omega | (dsimp only; omega)) (by first | exact Nat.le_of_ble_eq_true rfl | omega | (dsimp only; omega)) hM (⟨by rw [cz15], rfl⟩) dX5_spelling_171
  by_cases cz16 : x = 15
  · refine lv_tableIn (tgt := 172) hx hb dX5_spelling_1 (by rw [nI_toInt (by omega)]; omega) (by rw [nI_toInt (by omega)]; omega) (by rw [cz16]; rfl) (by decide) ?_
    refine va_ldcwS (q := G.2.2 (10 + 15)) hx hb hown (hE.1.2.1 15 (by decide)) dX5_spelling_172 ?_
    exact mm_aret (r := (some (G.2.2 (10 + 15)))) hx hb hlocks hr (by first | exact Or.inl ⟨_, rfl⟩ | exact Or.inr ⟨_, rfl⟩) (by first | exact Nat.le_of_ble_eq_true rfl | omega | (dsimp only; omega)) (by first | exact Nat.le_of_ble_eq_true rfl | omega | (dsimp only; omega)) hM (⟨by rw [cz16], rfl⟩) dX5_spelling_175
  by_cases cz17 : x = 16
  · refine lv_tableIn (tgt := 176) hx hb dX5_spelling_1 (by rw [nI_toInt (by omega)]; omega) (by rw [nI_toInt (by omega)]; omega) (by rw [cz17]; rfl) (by decide) ?_
    refine va_ldcwS (q := G.2.2 (10 + 16)) hx hb hown (hE.1.2.1 16 (by decide)) dX5_spelling_176 ?_
    exact mm_aret (r := (some (G.2.2 (10 + 16)))) hx hb hlocks hr (by first | exact Or.inl ⟨_, rfl⟩ | exact Or.inr ⟨_, rfl⟩) (by first | exact Nat.le_of_ble_eq_true rfl | omega | (dsimp only; omega)) (by first | exact Nat.le_of_ble_eq_true rfl | omega | (dsimp only; omega)) hM (⟨by rw [cz17], rfl⟩) dX5_spelling_179
  by_cases cz18 : x = 17
  · refine lv_tableIn (tgt := 180) hx hb dX5_spelling_1 (by rw [nI_toInt (by omega)]; omega) (by rw [nI_toInt (by omega)]; omega) (by rw [cz18]; rfl) (by decide) ?_
    refine va_ldcwS (q := G.2.2 (10 + 17)) hx hb hown (hE.1.2.1 17 (by decide)) dX5_spelling_180 ?_
    exact mm_aret (r := (some (G.2.2 (10 + 17)))) hx hb hlocks hr (by first | exact Or.inl ⟨_, rfl⟩ | exact Or.inr ⟨_, rfl⟩) (by first | exact Nat.le_of_ble_eq_true rfl | omega | (dsimp only; omega)) (by first | exact Nat.le_of_ble_eq_true rfl | omega | (dsimp only; omega)) hM (⟨by rw [cz18], rfl⟩) dX5_spelling_183
  by_cases cz19 : x = 18
  · refine lv_tableIn (tgt := 184) hx hb dX5_spelling_1 (by rw [nI_toInt (by omega)]; omega) (by rw [nI_toInt (by omega)]; omega) (by rw [cz19]; rfl) (by decide) ?_
    refine va_ldcwS (q := G.2.2 (10 + 18)) hx hb hown (hE.1.2.1 18 (by decide)) dX5_spelling_184 ?_
    exact mm_aret (r := (some (G.2.2 (10 + 18)))) hx hb hlocks hr (by first | exact Or.inl ⟨_, rfl⟩ | exact Or.inr ⟨_, rfl⟩) (by first | exact Nat.le_of_ble_eq_true rfl | omega | (dsimp only; omega)) (by first | exact Nat.le_of_ble_eq_true rfl | omega | (dsimp only; omega)) hM (⟨by rw [cz19], rfl⟩) dX5_spelling_187
  by_cases cz20 : x = 19
  · refine lv_tableIn (tgt := 188) hx hb dX5_spelling_1 (by rw [nI_toInt (by omega)]; omega) (by rw [nI_toInt (by omega)]; omega) (by rw [cz20]; rfl) (by decide) ?_
    refine va_ldcwS (q := G.2.2 (10 + 19)) hx hb hown (hE.1.2.1 19 (by decide)) dX5_spelling_188 ?_
    exact mm_aret (r := (some (G.2.2 (10 + 19)))) hx hb hlocks hr (by first | exact Or.inl ⟨_, rfl⟩ | exact Or.inr ⟨_, rfl⟩) (by first | exact Nat.le_of_ble_eq_true rfl | omega | (dsimp only; omega)) (by first | exact Nat.le_of_ble_eq_true rfl | omega | (dsimp only; omega)) hM (⟨by rw [cz20], rfl⟩) dX5_spelling_191
  by_cases cz21 : x = 20
  · refine lv_tableIn (tgt := 192) hx hb dX5_spelling_1 (by rw [nI_toInt (by omega)]; omega) (by rw [nI_toInt (by omega)]; omega) (by rw [cz21]; rfl) (by decide) ?_
    refine va_ldcwS (q := G.2.2 (10 + 20)) hx hb hown (hE.1.2.1 20 (by decide)) dX5_spelling_192 ?_
    exact mm_aret (r := (some (G.2.2 (10 + 20)))) hx hb hlocks hr (by first | exact Or.inl ⟨_, rfl⟩ | exact Or.inr ⟨_, rfl⟩) (by first | exact Nat.le_of_ble_eq_true rfl | omega | (dsimp only; omega)) (by first | exact Nat.le_of_ble_eq_true rfl | omega | (dsimp only; omega)) hM (⟨by rw [cz21], rfl⟩) dX5_spelling_195
  by_cases cz22 : x = 21
  · refine lv_tableIn (tgt := 196) hx hb dX5_spelling_1 (by rw [nI_toInt (by omega)]; omega) (by rw [nI_toInt (by omega)]; omega) (by rw [cz22]; rfl) (by decide) ?_
    refine va_ldcwS (q := G.2.2 (10 + 21)) hx hb hown (hE.1.2.1 21 (by decide)) dX5_spelling_196 ?_
    exact mm_aret (r := (some (G.2.2 (10 + 21)))) hx hb hlocks hr (by first | exact Or.inl ⟨_, rfl⟩ | exact Or.inr ⟨_, rfl⟩) (by first | exact Nat.le_of_ble_eq_true rfl | omega | (dsimp only; omega)) (by first | exact Nat.le_of_ble_eq_true rfl | omega | (dsimp only; omega)) hM (⟨by rw [cz22], rfl⟩) dX5_spelling_199
  by_cases cz23 : x = 22
  · refine lv_tableIn (tgt := 200) hx hb dX5_spelling_1 (by rw [nI_toInt (by omega)]; omega) (by rw [nI_toInt (by omega)]; omega) (by rw [cz23]; rfl) (by decide) ?_
    refine va_ldcwS (q := G.2.2 (10 + 22)) hx hb hown (hE.1.2.1 22 (by decide)) dX5_spelling_200 ?_
    exact mm_aret (r := (some (G.2.2 (10 + 22)))) hx hb hlocks hr (by first | exact Or.inl ⟨_, rfl⟩ | exact Or.inr ⟨_, rfl⟩) (by first | exact Nat.le_of_ble_eq_true rfl | omega | (dsimp only; omega)) (by first | exact Nat.le_of_ble_eq_true rfl | omega | (dsimp only; omega)) hM (⟨by rw [cz23], rfl⟩) dX5_spelling_203
  by_cases cz24 : x = 23
  · refine lv_tableIn (tgt := 204) hx hb dX5_spelling_1 (by rw [nI_toInt (by omega)]; omega) (by rw [nI_toInt (by omega)]; omega) (by rw [cz24]; rfl) (by decide) ?_
    refine va_ldcwS (q := G.2.2 (10 + 23)) hx hb hown (hE.1.2.1 23 (by decide)) dX5_spelling_204 ?_
    exact mm_aret (r := (some (G.2.2 (10 + 23)))) hx hb hlocks hr (by first | exact Or.inl ⟨_, rfl⟩ | exact Or.inr ⟨_, rfl⟩) (by first | exact Nat.le_of_ble_eq_true rfl | omega | (dsimp only; omega)) (by first | exact Nat.le_of_ble_eq_true rfl | omega | (dsimp only; omega)) hM (⟨by rw [cz24], rfl⟩) dX5_spelling_207
  by_cases cz25 : x = 24
  · refine lv_tableIn (tgt := 208) hx hb dX5_spelling_1 (by rw [nI_toInt (by omega)]; omega) (by rw [nI_toInt (by omega)]; omega) (by rw [cz25]; rfl) (by decide) ?_
    refine va_ldcwS (q := G.2.2 (10 + 24)) hx hb hown (hE.1.2.1 24 (by decide)) dX5_spelling_208 ?_
    exact mm_aret (r := (some (G.2.2 (10 + 24)))) hx hb hlocks hr (by first | exact Or.inl ⟨_, rfl⟩ | exact Or.inr ⟨_, rfl⟩) (by first | exact Nat.le_of_ble_eq_true rfl | omega | (dsimp only; omega)) (by first | exact Nat.le_of_ble_eq_true rfl | omega | (dsimp only; omega)) hM (⟨by rw [cz25], rfl⟩) dX5_spelling_211
  by_cases cz26 : x = 25
  · refine lv_tableIn (tgt := 212) hx hb dX5_spelling_1 (by rw [nI_toInt (by omega)]; omega) (by rw [nI_toInt (by omega)]; omega) (by rw [cz26]; rfl) (by decide) ?_
    refine va_ldcwS (q := G.2.2 (10 + 25)) hx hb hown (hE.1.2.1 25 (by decide)) dX5_spelling_212 ?_
    exact mm_aret (r := (some (G.2.2 (10 + 25)))) hx hb hlocks hr (by first | exact Or.inl ⟨_, rfl⟩ | exact Or.inr ⟨_, rfl⟩) (by first | exact Nat.le_of_ble_eq_true rfl | omega | (dsimp only; omega)) (by first | exact Nat.le_of_ble_eq_true rfl | omega | (dsimp only; omega)) hM (⟨by rw [cz26], rfl⟩) dX5_spelling_215
  refine lv_tableOut (tgt := 216) hx hb dX5_spelling_1 (by rw [nI_toInt (by omega)]; omega) (by decide) ?_
  exact absurd hx6 (by omega)
set_option maxHeartbeats 4000000 in
set_option maxRecDepth 100000 in
theorem c5_writeToken0 (l : Launch) (G : mG) {f : mE} {o q0 ra rd sp rr sb va cap rc : Nat} {ml : Int32} {L : List Int32} (h_o : f o = some (.inr (6, [.ref q0, .ref ra, .int (nI rc), .ref rd, .ref sp, .ref rr, .ref sb]))) (hos : o ≠ sb) (hov : o ≠ va) (h : TbP G f sb va cap ml L) (hlL : L.length ≤ cap) (hc : 16 ≤ cap) (hc2 : cap ≤ 1400) (x : Nat) (hx6 : x < 26) : mC l G yX5_writeToken wsX5_writeToken ({ frames := 8, cells := (Gc cap (L.length + (textB.getD x []).length) - cap), slots := (2 * (Gc cap (L.length + (textB.getD x []).length) - cap)), locals := 177 } : Room) f [.ref o, .int (nI 0), .int (nI x)] (fun v f1 => v = none ∧ TbW G f f1 sb va ml (Gc cap (L.length + (textB.getD x []).length)) (L ++ (textB.getD x []))) (Gc cap (L.length + (textB.getD x []).length) - cap) (2 * (Gc cap (L.length + (textB.getD x []).length) - cap)) := by
  refine mC.of (cc := cX5_writeToken) (maxL := 3) (ret := none) (by decide) rfl (Nat.le_of_ble_eq_true rfl) ?_
  intro pgm env s mt args below meth c A ls hx hb hml hr hlocks hown hname hts hK hE hA hM hl
  have hl : lv_has ls 3 [(0, .ref o), (1, .int (nI 0)), (2, .int (nI x))] := hl
  have hF := fun w9 e (hb : f w9 = some e)  => hb
  have hW := (TbP.start h).cap (cap2 := Gc cap L.length) (if_pos hlL).symm rfl
  have hnL : (L).length = L.length := rfl
  have hG0 : Gc cap L.length = cap := if_pos hlL
  refine W_cast (k2 := Gc cap L.length - cap) (s2 := 2 * (Gc cap L.length - cap)) (by omega) (by omega) ?_
  refine lv_iload_n hx hb dX5_writeToken_0 rfl (lv_at hl 1 rfl) ?_
  refine lv_lookup (tgt := 28) (off := 27) hx hb dX5_writeToken_1 (by decide) (by decide) (by decide) ?_
  refine lv_aload_n hx hb dX5_writeToken_28 rfl (lv_at hl 0 rfl) ?_
  refine mm_get (C := RX5) (T := TX5) (N := 7) (k := 6) hx hb hts (fun _ h => List.mem_cons_of_mem _ (List.mem_append_left _ (List.mem_append_left _ (List.mem_append_right _ h)))) hown hK hM (hW.get h_o hos hov) rfl (by decide) (hts (.fieldLink RX5 37 "SentenceRules" "builder" "Ljava/lang/StringBuilder;") (List.mem_of_getElem? (i := 1) rfl)) rfl rfl dX5_writeToken_29 ?_
  refine lv_iload_n hx hb dX5_writeToken_32 rfl (lv_at hl 2 rfl) ?_
  refine mm_S (As := [.int (nI x)]) (rest := [.ref sb]) ⟨hx, hb, hml, hown, hts⟩ (c5_spelling l G _ x (by omega)) (va_cwS 1 hts gX5_writeToken_X5_spelling rfl rfl rfl (by decide +kernel) ⟨(by first | exact Nat.le_of_ble_eq_true rfl | omega | (dsimp only; omega)), (by first | exact Nat.le_of_ble_eq_true rfl | omega | (dsimp only; omega))⟩) hK hE hA hM rfl hl.1 rfl (by first | exact Nat.le_of_ble_eq_true rfl | omega | (dsimp only; omega)) dX5_writeToken_33 ⟨(by first | exact Nat.le_of_ble_eq_true rfl | omega | (dsimp only; omega)), (by first | exact Nat.le_of_ble_eq_true rfl | omega | (dsimp only; omega))⟩ (fun v f1 Hp lcs hp hM => ?_)
  obtain ⟨rfl, hf⟩ := hp; subst hf
  refine mv_val (y := .ref (G.2.2 (10 + x))) rfl ?_
  obtain ⟨zc, hpc, hzc, hfrc⟩ := hW
  have hgc := Gc_has (cap := cap) (n := L.length) (by omega) hc
  have hge := Gc_ge cap (L.length)
  have hg2 := Gc_two cap (L.length)
  have hdl : (textB.getD x []).length ≤ 8 := by rw [← txt_len x (by omega)]; exact (txt_all x (by omega)).1
  have hgm := Gc_mono (cap := cap) (show L.length ≤ L.length + (textB.getD x []).length by omega)
  have hgf := Gc_mono (cap := cap) (show L.length + (textB.getD x []).length ≤ L.length + (textB.getD x []).length by omega)
  have hgg : Gc (Gc cap (L.length)) ((L).length + (textB.getD x []).length) = Gc cap (L.length + (textB.getD x []).length) := by rw [hnL]; exact GcGc (by omega) (by omega) hc
  refine mm_V (As := [.ref (G.2.2 (10 + x))]) (rest := []) ⟨hx, hb, hml, hown, hts⟩ (t_appS l G hpc (by rw [hnL]; omega) (by omega) (by omega) x (by omega) rfl) (cwV 1 hts gX5_writeToken_J4_append_15ec4 rfl rfl rfl (by decide +kernel) ⟨(by first | exact Nat.le_of_ble_eq_true rfl | omega | (dsimp only; omega)), (by first | exact Nat.le_of_ble_eq_true rfl | omega | (dsimp only; omega))⟩) hK hE hA hM (mm_recv hK hM hpc.sb (q := (RJ4, TJ4, 4)) rfl) rfl hl.1 rfl (by first | exact Nat.le_of_ble_eq_true rfl | omega | (dsimp only; omega)) dX5_writeToken_36 ⟨(by first | exact Nat.le_of_ble_eq_true rfl | omega | (dsimp only; omega)), (by first | exact Nat.le_of_ble_eq_true rfl | omega | (dsimp only; omega))⟩ (fun v ff Hp lcs hp hM => ?_)
  obtain ⟨rfl, hw2⟩ := hp
  have hW := (TbW.trans hpc hzc hfrc hw2).cap hgg rfl
  have hnL : ((L) ++ (textB.getD x [])).length = L.length + (textB.getD x []).length := by rw [List.length_append, hnL] <;> rfl
  refine W_cast (k2 := (Gc cap (L.length + (textB.getD x []).length) - cap)) (s2 := (2 * (Gc cap (L.length + (textB.getD x []).length) - cap))) (by omega) (by omega) ?_
  refine mv_val (y := .ref sb) rfl ?_
  refine lv_pop hx hb dX5_writeToken_39 rfl ?_
  refine lv_goto (tgt := 63) hx hb dX5_writeToken_40 (by decide) ?_
  exact mm_vret hx hb hlocks hr (by first | exact Nat.le_of_ble_eq_true rfl | omega | (dsimp only; omega)) (by first | exact Nat.le_of_ble_eq_true rfl | omega | (dsimp only; omega)) hM (⟨rfl, hW⟩) dX5_writeToken_63
set_option maxHeartbeats 4000000 in
set_option maxRecDepth 100000 in
theorem c5_writeToken1 (l : Launch) (G : mG) {f : mE} {o q0 ra rd sp rr sb va cap rc : Nat} {ml : Int32} {L : List Int32} (h_o : f o = some (.inr (6, [.ref q0, .ref ra, .int (nI rc), .ref rd, .ref sp, .ref rr, .ref sb]))) (hos : o ≠ sb) (hov : o ≠ va) (h : TbP G f sb va cap ml L) (hlL : L.length ≤ cap) (hc : 16 ≤ cap) (hc2 : cap ≤ 1400) (x : Int32) (hx9 : inB x (-9999) 9999 = true) : mC l G yX5_writeToken wsX5_writeToken ({ frames := 8, cells := (Gc cap (L.length + (sgnL x).length) - cap), slots := (2 * (Gc cap (L.length + (sgnL x).length) - cap)), locals := 177 } : Room) f [.ref o, .int (nI 1), .int x] (fun v f1 => v = none ∧ TbW G f f1 sb va ml (Gc cap (L.length + (sgnL x).length)) (L ++ (sgnL x))) (Gc cap (L.length + (sgnL x).length) - cap) (2 * (Gc cap (L.length + (sgnL x).length) - cap)) := by
  refine mC.of (cc := cX5_writeToken) (maxL := 3) (ret := none) (by decide) rfl (Nat.le_of_ble_eq_true rfl) ?_
  intro pgm env s mt args below meth c A ls hx hb hml hr hlocks hown hname hts hK hE hA hM hl
  have hl : lv_has ls 3 [(0, .ref o), (1, .int (nI 1)), (2, .int x)] := hl
  have hF := fun w9 e (hb : f w9 = some e)  => hb
  have hW := (TbP.start h).cap (cap2 := Gc cap L.length) (if_pos hlL).symm rfl
  have hnL : (L).length = L.length := rfl
  have hG0 : Gc cap L.length = cap := if_pos hlL
  refine W_cast (k2 := Gc cap L.length - cap) (s2 := 2 * (Gc cap L.length - cap)) (by omega) (by omega) ?_
  refine lv_iload_n hx hb dX5_writeToken_0 rfl (lv_at hl 1 rfl) ?_
  refine lv_lookup (tgt := 43) (off := 42) hx hb dX5_writeToken_1 (by decide) (by decide) (by decide) ?_
  refine lv_aload_n hx hb dX5_writeToken_43 rfl (lv_at hl 0 rfl) ?_
  refine mm_get (C := RX5) (T := TX5) (N := 7) (k := 6) hx hb hts (fun _ h => List.mem_cons_of_mem _ (List.mem_append_left _ (List.mem_append_left _ (List.mem_append_right _ h)))) hown hK hM (hW.get h_o hos hov) rfl (by decide) (hts (.fieldLink RX5 37 "SentenceRules" "builder" "Ljava/lang/StringBuilder;") (List.mem_of_getElem? (i := 1) rfl)) rfl rfl dX5_writeToken_44 ?_
  refine lv_iload_n hx hb dX5_writeToken_47 rfl (lv_at hl 2 rfl) ?_
  obtain ⟨zc, hpc, hzc, hfrc⟩ := hW
  have hgc := Gc_has (cap := cap) (n := L.length) (by omega) hc
  have hge := Gc_ge cap (L.length)
  have hg2 := Gc_two cap (L.length)
  have hdl := sgnL_le hx9
  have hgm := Gc_mono (cap := cap) (show L.length ≤ L.length + (sgnL x).length by omega)
  have hgf := Gc_mono (cap := cap) (show L.length + (sgnL x).length ≤ L.length + (sgnL x).length by omega)
  have hgg : Gc (Gc cap (L.length)) ((L).length + (sgnL x).length) = Gc cap (L.length + (sgnL x).length) := by rw [hnL]; exact GcGc (by omega) (by omega) hc
  refine mm_V (As := [.int x]) (rest := []) ⟨hx, hb, hml, hown, hts⟩ (t_appI l G hpc (by rw [hnL]; omega) (by omega) (by omega) (isDec_sgn hx9) (Nat.le_trans (sgnL_le hx9) (by decide))) (cwV 1 hts gX5_writeToken_J4_append_bf812 rfl rfl rfl (by decide +kernel) ⟨(by first | exact Nat.le_of_ble_eq_true rfl | omega | (dsimp only; omega)), (by first | exact Nat.le_of_ble_eq_true rfl | omega | (dsimp only; omega))⟩) hK hE hA hM (mm_recv hK hM hpc.sb (q := (RJ4, TJ4, 4)) rfl) rfl hl.1 rfl (by first | exact Nat.le_of_ble_eq_true rfl | omega | (dsimp only; omega)) dX5_writeToken_48 ⟨(by first | exact Nat.le_of_ble_eq_true rfl | omega | (dsimp only; omega)), (by first | exact Nat.le_of_ble_eq_true rfl | omega | (dsimp only; omega))⟩ (fun v ff Hp lcs hp hM => ?_)
  obtain ⟨rfl, hw2⟩ := hp
  have hW := (TbW.trans hpc hzc hfrc hw2).cap hgg rfl
  have hnL : ((L) ++ (sgnL x)).length = L.length + (sgnL x).length := by rw [List.length_append, hnL] <;> rfl
  refine W_cast (k2 := (Gc cap (L.length + (sgnL x).length) - cap)) (s2 := (2 * (Gc cap (L.length + (sgnL x).length) - cap))) (by omega) (by omega) ?_
  refine mv_val (y := .ref sb) rfl ?_
  refine lv_pop hx hb dX5_writeToken_51 rfl ?_
  refine lv_goto (tgt := 63) hx hb dX5_writeToken_52 (by decide) ?_
  exact mm_vret hx hb hlocks hr (by first | exact Nat.le_of_ble_eq_true rfl | omega | (dsimp only; omega)) (by first | exact Nat.le_of_ble_eq_true rfl | omega | (dsimp only; omega)) hM (⟨rfl, hW⟩) dX5_writeToken_63
set_option maxHeartbeats 4000000 in
set_option maxRecDepth 100000 in
theorem c5_writeToken2 (l : Launch) (G : mG) {f : mE} {o q0 ra rd sp rr sb va cap rc : Nat} {ml : Int32} {L : List Int32} (h_o : f o = some (.inr (6, [.ref q0, .ref ra, .int (nI rc), .ref rd, .ref sp, .ref rr, .ref sb]))) (hos : o ≠ sb) (hov : o ≠ va) (h : TbP G f sb va cap ml L) (hlL : L.length ≤ cap) (hc : 16 ≤ cap) (hc2 : cap ≤ 1400) (x : Nat) (hx7 : x ≤ 73048) : mC l G yX5_writeToken wsX5_writeToken ({ frames := 8, cells := (Gc cap (L.length + 10) - cap), slots := (2 * (Gc cap (L.length + 10) - cap)), locals := 177 } : Room) f [.ref o, .int (nI 2), .int (nI x)] (fun v f1 => v = none ∧ TbW G f f1 sb va ml (Gc cap (L.length + 10)) (L ++ (datL (codeN x)))) (Gc cap (L.length + 10) - cap) (2 * (Gc cap (L.length + 10) - cap)) := by
  refine mC.of (cc := cX5_writeToken) (maxL := 3) (ret := none) (by decide) rfl (Nat.le_of_ble_eq_true rfl) ?_
  intro pgm env s mt args below meth c A ls hx hb hml hr hlocks hown hname hts hK hE hA hM hl
  have hl : lv_has ls 3 [(0, .ref o), (1, .int (nI 2)), (2, .int (nI x))] := hl
  have hF := fun w9 e (hb : f w9 = some e)  => hb
  have hW := (TbP.start h).cap (cap2 := Gc cap L.length) (if_pos hlL).symm rfl
  have hnL : (L).length = L.length := rfl
  have hG0 : Gc cap L.length = cap := if_pos hlL
  refine W_cast (k2 := Gc cap L.length - cap) (s2 := 2 * (Gc cap L.length - cap)) (by omega) (by omega) ?_
  refine lv_iload_n hx hb dX5_writeToken_0 rfl (lv_at hl 1 rfl) ?_
  refine lv_lookup (tgt := 55) (off := 54) hx hb dX5_writeToken_1 (by decide) (by decide) (by decide) ?_
  refine lv_aload_n hx hb dX5_writeToken_55 rfl (lv_at hl 0 rfl) ?_
  refine lv_iload_n hx hb dX5_writeToken_56 rfl (lv_at hl 2 rfl) ?_
  refine mm_S (As := [.int (nI x)]) (rest := [.ref o]) ⟨hx, hb, hml, hown, hts⟩ (c5_dateCode l G _ x (by omega)) (va_cwS 1 hts gX5_writeToken_X5_dateCode rfl rfl rfl (by decide +kernel) ⟨(by first | exact Nat.le_of_ble_eq_true rfl | omega | (dsimp only; omega)), (by first | exact Nat.le_of_ble_eq_true rfl | omega | (dsimp only; omega))⟩) hK hE hA hM rfl hl.1 rfl (by first | exact Nat.le_of_ble_eq_true rfl | omega | (dsimp only; omega)) dX5_writeToken_57 ⟨(by first | exact Nat.le_of_ble_eq_true rfl | omega | (dsimp only; omega)), (by first | exact Nat.le_of_ble_eq_true rfl | omega | (dsimp only; omega))⟩ (fun v f1 Hp lcs hp hM => ?_)
  obtain ⟨rfl, hf⟩ := hp; subst hf
  obtain ⟨zc, hpc, hzc, hfrc⟩ := hW
  have hgc := Gc_has (cap := cap) (n := L.length) (by omega) hc
  have hge := Gc_ge cap (L.length)
  have hg2 := Gc_two cap (L.length)
  have hyr := codeN_yr hx7
  have hgm := Gc_mono (cap := cap) (show L.length ≤ L.length + 10 by omega)
  have hgf := Gc_mono (cap := cap) (show L.length + 10 ≤ L.length + 10 by omega)
  have hgg : Gc (Gc cap (L.length)) ((L).length + 10) = Gc cap (L.length + 10) := by rw [hnL]; exact GcGc (by omega) (by omega) hc
  refine mm_V (As := [.int (nI (codeN x))]) (rest := []) ⟨hx, hb, hml, hown, hts⟩ (c5_writeDate l G (hfrc o _ h_o hos hov) hos (apart_z hov hzc h_o) hpc (by rw [hnL]; omega) (by omega) (by omega) (codeN x) (by omega) (by omega)) (cwV 1 hts gX5_writeToken_X5_writeDate rfl rfl rfl (by decide +kernel) ⟨(by first | exact Nat.le_of_ble_eq_true rfl | omega | (dsimp only; omega)), (by first | exact Nat.le_of_ble_eq_true rfl | omega | (dsimp only; omega))⟩) hK hE hA hM (mm_recv hK hM (hfrc o _ h_o hos hov) (q := (RX5, TX5, 7)) rfl) rfl hl.1 rfl (by first | exact Nat.le_of_ble_eq_true rfl | omega | (dsimp only; omega)) dX5_writeToken_60 ⟨(by first | exact Nat.le_of_ble_eq_true rfl | omega | (dsimp only; omega)), (by first | exact Nat.le_of_ble_eq_true rfl | omega | (dsimp only; omega))⟩ (fun v ff Hp lcs hp hM => ?_)
  obtain ⟨rfl, hw2⟩ := hp
  have hW := (TbW.trans hpc hzc hfrc hw2).cap hgg rfl
  have hnL : ((L) ++ (decL ((codeN x) / 10000) ++ nI 45 :: (ddL ((codeN x) / 100 % 100) ++ nI 45 :: ddL ((codeN x) % 100)))).length = L.length + 10 := by rw [List.length_append, hnL, dat_len (by omega) (by omega)] <;> rfl
  refine W_cast (k2 := (Gc cap (L.length + 10) - cap)) (s2 := (2 * (Gc cap (L.length + 10) - cap))) (by omega) (by omega) ?_
  exact mm_vret hx hb hlocks hr (by first | exact Nat.le_of_ble_eq_true rfl | omega | (dsimp only; omega)) (by first | exact Nat.le_of_ble_eq_true rfl | omega | (dsimp only; omega)) hM (⟨rfl, hW.cap rfl (by rw [dat_eq (by omega) (by omega)])⟩) dX5_writeToken_63

