/-! THE CLAIM OUT OF ONE WALK OF THE LAW'S BODY. Your part is whole_start (and what it stands on); all else here is the same for every law, but numbers. -/
def R_law : String := "SentenceRulesLaw"
def lw_P (b : Addr) (xs : List Int32) (args : Array Value) (s : State) : Prop := args = #[.ref b] ∧ s.IntsAt b xs ∧ xs.length ≤ 260 ∧ (Jvm.Cond.and given_1 narrow_1).before args s = true
def lw_Q (_ : Array Value) (s : State) (o : Outcome) (t : State) : Prop := o = .returned (some (.int 1)) ∧ Framed s o t [] 600000 7302250
def lw_Z (below : List Frame) (a : Array Value) (s : State) : State → Prop := fun t => ∃ o, t.status = .running ∧ Ended t below o ∧ lw_Q a s o t
/-- the law's own end, with 1 on the stack, nothing written that was there before, its room as the claim has it -/
theorem lw_ret {p : Program} {l : Launch} {e : Env} {s : State} {m : MethodId} {below : List Frame} {meth : Method} {c : Code} {b : Nat} (hx : p.tables.exec = Jvm.exec) (hb : c.code = code) (hr : meth.sig.returnType = ret) (hlocks : meth.locks = false) {pc : Nat} {H : Heap} {ls : Array Slot} (hdg : decode code pc = .ok (.ireturn, 1)) : W p l e room_1 s m #[Value.ref b] below meth c H [] 600000 7302250 (lw_Z below #[Value.ref b] s) (F0 m pc ls [.int 1]) := by
  intro T hT X
  obtain ⟨fs, hret, hrun, hended, hW, hframe⟩ := X.leave (v := some (.int 1)) (hlocks := hlocks) (fun h => by rw [hr] at h; cases h)
  have hmeth' : T.vm.method? m = some meth := X.method'
  refine ⟨T.setFrames fs, ?_, .returned (some (.int 1)), hrun, hended, rfl, ⟨_, rfl⟩, hW, hframe⟩
  jvm_step X.here [X.here.top, hx, hb, hdg, hmeth', hr, ret, narrow_b1]
  (try refine ⟨rfl, ?_⟩); (try refine ⟨rfl, ?_⟩)
  first | (intro acts; rw [hret _ acts rfl rfl rfl]) | rw [hret _ _ rfl rfl rfl]
  exact Steps.refl _
/-- what holds at the law's entry: the machine, the code, the tables' words (any of lw_tbl by 'hts w (by decide +kernel)'), the script of L ints xs at the cell b, what the Statement gives of the start (any of its parts by flat_of_before) -/
def lw_At (p : Program) (s : State) (m : MethodId) (meth : Method) (c : Code) (b L : Nat) (xs : Nat → Int32) : Prop :=
  p.tables.exec = Jvm.exec ∧ c.code = code ∧ meth.sig.returnType = ret ∧ c.maxLocals = 11 ∧ s.vm.findClass R_law = some m.cls ∧ (∀ w ∈ lw_tbl, w.before #[Value.ref b] s = true) ∧ va_X b L xs s s.heap ∧ b < s.heap.size ∧ meth.locks = false ∧ (Jvm.Cond.and given_1 narrow_1).before #[Value.ref b] s = true
theorem inlX0 : ∀ w ∈ wsX00, w ∈ wsL_law := fun _ h => List.mem_append_left _ (List.mem_append_left _ (List.mem_append_left _ (List.mem_append_left _ (List.mem_append_left _ (List.mem_append_left _ (List.mem_append_right _ h))))))
theorem inlX1 : ∀ w ∈ wsX10, w ∈ wsL_law := fun _ h => List.mem_append_left _ (List.mem_append_left _ (List.mem_append_left _ (List.mem_append_right _ h)))
theorem inlX2 : ∀ w ∈ wsX20, w ∈ wsL_law := fun _ h => List.mem_append_left _ (List.mem_append_left _ (List.mem_append_right _ h))
theorem inlX3 : ∀ w ∈ wsX30, w ∈ wsL_law := fun _ h => List.mem_append_left _ (List.mem_append_left _ (List.mem_append_left _ (List.mem_append_left _ (List.mem_append_left _ (List.mem_append_left _ (List.mem_append_left _ (List.mem_append_right _ h)))))))
theorem inlX4 : ∀ w ∈ wsX40, w ∈ wsL_law := fun _ h => List.mem_append_left _ (List.mem_append_left _ (List.mem_append_left _ (List.mem_append_left _ (List.mem_append_right _ h))))
theorem inlX5 : ∀ w ∈ wsX50, w ∈ wsL_law := fun _ h => List.mem_append_left _ (List.mem_append_left _ (List.mem_append_left _ (List.mem_append_left _ (List.mem_append_left _ (List.mem_append_left _ (List.mem_append_left _ (List.mem_append_left _ (List.mem_append_right _ h))))))))
theorem inlJ0 : ∀ w ∈ wsJ00, w ∈ wsL_law := fun _ h => List.mem_append_left _ (List.mem_append_right _ h)
theorem inlJ4 : ∀ w ∈ wsJ40, w ∈ wsL_law := fun _ h => List.mem_append_left _ (List.mem_append_left _ (List.mem_append_left _ (List.mem_append_left _ (List.mem_append_left _ (List.mem_append_right _ h)))))
theorem VX00 : VX S00 0 := ⟨fun i hi => absurd hi (Nat.not_lt_zero i), fun j hj => by
  have : j = 0 ∨ j = 1 ∨ j = 2 ∨ j = 3 ∨ j = 4 ∨ j = 5 ∨ j = 6 := by omega
  rcases this with rfl | rfl | rfl | rfl | rfl | rfl | rfl <;> decide, fun i hi => absurd hi (Nat.not_lt_zero i)⟩
set_option maxHeartbeats 4000000 in
set_option maxRecDepth 100000 in
theorem law_loop {p : Program} {l : Launch} {e : Env} {s : State} {m : MethodId} {below : List Frame} {meth : Method} {c : Code} {G : mG} {b L : Nat} {xs : Nat → Int32} (hx : p.tables.exec = Jvm.exec) (hb : c.code = cL_law) (hml : c.maxLocals = 11) (hr : meth.sig.returnType = ret) (hlocks : meth.locks = false) (hown : s.vm.findClass RL = some m.cls) (hts : ∀ w ∈ wsL_law, w.before #[Value.ref b] s = true) (hK : va_K G.1 vwCl (mT G) s) (hE : mS G (fun q : Nat => s.heap.size ≤ q) s s.heap) (hX : va_X b L xs s s.heap) (hbl : b < s.heap.size) (hL : L ≤ 260) : ∀ (fuel t : Nat) (f h : mE) (o q : Nat) (Hp : Heap) (lcs : List Loc) (ls : Array Slot), mM G (fun q : Nat => s.heap.size ≤ q) s.heap f Hp lcs → mD G (fun q : Nat => s.heap.size ≤ q) h Hp → mAp f h → L2 G f h o q → t ≤ 20 → 20 - t < fuel → lv_has ls 11 [(3, .int (nI t)), (2, .ref q), (1, .ref o), (0, .ref b)] → W p l e room_1 s m #[Value.ref b] below meth c Hp lcs (200 + 1247 * t) (5000 + 3900 * t) (lw_Z below #[Value.ref b] s) (F0 m 18 ls []) := by
  have hA : ∀ q : Nat, s.heap.size ≤ q → (fun q : Nat => s.heap.size ≤ q) q := fun _ h => h
  have hbA : ¬ (fun q : Nat => s.heap.size ≤ q) b := Nat.not_le.mpr hbl
  intro fuel
  induction fuel with
  | zero => intro t f h o q Hp lcs ls hM hh hap hLI ht hfu; exact absurd hfu (Nat.not_lt_zero _)
  | succ fuel ih =>
    intro t f h o q Hp lcs ls hM hh hap hLI ht hfu hl
    obtain ⟨S, P, P2, rc, rc2, n, cn, hI, hJ, hv, hX9⟩ := hLI
    refine lv_iload_n hx hb dL_law_18 rfl (lv_at hl 0 rfl) ?_
    refine lv_bipush (v := nI 20) hx hb dL_law_19 (by decide +kernel) ?_
    refine ln_icmp_ge t 20 (by omega) (by omega) (tgt := 309) hx hb dL_law_21 (by decide) (fun hc => ?_) (fun hc => ?_)
    · refine lv_aload_n hx hb dL_law_309 rfl (lv_at hl 2 rfl) ?_
      refine lv_aload_n hx hb dL_law_310 rfl (lv_at hl 1 rfl) ?_
      refine mm_S (As := [.ref o, .ref q]) (rest := []) ⟨hx, hb, hml, hown, hts⟩ (l_areAlike l G hI hJ hv hap) (va_cwS 2 hts gL_law_L_areAlike rfl rfl rfl (by decide +kernel) ⟨Nat.le_of_ble_eq_true rfl, Nat.le_of_ble_eq_true rfl⟩) hK hE hA (show mM G (fun q : Nat => s.heap.size ≤ q) s.heap (fun a => (f a).or (h a)) Hp lcs from ⟨hM.1.join hh hap, hM.2⟩) rfl hl.1 rfl (Nat.le_of_ble_eq_true rfl) dL_law_311 ⟨by show _ ≤ (600000 : Nat); omega, by show _ ≤ (7302250 : Nat); omega⟩ (fun v9 f1 Hp lcs hp hM => ?_)
      obtain rfl := hp
      refine va_forget (fun q hq => hM.2.2.2 q hq) ?_
      refine W.widen (k := 600000) (n := 7302250) (by omega) (by omega) ?_
      exact lw_ret hx hb hr hlocks dL_law_314
    · refine law_a hx hb hml hown hts hK hE hA hX hbl hbA hL hM hh hap hc hI hJ hv hX9 (lv_sub hl [3, 2, 1, 0] rfl) (by omega) (by omega) (fun f1 h1 H1 locs1 ls a1 a2 a3 a4 hl => ?_)
      refine lv_iinc (v := nI (t + 1)) (lv' := [(3, .int (nI (t + 1))), (2, .ref q), (1, .ref o), (0, .ref b)]) hx hb dL_law_303 hl (k := 0) rfl (nI_add _ _) (by decide) rfl (fun ls hl => ?_)
      refine lv_goto (tgt := 18) hx hb dL_law_306 (by decide) ?_
      refine W_cast (k2 := 200 + 1247 * (t + 1)) (s2 := 5000 + 3900 * (t + 1)) (by omega) (by omega) ?_
      exact ih (t + 1) f1 h1 o q H1 locs1 ls a1 a2 a3 a4 (by omega) (by omega) hl
set_option maxHeartbeats 4000000 in
set_option maxRecDepth 100000 in
theorem whole_start {p : Program} {e : Env} {s : State} {m : MethodId} {below : List Frame} {meth : Method} {c : Code} (l : Launch) (hflags : l.flags = flags0) {b L : Nat} {xs : Nat → Int32} (hL : L ≤ 260) (C0 : lw_At p s m meth c b L xs) : W p l e room_1 s m #[Value.ref b] below meth c s.heap [] 0 0 (lw_Z below #[Value.ref b] s) (entryFrame m ([Value.ref b] : List Value).toArray 11) := by
  obtain ⟨hx, hb, hr, hml, hown, hts0, hX, hbl, hlocks, hgv⟩ := id C0
  have hts := wsL_law_ok hts0
  have htb : ∀ w ∈ tables_1, w.before #[Value.ref b] s = true := fun w h => hts0 w (List.mem_append_right _ h)
  have hA : ∀ q : Nat, s.heap.size ≤ q → (fun q : Nat => s.heap.size ≤ q) q := fun _ h => h
  obtain ⟨ga, hmS⟩ := ent_mS (A := fun q : Nat => s.heap.size ≤ q) (flat_of_before _ hgv) htb (fun a h z => absurd h (Nat.not_lt.mpr z))
  obtain ⟨c0, iS0, hKn0⟩ := u_known (C := RJ4) (T := TJ4) (N := 4) (n := 4) hts inlJ4 (htb (.instantiable RJ4 4) (List.mem_of_getElem? (i := 134) rfl))
  obtain ⟨c1, iS1, hKn1⟩ := u_known (C := RX0) (T := TX0) (N := 9) (n := 9) hts inlX0 (htb (.instantiable RX0 9) (List.mem_of_getElem? (i := 76) rfl))
  obtain ⟨c2, iS2, hKn2⟩ := u_known (C := RX1) (T := TX1) (N := 2) (n := 2) hts inlX1 (htb (.instantiable RX1 2) (List.mem_of_getElem? (i := 82) rfl))
  obtain ⟨c3, iS3, hKn3⟩ := u_known (C := RX2) (T := TX2) (N := 5) (n := 5) hts inlX2 (htb (.instantiable RX2 5) (List.mem_of_getElem? (i := 446) rfl))
  obtain ⟨c4, iS4, hKn4⟩ := u_known (C := RX3) (T := TX3) (N := 4) (n := 4) hts inlX3 (htb (.instantiable RX3 4) (List.mem_of_getElem? (i := 27) rfl))
  obtain ⟨c5, iS5, hKn5⟩ := u_known (C := RX4) (T := TX4) (N := 3) (n := 3) hts inlX4 (htb (.instantiable RX4 3) (List.mem_of_getElem? (i := 35) rfl))
  obtain ⟨c6, iS6, hKn6⟩ := u_known (C := RX5) (T := TX5) (N := 7) (n := 7) hts inlX5 (htb (.instantiable RX5 7) (List.mem_of_getElem? (i := 19) rfl))
  obtain ⟨c7, iS7, hKn7⟩ := u_known (C := RJ0) (T := TJ0) (N := 4) (n := 4) hts inlJ0 (htb (.instantiable RJ0 4) (List.mem_of_getElem? (i := 682) rfl))
  obtain ⟨ca0, k0, cp0, r0, s0, t0⟩ := Cond.arrayClass_spec (htb (.arrayClass .int) (List.mem_of_getElem? (i := 56) rfl))
  obtain ⟨ca1, k1, cp1, r1, s1, t1⟩ := Cond.arrayClass_spec (htb (.arrayClass .byte) (List.mem_of_getElem? (i := 165) rfl))
  obtain ⟨cp2, ca2, k2, p2, i2, s2, t2, r2⟩ := Cond.arrayOver_spec (htb (.arrayOver (.object "SentenceRules$Sentence")) (List.mem_of_getElem? (i := 33) rfl))
  obtain ⟨cp3, ca3, k3, p3, i3, s3, t3, r3⟩ := Cond.arrayOver_spec (htb (.arrayOver (.object "SentenceRules$State")) (List.mem_of_getElem? (i := 74) rfl))
  obtain ⟨G, hG1, hG2, hG3⟩ : ∃ G : mG, (∀ (k : Nat) (q : vw_C), vwCl[k]? = some q → u_Kn s q.1 q.2.1 q.2.2 (G.1.1 k) (G.1.2 k)) ∧ (G.2.1 0 = ca0 ∧ G.2.1 1 = ca1 ∧ G.2.1 2 = ca2 ∧ G.2.1 3 = ca3) ∧ G.2.2 = ga := by
    refine ⟨(((fun k : Nat => match k with | 0 => c0 | 1 => c1 | 2 => c2 | 3 => c3 | 4 => c4 | 5 => c5 | 6 => c6 | _ => c7), (fun k : Nat => match k with | 0 => iS0 | 1 => iS1 | 2 => iS2 | 3 => iS3 | 4 => iS4 | 5 => iS5 | 6 => iS6 | _ => iS7)), (fun k : Nat => match k with | 0 => ca0 | 1 => ca1 | 2 => ca2 | _ => ca3), ga), ?_, ⟨rfl, rfl, rfl, rfl⟩, rfl⟩
    intro k q hq
    match k, hq with
    | 0, hq => cases hq; exact hKn0
    | 1, hq => cases hq; exact hKn1
    | 2, hq => cases hq; exact hKn2
    | 3, hq => cases hq; exact hKn3
    | 4, hq => cases hq; exact hKn4
    | 5, hq => cases hq; exact hKn5
    | 6, hq => cases hq; exact hKn6
    | 7, hq => cases hq; exact hKn7
    | 8, hq => cases hq; exact hKn7
    | k + 9, hq => simp [vwCl] at hq
  obtain ⟨g0, g1, g2, g3⟩ := hG2
  have hE : mS G (fun q : Nat => s.heap.size ≤ q) s s.heap := by
    have e : G = (G.1, G.2.1, ga) := by rw [← hG3]
    rw [e]; exact hmS G.1 G.2.1
  have hK : va_K G.1 vwCl (mT G) s := by
    refine ⟨hG1, fun k q h => ?_⟩
    match k, h with
    | 0, h => cases h; rw [g0]; exact ⟨fun n z => ⟨fun k h => (by cases h), k0, s0, cp0, t0⟩, r0⟩
    | 1, h => cases h; rw [g1]; exact ⟨fun n z => ⟨fun k h => (by cases h), k1, s1, cp1, t1⟩, r1⟩
    | 2, h => cases h; rw [g2]; exact ⟨fun n z => ⟨fun k h => (by cases h), k2, s2, cp2, t2⟩, k2, cp2, s2, t2, p2, r2⟩
    | 3, h => cases h; rw [g3]; exact ⟨fun n z => ⟨fun k h => (by cases h), k3, s3, cp3, t3⟩, k3, cp3, s3, t3, p3, r3⟩
    | k + 4, h => simp [mT] at h
  have hl := lv_entry ([.ref b]) (n := 11) (Nat.le_of_ble_eq_true rfl)
  rw [lg_entry_eq]
  generalize (lg_sl ([.ref b]) ++ List.replicate (11 - (lg_sl ([.ref b])).length) Slot.unset).toArray = ls at hl ⊢
  have hl : lv_has ls 11 [(0, .ref b)] := hl
  have hM : mM G (fun q : Nat => s.heap.size ≤ q) s.heap (fun _ => none) s.heap [] := ⟨mD.empty G _ s.heap, va_S.rf⟩
  refine mm_new (C := RX5) (T := TX5) (N := 7) (ci := 6) hx hb hts inlX5 tyX5_ok hown (hts (.classLink RL 17 RX5) (inL_law_0 _ (List.mem_of_getElem? (i := 0) rfl))) (hts (.instantiable RX5 7) (inL_law_0 _ (List.mem_of_getElem? (i := 1) rfl))) (hts (.initialized RX5) (inL_law_0 _ (List.mem_of_getElem? (i := 2) rfl))) hK hM hA rfl [.null, .null, .int 0, .null, .null, .null, .null] (by decide) (Nat.le_of_ble_eq_true rfl) (Nat.le_of_ble_eq_true rfl) dL_law_0 (fun ox Hp nz hM => ?_)
  refine lv_dup hx hb dL_law_3 rfl ?_
  refine mm_I (As := []) (rest := [.ref ox]) ⟨hx, hb, hml, hown, hts⟩ (k_init l G (va_up_self _ _ _)) (cwI 0 hts gL_law_X5_init rfl rfl rfl (hts (.initialized RX5) (inL_law_0 _ (List.mem_of_getElem? (i := 2) rfl))) (hts (.methodLink RL 120 yX5_init) (inL_law_0 _ (List.mem_of_getElem? (i := 3) rfl))) (hts (.instanceMethod yX5_init) (inL_law_0 _ (List.mem_of_getElem? (i := 4) rfl))) rfl (by decide +kernel) ⟨Nat.le_of_ble_eq_true rfl, Nat.le_of_ble_eq_true rfl⟩) hK hE hA hM rfl hl.1 rfl (Nat.le_of_ble_eq_true rfl) dL_law_4 ⟨Nat.le_of_ble_eq_true rfl, Nat.le_of_ble_eq_true rfl⟩ (fun v f Hp lcs hp hM => ?_)
  obtain ⟨rfl, hI⟩ := hp
  refine lv_astore_n (lv' := [(1, .ref ox), (0, .ref b)]) hx hb dL_law_7 rfl hl (by decide) rfl (fun ls hl => ?_)
  refine mm_new (C := RX5) (T := TX5) (N := 7) (ci := 6) hx hb hts inlX5 tyX5_ok hown (hts (.classLink RL 17 RX5) (inL_law_0 _ (List.mem_of_getElem? (i := 0) rfl))) (hts (.instantiable RX5 7) (inL_law_0 _ (List.mem_of_getElem? (i := 1) rfl))) (hts (.initialized RX5) (inL_law_0 _ (List.mem_of_getElem? (i := 2) rfl))) hK hM hA rfl [.null, .null, .int 0, .null, .null, .null, .null] (by decide) (Nat.le_of_ble_eq_true rfl) (Nat.le_of_ble_eq_true rfl) dL_law_8 (fun oq Hp nz2 hM => ?_)
  obtain ⟨hf, hq, hap⟩ := hM.1.split nz2
  refine lv_dup hx hb dL_law_11 rfl ?_
  refine mm_I2 (As := []) (rest := [.ref oq]) ⟨hx, hb, hml, hown, hts⟩ (k_init l G (va_up_self _ _ _)) (cwI 0 hts gL_law_X5_init rfl rfl rfl (hts (.initialized RX5) (inL_law_0 _ (List.mem_of_getElem? (i := 2) rfl))) (hts (.methodLink RL 120 yX5_init) (inL_law_0 _ (List.mem_of_getElem? (i := 3) rfl))) (hts (.instanceMethod yX5_init) (inL_law_0 _ (List.mem_of_getElem? (i := 4) rfl))) rfl (by decide +kernel) ⟨Nat.le_of_ble_eq_true rfl, Nat.le_of_ble_eq_true rfl⟩) hK hE hA (show mM G (fun q : Nat => s.heap.size ≤ q) s.heap _ Hp _ from ⟨hq, hM.2⟩) hf hap rfl hl.1 rfl (Nat.le_of_ble_eq_true rfl) dL_law_12 ⟨Nat.le_of_ble_eq_true rfl, Nat.le_of_ble_eq_true rfl⟩ (fun v h Hp lcs hp hM hh hap => ?_)
  obtain ⟨rfl, hJ⟩ := hp
  refine lv_astore_n (lv' := [(2, .ref oq), (1, .ref ox), (0, .ref b)]) hx hb dL_law_15 rfl hl (by decide) rfl (fun ls hl => ?_)
  refine lv_iconst (v := nI 0) hx hb dL_law_16 (by decide +kernel) ?_
  refine lv_istore_n (lv' := [(3, .int (nI 0)), (2, .ref oq), (1, .ref ox), (0, .ref b)]) hx hb dL_law_17 rfl hl (by decide) rfl (fun ls hl => ?_)
  refine W.widen (k := 200 + 1247 * 0) (n := 5000 + 3900 * 0) (Nat.le_of_ble_eq_true rfl) (Nat.le_of_ble_eq_true rfl) ?_
  exact law_loop hx hb hml hr hlocks hown hts hK hE hX hbl hL 21 0 f h ox oq Hp _ ls ⟨hh, hM.2⟩ hM.1 hap.symm ⟨S00, fun _ => 0, fun _ => 0, 0, 0, 0, 0, hI, hJ, VSn00, VX00⟩ (Nat.zero_le _) (by omega) hl
set_option maxHeartbeats 4000000 in
theorem lw_walk (l : Launch) (hflags : l.flags = flags0) (b : Addr) (xs : List Int32) : MetFree l x (headSpec (Jvm.Cond.code x code maxLocals ret :: tables_1) room_1) (lw_P b xs) (fun _ _ _ _ _ => True) lw_Q := by
  refine MetFree.of_bodyS (code := code) (maxLocals := maxLocals) (ret := ret) (by decide) ?_ ?_
  · intro args s m h hn
    obtain ⟨meth, c, h1, h2, h3, h4, h5, h6, -, -⟩ := Cond.code_spec hn (atoms_spec (ws := Jvm.Cond.code x code maxLocals ret :: tables_1) h _ List.mem_cons_self)
    exact ⟨meth, c, h1, h2, h3, h4, h5, h6⟩
  · intro p e s m args below meth c s₁ B hml0 hP _
    obtain ⟨rfl, hx, hbd, hgv⟩ := hP
    obtain ⟨scr, harrAt, hlist, hof, hsmall⟩ := hx
    obtain ⟨hcb, hkn, -, -⟩ := State.arrayAt?_spec harrAt
    have hown : s.vm.findClass R_law = some m.cls := findClass_of_methodNamed B.named
    have hts0 : ∀ c ∈ (Jvm.Cond.code x code maxLocals ret :: tables_1), c.before #[Value.ref b] s = true := atoms_spec (ws := Jvm.Cond.code x code maxLocals ret :: tables_1) B.pre
    have hts : ∀ w ∈ lw_tbl, w.before #[Value.ref b] s = true := k2_hts_sels lw_privs (fun w hw => hts0 w (List.mem_cons_of_mem _ hw)) lw_privs_ok
    have hml : c.maxLocals = 11 := B.maxLocals_eq (hts0 _ List.mem_cons_self)
    have X₀ : Stand p l e room_1 s m #[Value.ref b] below meth c s₁ [] 0 0 := Stand.of_body B
    have hh0 : s₁.heap = s.heap := by rw [B.state]; rfl
    have hsz : scr.slots.size = xs.length := by rw [← Array.length_toList, hlist, List.length_map]
    have hval : ∀ j : Nat, j < xs.length → scr.slots[j]? = some (.int (xs.getD j 0)) := fun j hj => by
      rw [← Array.getElem?_toList, hlist]
      simp [hj]
    have hbl : b < s.heap.size := (Array.getElem?_eq_some_iff.mp hcb).1
    have hX : va_X b xs.length (fun j => xs.getD j 0) s s.heap := ⟨scr, hcb, hof, hkn, hsz, hval⟩
    have K : W p l e room_1 s m #[Value.ref b] below meth c s₁.heap [] 0 0 (lw_Z below #[Value.ref b] s) (entryFrame m ([Value.ref b] : List Value).toArray 11) := by
      rw [hh0]
      exact whole_start l hflags hbd ⟨B.exec, B.bytes, B.returns, hml, hown, hts, hX, hbl, B.notSynchronized, hgv⟩
    obtain ⟨t, a1, o, b1, b2, b3⟩ := K s₁ rfl X₀
    exact ⟨t, o, a1, b1, b2, b3⟩
theorem lw_pre_spec {args : Array Value} {s : State} (h : (Jvm.Cond.and given_1 narrow_1).before args s = true) (hr : rest_1_c.before args s = true) : ∃ (b : Addr) (xs : List Int32), lw_P b xs args s := by
  have hs := flat_of_before _ h
  have hq := flat_of_before _ hr
  have hc : (Cond.count 1).before args s = true := hs _ (by decide +kernel)
  have harr : (Cond.arrayOf (.arg 0) .int).before args s = true := hs _ (by decide +kernel)
  have hle : (Cond.le (.length (.arg 0)) (.int 260)).before args s = true := hs _ (by decide +kernel)
  have hlen : (Cond.isInt (.length (.arg 0))).before args s = true := hq _ (by decide +kernel)
  have hall : (Cond.all (.arg 0) (.isInt (.elem (.arg 0) (.index 0)))).before args s = true := hq _ (by decide +kernel)
  obtain ⟨b, xs, hb, hx⟩ := State.ints_of_pre rfl harr hlen hall
  have hsm : xs.length < 2 ^ 31 := hx.choose_spec.2.2.2
  have hev : (Term.length (.arg 0)).eval args s none [] s = some (.int xs.length.toInt32) := hx.length_eval hb
  have hv := Cond.le_ints hev (show (Term.int 260).eval args s none [] s = some (.int 260) from rfl)
  have hd : xs.length.toInt32 ≤ 260 := by
    simpa [Cond.before, Cond.holds, hv] using hle
  have hN : xs.length ≤ 260 := (Int32.ofNat_le_ofNat hsm (by decide)).mp (show Int32.ofNat xs.length ≤ Int32.ofNat 260 from hd)
  exact ⟨b, xs, Cond.one_arg hc (show args[0]? = some (.ref b) from hb), hx, hN, h⟩
theorem lw_comes (l : Launch) (hflags : l.flags = flags0) : Comes l x (Jvm.Cond.code x code maxLocals ret :: tables_1) room_1 (fun tb e args s => Calls_1 tb e args s ∧ rest_1 tb e args s ∧ Pre_1 tb e args s)
    (fun _ _ args s o t => lw_Q args s o t) := by
  intro p e ha hc hk s m args below hf hfit hheap happ hpre
  obtain ⟨b, xs, hP⟩ := lw_pre_spec hpre.2.2 hpre.2.1
  obtain ⟨k, o, h1, h2, h3, hQ⟩ := lw_walk l hflags b xs p e ha hc hk s m args below hf ((Spec.applies_iff_loose hf).mp happ).1 hP trivial
  exact ⟨k, o, h1, h2, h3, hQ⟩
theorem lw_frame {s t : State} {o : Outcome} {args : Array Value} (h : Framed s o t [] 600000 7302250) :
    Framed s o t (fieldLocs frame_1_writes args s ++ arrayLocs frame_1_arrays args s ++ staticLocs frame_1_statics s) 600000 7302250 := h
theorem lw_limb (L : Cond) (hL : ∀ (args : Array Value) (s t : State), L.after args s (.returned (some (.int 1))) t = true) :
    ArmFor flags0 classFile x code maxLocals ret World_1 tables_1 room_1 Calls_1 rest_1 Pre_1
      (fun tb e a s o t => postC L tb e a s o t ∧ Framed s o t (fieldLocs frame_1_writes a s ++ arrayLocs frame_1_arrays a s ++ staticLocs frame_1_statics s) 600000 7302250) := by
  intro l hflags _ _ p e ha hc hk s m args below hf hfit hheap happ hpre
  obtain ⟨k, o, h1, h2, h3, rfl, hF⟩ := lw_comes l hflags p e ha hc hk s m args below hf hfit hheap happ hpre
  exact ⟨k, _, h1, h2, h3, hL args s _, lw_frame hF⟩
theorem i_vc : Claimed_1_1 ∧ Claimed_1_2 := ⟨lw_limb limb_1_1 (fun args s t => by simp [limb_1_1, Cond.after, Cond.holds, Cond.value]), lw_limb limb_1_2 (fun args s t => Cond.after_iff.mpr (by
  first | (rw [show limb_1_2 = Cond.eq .result (.int 1) from rfl, Cond.eq_ints (x := 1) (y := 1) rfl rfl]; simp; done) | (simp [limb_1_2, Cond.value, Term.eval]; done)))⟩

