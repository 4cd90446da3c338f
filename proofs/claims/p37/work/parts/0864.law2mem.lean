/-! TWO MEMORIES as one; a store in the one; a static call in the one; the script's cells -/
theorem mD.join {G : mG} {A : Nat → Prop} {f h : mE} {H : Heap} (hf : mD G A f H) (hh : mD G A h H) (hap : mAp f h) : mD G A (fun a => (f a).or (h a)) H := by
  obtain ⟨L1, hL1, hP1, hD1⟩ := hf
  obtain ⟨L2, hL2, hP2, hD2⟩ := hh
  have n1 := nodup_of_D hD1
  have n2 := nodup_of_D hD2
  have g1 : ∀ a, a ∈ L1 → mgf (fun a => (f a).or (h a)) a = mgf f a := fun a ha => by
    obtain ⟨e, he⟩ := (hL1 a).mp ha
    simp [mgf, he]
  have g2 : ∀ a, a ∈ L2 → mgf (fun a => (f a).or (h a)) a = mgf h a := fun a ha => by
    obtain ⟨e, he⟩ := (hL2 a).mp ha
    have hn : f a = none := hap.symm a e he
    simp [mgf, hn]
  have dis : ∀ a, a ∈ L1 → a ∈ L2 → False := fun a h1 h2 => by
    obtain ⟨e, he⟩ := (hL1 a).mp h1
    obtain ⟨e2, he2⟩ := (hL2 a).mp h2
    rw [hap a e he] at he2; cases he2
  have nd : (L1 ++ L2).Nodup := by
    rw [List.nodup_append]
    exact ⟨n1, n2, fun a h1 b h2 e => dis a h1 (by rw [e]; exact h2)⟩
  have at' : ∀ (k : Nat) (q : Nat × va_E), (va_pl (L1 ++ L2) (mgf (fun a => (f a).or (h a))))[k]? = some q → (L1 ++ L2)[k]? = some q.1 ∧ ((∃ j : Nat, (va_pl L1 (mgf f))[j]? = some q) ∨ ∃ j : Nat, (va_pl L2 (mgf h))[j]? = some q) := by
    intro k q hq
    simp only [va_pl, List.getElem?_map] at hq
    cases hb : (L1 ++ L2)[k]? with
    | none => rw [hb] at hq; cases hq
    | some b =>
      rw [hb] at hq
      have e := Option.some.inj hq
      refine ⟨by rw [← e], ?_⟩
      rcases List.mem_append.mp (List.mem_of_getElem? hb) with m | m
      · obtain ⟨j, hj⟩ := va_pl_get (X := []) (f := mgf f) m
        exact Or.inl ⟨j, by rw [← e]; show _ = some (b, mgf (fun a => (f a).or (h a)) b); rw [g1 b m]; exact hj⟩
      · obtain ⟨j, hj⟩ := va_pl_get (X := []) (f := mgf h) m
        exact Or.inr ⟨j, by rw [← e]; show _ = some (b, mgf (fun a => (f a).or (h a)) b); rw [g2 b m]; exact hj⟩
  refine ⟨L1 ++ L2, fun a => ?_, fun k q hq => ?_, fun i j x y hx hy e => ?_, fun k q hq => ?_⟩
  · rw [List.mem_append, hL1 a, hL2 a]
    constructor
    · rintro (⟨e, he⟩ | ⟨e, he⟩)
      · exact ⟨e, by simp [he]⟩
      · exact ⟨e, by simp [hap.symm a e he, he]⟩
    · rintro ⟨e, he⟩
      cases hfa : f a with
      | some u => exact Or.inl ⟨u, rfl⟩
      | none =>
        have he : (f a).or (h a) = some e := he
        rw [hfa, Option.none_or] at he
        exact Or.inr ⟨e, he⟩
  · rcases (at' k q hq).2 with ⟨j, hj⟩ | ⟨j, hj⟩
    · exact hP1 j q hj
    · exact hP2 j q hj
  · have h1 := (at' i x hx).1
    have h2 := (at' j y hy).1
    exact (List.getElem?_inj (List.getElem?_eq_some_iff.mp h1).1 nd).mp (by rw [h1, h2, e])
  · rcases (at' k q hq).2 with ⟨j, hj⟩ | ⟨j, hj⟩
    · exact hD1.2 j q hj
    · exact hD2.2 j q hj
theorem mD.apart {G : mG} {A : Nat → Prop} {f h u : mE} {H : Heap} (hu : mD G A u H) (hap : mAp f h) (e : u = fun a => (f a).or (h a)) : mD G A f H ∧ mD G A h H := by
  subst e
  constructor
  · have h1 := hu.restrict (fun a => (f a).isSome)
    have e1 : (fun a => if ((f a).isSome) = true then (f a).or (h a) else none) = f := by
      funext a
      cases hfa : f a with
      | none => simp
      | some x => simp
    rw [e1] at h1; exact h1
  · have h1 := hu.restrict (fun a => !(f a).isSome)
    have e1 : (fun a => if (!(f a).isSome) = true then (f a).or (h a) else none) = h := by
      funext a
      cases hfa : f a with
      | none => simp
      | some x => simp [hap a x hfa]
    rw [e1] at h1; exact h1
section M3
variable {p : Program} {l : Launch} {e : Env} {R : Room} {s : State} {m : MethodId} {args : Array Value} {below : List Frame} {meth : Method} {c : Code} {H : Heap} {locs : List Loc} {cells slots : Nat} {Q : State → Prop}
variable {cc : ByteArray} {pc : Nat} {ls : Array Slot} {rest : List Value} {A : Nat → Prop} {a : Nat} {H0 : Heap} {G : mG} {f h : mE}
variable {y : MethodName} {bytes : ByteArray} {maxL nL mc ms n index : Nat} {ret : Option FieldType} {ws : List Cond} {rm : Room} {Ts : List Cond} {own C host : String} {b : Addr} {As : List Value} {st0 : List Value} {post : Option Value → mE → Prop}
theorem mm_iast2 (hx : p.tables.exec = Jvm.exec) (hb : c.code = cc) (hK : va_K G.1 vwCl (mT G) s) (hM : mM G A H0 f H locs) (hh : mD G A h H) (hap : mAp f h) {N : Nat} {g : Nat → Int32} (hf : h a = some (mI G N g)) (k : Nat) {x : Int32} (hin : k < N) (hn : N ≤ 65536) (hdg : decode cc pc = .ok (.iastore, 1))
    (kk : ∀ (H1 : Heap) (locs1 : List Loc), mM G A H0 f H1 locs1 → mD G A (va_up h a (some (mI G N (upd g k x)))) H1 → mAp f (va_up h a (some (mI G N (upd g k x)))) → W p l e R s m args below meth c H1 locs1 cells slots Q (F0 m (pc + 1) ls rest)) : W p l e R s m args below meth c H locs cells slots Q (F0 m pc ls (.int x :: .int (nI k) :: .ref a :: rest)) := by
  have hfa : f a = none := hap.symm a _ hf
  have hap2 : mAp f (va_up h a (some (mI G N (upd g k x)))) := fun b u hb => by
    have hne : b ≠ a := fun z => by rw [z, hfa] at hb; cases hb
    rw [va_up_ne _ _ hne]; exact hap b u hb
  refine mn_iast hx hb hK (show mM G A H0 (fun a => (f a).or (h a)) H locs from ⟨hM.1.join hh hap, hM.2⟩) (g := g) (n := N) (by show (f a).or (h a) = _; rw [hfa, hf]; rfl) k hin hn hdg (fun H1 locs1 hM1 => ?_)
  obtain ⟨q1, q2⟩ := hM1.1.apart hap2 (by
    funext b
    by_cases hb : b = a
    · subst hb; rw [va_up_self, hfa, va_up_self]; rfl
    · rw [va_up_ne _ _ hb, va_up_ne _ _ hb])
  exact kk H1 locs1 ⟨q1, hM1.2⟩ q2 hap2
theorem mm_S2 (S : CallFix p m c cc nL s args Ts own) (hC : mC l G y ws rm f As post mc ms) (cw : CallB R s args own index y bytes maxL ret ws rm mc ms n ∧ (Cond.static y).before args s = true) (hK : va_K G.1 vwCl (mT G) s) (hE : mS G A s s.heap) (hA : ∀ q, s.heap.size ≤ q → A q) (hM : mM G A s.heap f H locs) (hh : mD G A h H) (hap : mAp f h) (hn : As.length = n) (hsz : ls.size = nL) (hst : st0 = As.reverse ++ rest) (hW : (rest.map fun v => v.category).sum ≤ 8) (hdg : decode cc pc = .ok (.invokestatic index, 3)) (hf : cells + mc ≤ R.cells ∧ slots + ms ≤ R.slots)
    (kk : ∀ (v : Option Value) (f' : mE) (H1 : Heap) (locs1 : List Loc), post v f' → mM G A s.heap f' H1 locs1 → mD G A h H1 → mAp f' h → W p l e R s m args below meth c H1 locs1 (cells + mc) (slots + ms) Q (F0 m (pc + 3) ls (v.toList ++ rest))) : W p l e R s m args below meth c H locs cells slots Q (F0 m pc ls st0) := by
  subst hst
  exact mm_after2 (G := G) (f := f) (post := post) (va_runS (As := As) (rest := rest) S (hC H.size) cw ⟨mPre_blind G f H.size _, fun U hU hW => ⟨rfl, mPre_of hK hE hA hM hU hW⟩⟩ rfl hn hsz rfl (lv_room hW) hdg hf) hA hM hh hap kk
/-! the script: it lies outside, and nobody writes it -/
def mPreX (G : mG) (f : mE) (b L : Nat) (xs : Nat → Int32) (sz : Nat) (U : State) : Prop := mPre G f sz U ∧ va_X b L xs U U.heap ∧ b < sz ∧ ¬ mA f sz b
def mCX (l : Launch) (G : mG) (y : MethodName) (ws : List Cond) (rm : Room) (f : mE) (b L : Nat) (xs : Nat → Int32) (av : List Value) (post : Option Value → mE → Prop) (mc ms : Nat) : Prop :=
  ∀ sz, Met l y ws rm (va_Pc av (mPreX G f b L xs sz)) (mQc G (mA f sz) post) mc ms (mA f sz)
theorem mPreX_blind (G : mG) (f : mE) (b L : Nat) (xs : Nat → Int32) (sz : Nat) (av : List Value) : FrameBlind (va_Pc av (mPreX G f b L xs sz)) := by
  intro a U g mk q
  obtain ⟨q0, q1, q2, q3, q4⟩ := q
  obtain ⟨w0, w1⟩ := mPre_blind G f sz av a U g mk ⟨q0, q1⟩
  exact ⟨w0, w1, va_X.moved (u := U) (U := U.calling g mk a) (Vm.Alike.refl U.vm) q2, q3, q4⟩
theorem mCX.of {ws' : List Cond} {b L : Nat} {xs : Nat → Int32} {av : List Value} {cc : ByteArray} {maxL : Nat} (hy : plainName y.cls = true) (hw : ws = Cond.code y cc maxL ret :: ws') (hlen : (lg_sl av).length ≤ maxL)
    (body : ∀ (p : Program) (e : Env) (s : State) (m : MethodId) (args : Array Value) (below : List Frame) (meth : Method) (c : Code) (A : Nat → Prop) (ls : Array Slot), p.tables.exec = Jvm.exec → c.code = cc → c.maxLocals = maxL → meth.sig.returnType = ret → meth.locks = false → s.vm.findClass y.cls = some m.cls → meth.name = y.name → (∀ w ∈ ws, w.before args s = true) → va_K G.1 vwCl (mT G) s → mS G A s s.heap → (∀ q, s.heap.size ≤ q → A q) → mM G A s.heap f s.heap [] → va_X b L xs s s.heap → b < s.heap.size → ¬ A b → lv_has ls maxL (lv_args 0 av) →
      W p l e rm s m args below meth c s.heap [] 0 0 (MQ below (mQc G A post) args s mc ms A) (F0 m 0 ls [])) : mCX l G y ws rm f b L xs av post mc ms := by
  intro sz
  refine Met.ofW (cc := cc) (maxL := maxL) (ret := ret) hy hw ?_
  intro p e s m args below meth c s₁ B hml hv
  obtain ⟨rfl, ⟨hsz, hD, hK, hE⟩, hX, hbl, hbA⟩ := hv
  subst hsz
  have hl := lv_entry av (n := maxL) hlen
  rw [lg_entry_eq]
  exact body p e s m _ below meth c _ _ B.exec B.bytes hml B.returns B.notSynchronized (findClass_of_methodNamed B.named) (name_of_methodNamed B.named B.method).1 (atoms_spec (ws := ws) B.pre) hK hE (fun q h => Or.inr h) ⟨hD, va_S.rf⟩ hX hbl hbA hl
theorem mm_SX {b0 L0 : Nat} {xs : Nat → Int32} (S : CallFix p m c cc nL s args Ts own) (hC : mCX l G y ws rm f b0 L0 xs As post mc ms) (cw : CallB R s args own index y bytes maxL ret ws rm mc ms n ∧ (Cond.static y).before args s = true) (hK : va_K G.1 vwCl (mT G) s) (hE : mS G A s s.heap) (hA : ∀ q, s.heap.size ≤ q → A q) (hX : va_X b0 L0 xs s s.heap) (hbl : b0 < s.heap.size) (hbA : ¬ A b0) (hM : mM G A s.heap f H locs) (hh : mD G A h H) (hap : mAp f h) (hn : As.length = n) (hsz : ls.size = nL) (hst : st0 = As.reverse ++ rest) (hW : (rest.map fun v => v.category).sum ≤ 8) (hdg : decode cc pc = .ok (.invokestatic index, 3)) (hf : cells + mc ≤ R.cells ∧ slots + ms ≤ R.slots)
    (kk : ∀ (v : Option Value) (f' : mE) (H1 : Heap) (locs1 : List Loc), post v f' → mM G A s.heap f' H1 locs1 → mD G A h H1 → mAp f' h → W p l e R s m args below meth c H1 locs1 (cells + mc) (slots + ms) Q (F0 m (pc + 3) ls (v.toList ++ rest))) : W p l e R s m args below meth c H locs cells slots Q (F0 m pc ls st0) := by
  subst hst
  have hz := hM.2.1
  have hq : H[b0]? = s.heap[b0]? := hM.2.2.1 b0 hbl hbA
  exact mm_after2 (G := G) (f := f) (post := post) (va_runS (As := As) (rest := rest) S (hC H.size) cw ⟨mPreX_blind G f b0 L0 xs H.size _, fun U hU hW => ⟨rfl, mPre_of hK hE hA hM hU hW, va_X.moved hW.alike (by rw [hU]; exact hX.kept hq), Nat.lt_of_lt_of_le hbl hz, fun z => hbA (mA_of hM hA b0 z)⟩⟩ rfl hn hsz rfl (lv_room hW) hdg hf) hA hM hh hap kk
end M3
theorem g_ok {S : Nat → Int32} {n cn : Nat} (hv : VSn S n cn) {r : Nat} (hr : r < 4) {wo : Int32} : ∀ k, k < n → reaB S wo n k (nI r) = true → S (57 + 66 * k + 50) ≠ -100005 ∧ S (57 + 66 * k + 50) ≠ -100006 := fun k hk h => by
  rw [reaB, appB, Bool.and_eq_true, Bool.and_eq_true, Bool.and_eq_true, decide_eq_true_eq] at h
  have h1 := (hv.2.2.2.2.2.1 k hk).2.1 (by
    show S (57 + 66 * k + 49) < nI 10
    rw [h.1.1.2]; exact (nI_ltI (by omega) (by decide)).mpr (by omega))
  exact num_no h1
theorem rea_con {S : Nat → Int32} {n k : Nat} {r : Int32} (h : reaF S n r k = true) : conB S k = true ∧ S (57 + 66 * k + 49) = r := by
  rw [reaF, reaB, appB, Bool.and_eq_true, Bool.and_eq_true, Bool.and_eq_true, decide_eq_true_eq] at h
  exact ⟨h.1.2, h.1.1.2⟩
/-- the answer that the law puts together -/
def InA (S : Nat → Int32) (n : Nat) (r : Int32) (i : Nat) (a : Int32) : Prop := (mS_ S n r = 0 ∧ a = -100005) ∨ ∃ k, k < n ∧ reaF S n r k = true ∧ LoA S n r (S (57 + 66 * k + 50)) i a
theorem InA.step {S : Nat → Int32} {n : Nat} {r a : Int32} {i k : Nat} (h : InA S n r i a) (k1 : k < n) (k2 : reaF S n r k = true) (k3 : rkS S n r k = i) (k4 : S (57 + 66 * k + 50) ≠ -100006) : InA S n r (i + 1) (if S (57 + 66 * k + 50) = a then a else -100006) := by
  rcases h with ⟨e, -⟩ | ⟨k0, q1, q2, h⟩
  · have hb : rkS S n r k < mS_ S n r := rk_bd (R := reaF S n r) (n := n) (firR_ord S) k1 k2
    omega
  · exact Or.inr ⟨k0, q1, q2, h.step k1 k2 k3 k4⟩
theorem InA.fin {S : Nat → Int32} {n cn : Nat} (hv : VSn S n cn) {r : Nat} (hr : r < 4) {a : Int32} (h : InA S n (nI r) (mS_ S n (nI r)) a) : ansI S (-100005) n (nI r) = a := by
  rcases h with ⟨e, e2⟩ | ⟨k0, q1, q2, h⟩
  · rw [ans_no e, e2]
  · exact h.fin (g_ok hv hr) q1 q2
/-- the five ways in which two regions compare -/
theorem cmp_5 {S : Nat → Int32} {n x y : Nat} (h : NES S n) (hx : x < n) (hy : y < n) : (cmpS S x y = 0 ∧ insB S x y = true ∧ allN (lmQ S x y) 7 = true ∧ cmpS S y x = 0) ∨ (cmpS S x y = 1 ∧ insB S x y = true ∧ allN (lmQ S x y) 7 = true ∧ cmpS S y x = 2) ∨ (cmpS S x y = 2 ∧ insB S x y = false ∧ allN (lmQ S x y) 7 = true ∧ cmpS S y x = 1) ∨ (cmpS S x y = 3 ∧ insB S x y = false ∧ allN (lmQ S x y) 7 = true ∧ cmpS S y x = 3) ∨ (cmpS S x y = 4 ∧ insB S x y = false ∧ allN (lmQ S x y) 7 = false ∧ cmpS S y x = 4) := by
  obtain ⟨h1, h2, h3⟩ := cmp_all h hx hy
  have hc : cmpS S x y = 0 ∨ cmpS S x y = 1 ∨ cmpS S x y = 2 ∨ cmpS S x y = 3 ∨ cmpS S x y = 4 := by
    unfold cmpS; (repeat' split) <;> simp
  have f1 : ∀ b : Bool, true = !b → b = false := by decide
  have f2 : ∀ b : Bool, false = !b → b = true := by decide
  rcases hc with e | e | e | e | e <;> rw [e] at h1 h2 h3
  · exact Or.inl ⟨e, h1.symm.trans (by decide), f2 _ (Eq.trans (by decide) h2), h3.trans (by decide)⟩
  · exact Or.inr (Or.inl ⟨e, h1.symm.trans (by decide), f2 _ (Eq.trans (by decide) h2), h3.trans (by decide)⟩)
  · exact Or.inr (Or.inr (Or.inl ⟨e, h1.symm.trans (by decide), f2 _ (Eq.trans (by decide) h2), h3.trans (by decide)⟩))
  · exact Or.inr (Or.inr (Or.inr (Or.inl ⟨e, h1.symm.trans (by decide), f2 _ (Eq.trans (by decide) h2), h3.trans (by decide)⟩)))
  · exact Or.inr (Or.inr (Or.inr (Or.inr ⟨e, h1.symm.trans (by decide), f1 _ (Eq.trans (by decide) h2), h3.trans (by decide)⟩)))
/-- every fact within its values -/
def VFs (S : Nat → Int32) : Prop := ∀ j, j < 7 → valB (nI j) (S j) = true
theorem valB_r {j : Nat} {x : Int32} (h : valB (nI j) x = true) : leastF (nI j) ≤ x ∧ x ≤ greatestF (nI j) := by
  rw [valB, Bool.and_eq_true] at h; exact inB_le h.2
theorem valB_of {j : Nat} (hj : j < 7) {x : Int32} (h1 : leastF (nI j) ≤ x) (h2 : x ≤ greatestF (nI j)) : valB (nI j) x = true := by
  rw [valB, (fac7 hj).1, inB, decide_eq_true h1, decide_eq_true h2]; rfl
theorem leF_gt {j : Nat} (hj : j < 7) : -100005 < leastF (nI j) := Int32.lt_of_lt_of_le (by decide) (lim_lo hj).1
theorem VSn.lim {S : Nat → Int32} {n cn : Nat} (hv : VSn S n cn) : LimV S n := fun i hi j hj => by
  have h := ((hv.2.2.2.2.2.1 i hi).2.2 j hj).2
  have h2 := inB_le h
  exact ⟨Int32.le_trans (lim_lo hj).1 h2.1, Int32.le_trans h2.2 (lim_lo hj).2⟩
theorem sub1_lt {x a : Int32} (h : a ≤ x) (h2 : -9999 ≤ a) : x - nI 1 < x := by
  have h3 : (-9999 : Int) ≤ x.toInt := by have := Int32.le_iff_toInt_le.mp (Int32.le_trans h2 h); simpa using this
  have hx := x.toInt_lt
  rw [Int32.lt_iff_toInt_lt, Int32.toInt_sub, show (nI 1).toInt = 1 from by decide, Int.bmod_eq_of_le (by omega) (by omega)]
  omega
theorem sub1_ge {x a : Int32} (h : a < x) (h2 : -9999 ≤ a) : a ≤ x - nI 1 := by
  have h3 : (-9999 : Int) ≤ a.toInt := by have := Int32.le_iff_toInt_le.mp h2; simpa using this
  have h4 := Int32.lt_iff_toInt_lt.mp h
  have hx := x.toInt_lt
  rw [Int32.le_iff_toInt_le, Int32.toInt_sub, show (nI 1).toInt = 1 from by decide, Int.bmod_eq_of_le (by omega) (by omega)]
  omega
theorem leF4 {j : Nat} (hj : j < 7) : (j < 4 → leastF (nI j) = -9999 ∧ greatestF (nI j) = nI 9999) ∧ (4 ≤ j → leastF (nI j) = nI 0 ∧ greatestF (nI j) = nI 73048) := by
  have : j = 0 ∨ j = 1 ∨ j = 2 ∨ j = 3 ∨ j = 4 ∨ j = 5 ∨ j = 6 := by omega
  rcases this with rfl | rfl | rfl | rfl | rfl | rfl | rfl <;> decide
