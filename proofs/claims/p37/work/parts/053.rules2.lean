/-! rows of references: made, and written -/
theorem mD.get2 {G : mG} {A : Nat → Prop} {f : mE} {H : Heap} (h : mD G A f H) {a v : Nat} {e u : va_E} (hf : f a = some e) (hv : f v = some u) :
    ∃ (L : List Nat) (k j : Nat), (∀ a, a ∈ L ↔ ∃ e, f a = some e) ∧ va_P G.1 vwCl (va_pl L (mgf f)) H ∧ va_D A (va_pl L (mgf f)) ∧ a ∈ L ∧ (va_pl L (mgf f))[k]? = some (a, e) ∧ (va_pl L (mgf f))[j]? = some (v, u) := by
  obtain ⟨L, hL, hP, hD⟩ := h
  have ha := (hL a).mpr ⟨e, hf⟩
  have hb := (hL v).mpr ⟨u, hv⟩
  obtain ⟨k, hk⟩ := va_pl_get (X := []) (f := mgf f) ha
  obtain ⟨j, hj⟩ := va_pl_get (X := []) (f := mgf f) hb
  have hg : mgf f a = e := by simp [mgf, hf]
  have hg2 : mgf f v = u := by simp [mgf, hv]
  rw [hg] at hk
  rw [hg2] at hj
  exact ⟨L, k, j, hL, hP, hD, ha, hk, hj⟩
section MQR
variable {p : Program} {l : Launch} {e : Env} {R : Room} {s : State} {m : MethodId} {args : Array Value} {below : List Frame} {meth : Method} {c : Code} {H : Heap} {locs : List Loc} {cells slots : Nat} {Q : State → Prop}
variable {cc : ByteArray} {pc : Nat} {ls : Array Slot} {rest : List Value} {A : Nat → Prop} {a : Nat} {H0 : Heap} {G : mG} {f : mE}
theorem mm_astS (hx : p.tables.exec = Jvm.exec) (hb : c.code = cc) (hK : va_K G.1 vwCl (mT G) s) (hM : mM G A H0 f H locs) {n v : Nat} {vs : List Value} {g : Nat → Option Nat} (hf : f a = some (mQ G 2 n g)) (hv : f v = some (.inr (3, vs))) (k : Nat) (hin : k < n) (hn : n ≤ 65536) (hdg : decode cc pc = .ok (.aastore, 1))
    (kk : ∀ (H1 : Heap) (locs1 : List Loc), mM G A H0 (va_up f a (some (mQ G 2 n (va_up g k (some v))))) H1 locs1 → W p l e R s m args below meth c H1 locs1 cells slots Q (F0 m (pc + 1) ls rest)) : W p l e R s m args below meth c H locs cells slots Q (F0 m pc ls (.ref v :: .int (nI k) :: .ref a :: rest)) := by
  obtain ⟨L, q, j, hL, hP, hD, ha, hk, hj⟩ := hM.1.get2 hf hv
  refine va_astq hx hb hK hP hD hM.2 q 2 j 3 hk rfl hj rfl (vp_in_nI hin (by omega)) hdg (fun H1 locs1 h1 h2 h3 => ?_)
  have h4 := mD.set hL hD ha hk h1 h2
  rw [nI_clamp (by omega)] at h4
  exact kk H1 locs1 ⟨h4, h3⟩
theorem mm_astT (hx : p.tables.exec = Jvm.exec) (hb : c.code = cc) (hK : va_K G.1 vwCl (mT G) s) (hM : mM G A H0 f H locs) {n v : Nat} {vs : List Value} {g : Nat → Option Nat} (hf : f a = some (mQ G 3 n g)) (hv : f v = some (.inr (4, vs))) (k : Nat) (hin : k < n) (hn : n ≤ 65536) (hdg : decode cc pc = .ok (.aastore, 1))
    (kk : ∀ (H1 : Heap) (locs1 : List Loc), mM G A H0 (va_up f a (some (mQ G 3 n (va_up g k (some v))))) H1 locs1 → W p l e R s m args below meth c H1 locs1 cells slots Q (F0 m (pc + 1) ls rest)) : W p l e R s m args below meth c H locs cells slots Q (F0 m pc ls (.ref v :: .int (nI k) :: .ref a :: rest)) := by
  obtain ⟨L, q, j, hL, hP, hD, ha, hk, hj⟩ := hM.1.get2 hf hv
  refine va_astq hx hb hK hP hD hM.2 q 3 j 4 hk rfl hj rfl (vp_in_nI hin (by omega)) hdg (fun H1 locs1 h1 h2 h3 => ?_)
  have h4 := mD.set hL hD ha hk h1 h2
  rw [nI_clamp (by omega)] at h4
  exact kk H1 locs1 ⟨h4, h3⟩
theorem mm_astSN (hx : p.tables.exec = Jvm.exec) (hb : c.code = cc) (hK : va_K G.1 vwCl (mT G) s) (hM : mM G A H0 f H locs) {n : Nat} {g : Nat → Option Nat} (hf : f a = some (mQ G 2 n g)) (k : Nat) (hin : k < n) (hn : n ≤ 65536) (hdg : decode cc pc = .ok (.aastore, 1))
    (kk : ∀ (H1 : Heap) (locs1 : List Loc), mM G A H0 (va_up f a (some (mQ G 2 n (va_up g k none)))) H1 locs1 → W p l e R s m args below meth c H1 locs1 cells slots Q (F0 m (pc + 1) ls rest)) : W p l e R s m args below meth c H locs cells slots Q (F0 m pc ls (.null :: .int (nI k) :: .ref a :: rest)) := by
  obtain ⟨L, q, hL, hP, hD, ha, hk⟩ := hM.1.get hf
  refine va_astqN hx hb hK hP hD hM.2 q 2 hk rfl (vp_in_nI hin (by omega)) hdg (fun H1 locs1 h1 h2 h3 => ?_)
  have h4 := mD.set hL hD ha hk h1 h2
  rw [nI_clamp (by omega)] at h4
  exact kk H1 locs1 ⟨h4, h3⟩
theorem mm_astTN (hx : p.tables.exec = Jvm.exec) (hb : c.code = cc) (hK : va_K G.1 vwCl (mT G) s) (hM : mM G A H0 f H locs) {n : Nat} {g : Nat → Option Nat} (hf : f a = some (mQ G 3 n g)) (k : Nat) (hin : k < n) (hn : n ≤ 65536) (hdg : decode cc pc = .ok (.aastore, 1))
    (kk : ∀ (H1 : Heap) (locs1 : List Loc), mM G A H0 (va_up f a (some (mQ G 3 n (va_up g k none)))) H1 locs1 → W p l e R s m args below meth c H1 locs1 cells slots Q (F0 m (pc + 1) ls rest)) : W p l e R s m args below meth c H locs cells slots Q (F0 m pc ls (.null :: .int (nI k) :: .ref a :: rest)) := by
  obtain ⟨L, q, hL, hP, hD, ha, hk⟩ := hM.1.get hf
  refine va_astqN hx hb hK hP hD hM.2 q 3 hk rfl (vp_in_nI hin (by omega)) hdg (fun H1 locs1 h1 h2 h3 => ?_)
  have h4 := mD.set hL hD ha hk h1 h2
  rw [nI_clamp (by omega)] at h4
  exact kk H1 locs1 ⟨h4, h3⟩
theorem mm_newS (hx : p.tables.exec = Jvm.exec) (hb : c.code = cc) {own : String} {index : Nat} (hown : s.vm.findClass own = some m.cls) (hclink : (Cond.classLink own index "SentenceRules$Sentence").before args s = true) (hE : mS G A s s.heap) (hK : va_K G.1 vwCl (mT G) s) (hM : mM G A H0 f H locs) (hA : ∀ q, H0.size ≤ q → A q)
    {n : Int32} (N' : Nat) (hn : ¬ n < 0) (hN : n.toNatClampNeg = N') (hbytes : N' * 4 ≤ 536870912) (hcells : cells + 1 ≤ R.cells) (hslots : slots + N' ≤ R.slots) (hdg : decode cc pc = .ok (.anewarray index, 3))
    (kk : ∀ (q : Nat) (H1 : Heap), f q = none → mM G A H0 (va_up f q (some (mQ G 2 N' (fun _ => none)))) H1 locs →
      W p l e R s m args below meth c H1 locs (cells + 1) (slots + N') Q (F0 m (pc + 3) ls (.ref q :: rest))) : W p l e R s m args below meth c H locs cells slots Q (F0 m pc ls (.int n :: rest)) := by
  obtain ⟨⟨L, hL, hP, hD⟩, hS⟩ := hM
  refine va_newq (C := "SentenceRules$Sentence") hx hb hown hclink hE.1.2.2.1 hK hP hD hS hA hn hN hbytes hcells hslots hdg (fun q cA H1 hK1 h1 h2 h3 => ?_)
  obtain ⟨_, _, _, _, _, _, e0⟩ := hK1.2 2 _ rfl
  obtain ⟨_, _, _, _, _, _, e1⟩ := hK1.2 4 _ rfl
  have e2 : cA = G.2.1 2 := Option.some.inj (e1.symm.trans e0)
  subst e2
  exact kk q H1 (mD.push (G := G) hL h1 h2).2 ⟨(mD.push (G := G) hL h1 h2).1, h3⟩
theorem mm_newT (hx : p.tables.exec = Jvm.exec) (hb : c.code = cc) {own : String} {index : Nat} (hown : s.vm.findClass own = some m.cls) (hclink : (Cond.classLink own index "SentenceRules$State").before args s = true) (hE : mS G A s s.heap) (hK : va_K G.1 vwCl (mT G) s) (hM : mM G A H0 f H locs) (hA : ∀ q, H0.size ≤ q → A q)
    {n : Int32} (N' : Nat) (hn : ¬ n < 0) (hN : n.toNatClampNeg = N') (hbytes : N' * 4 ≤ 536870912) (hcells : cells + 1 ≤ R.cells) (hslots : slots + N' ≤ R.slots) (hdg : decode cc pc = .ok (.anewarray index, 3))
    (kk : ∀ (q : Nat) (H1 : Heap), f q = none → mM G A H0 (va_up f q (some (mQ G 3 N' (fun _ => none)))) H1 locs →
      W p l e R s m args below meth c H1 locs (cells + 1) (slots + N') Q (F0 m (pc + 3) ls (.ref q :: rest))) : W p l e R s m args below meth c H locs cells slots Q (F0 m pc ls (.int n :: rest)) := by
  obtain ⟨⟨L, hL, hP, hD⟩, hS⟩ := hM
  refine va_newq (C := "SentenceRules$State") hx hb hown hclink hE.1.2.2.2.1 hK hP hD hS hA hn hN hbytes hcells hslots hdg (fun q cA H1 hK1 h1 h2 h3 => ?_)
  obtain ⟨_, _, _, _, _, _, e0⟩ := hK1.2 3 _ rfl
  obtain ⟨_, _, _, _, _, _, e1⟩ := hK1.2 4 _ rfl
  have e2 : cA = G.2.1 3 := Option.some.inj (e1.symm.trans e0)
  subst e2
  exact kk q H1 (mD.push (G := G) hL h1 h2).2 ⟨(mD.push (G := G) hL h1 h2).1, h3⟩
end MQR

