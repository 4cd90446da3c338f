/-! TWO MEMORIES side by side: what a call does in one leaves the other as it is -/
def mAp (f h : mE) : Prop := ∀ a e, f a = some e → h a = none
theorem mAp.symm {f h : mE} (H : mAp f h) : mAp h f := fun a e ha => by
  cases hf : f a with
  | none => rfl
  | some u => rw [H a u hf] at ha; cases ha
theorem nodup_of_D {A : Nat → Prop} {L : List Nat} {f : Nat → va_E} (h : va_D A (va_pl L f)) : L.Nodup := by
  rw [List.nodup_iff_pairwise_ne, List.pairwise_iff_getElem]
  intro i j hi hj hij e
  have h1 : (va_pl L f)[i]? = some (L[i], f L[i]) := by simp [va_pl, List.getElem?_map, List.getElem?_eq_getElem hi]
  have h2 : (va_pl L f)[j]? = some (L[j], f L[j]) := by simp [va_pl, List.getElem?_map, List.getElem?_eq_getElem hj]
  have := h.1 i j _ _ h1 h2 e
  omega
theorem mD.restrict {G : mG} {A : Nat → Prop} {f : mE} {H : Heap} (h : mD G A f H) (p : Nat → Bool) : mD G A (fun a => if p a = true then f a else none) H := by
  obtain ⟨L, hL, hP, hD⟩ := h
  have hn := nodup_of_D hD
  have at' : ∀ (k : Nat) (q : Nat × va_E), (va_pl (L.filter p) (mgf (fun a => if p a = true then f a else none)))[k]? = some q → (L.filter p)[k]? = some q.1 ∧ ∃ j : Nat, (va_pl L (mgf f))[j]? = some q := by
    intro k q hq
    simp only [va_pl, List.getElem?_map] at hq
    cases hb : (L.filter p)[k]? with
    | none => rw [hb] at hq; cases hq
    | some b =>
      rw [hb] at hq
      have e := Option.some.inj hq
      have hm : b ∈ L.filter p := List.mem_of_getElem? hb
      obtain ⟨h1, h2⟩ := List.mem_filter.mp hm
      have e2 : mgf (fun a => if p a = true then f a else none) b = mgf f b := by simp [mgf, h2]
      refine ⟨by rw [← e], ?_⟩
      obtain ⟨j, hj⟩ := va_pl_get (X := []) (f := mgf f) h1
      exact ⟨j, by rw [← e]; show _ = some (b, mgf (fun a => if p a = true then f a else none) b); rw [e2]; exact hj⟩
  refine ⟨L.filter p, fun a => ?_, fun k q hq => ?_, fun i j x y hx hy e => ?_, fun k q hq => ?_⟩
  · rw [List.mem_filter, hL a]
    constructor
    · rintro ⟨⟨e, he⟩, hp⟩; exact ⟨e, by show (if p a = true then f a else none) = some e; rw [if_pos hp]; exact he⟩
    · rintro ⟨e, he⟩
      have he : (if p a = true then f a else none) = some e := he
      by_cases hp : p a = true
      · rw [if_pos hp] at he; exact ⟨⟨e, he⟩, hp⟩
      · rw [if_neg hp] at he; cases he
  · obtain ⟨-, j, hj⟩ := at' k q hq; exact hP j q hj
  · have h1 := (at' i x hx).1
    have h2 := (at' j y hy).1
    have hnf : (L.filter p).Nodup := List.Pairwise.filter p hn
    exact (List.getElem?_inj (List.getElem?_eq_some_iff.mp h1).1 hnf).mp (by rw [h1, h2, e])
  · obtain ⟨-, j, hj⟩ := at' k q hq; exact hD.2 j q hj
theorem mD.empty (G : mG) (A : Nat → Prop) (H : Heap) : mD G A (fun _ => none) H :=
  ⟨[], fun a => ⟨fun h => absurd h List.not_mem_nil, fun ⟨e, h⟩ => by cases h⟩, fun k q h => by simp [va_pl] at h, fun i j p q h => by simp [va_pl] at h, fun k q h => by simp [va_pl] at h⟩
/-- a new cell, taken apart from what was there -/
theorem mD.split {G : mG} {A : Nat → Prop} {f : mE} {H : Heap} {q : Nat} {e : va_E} (h : mD G A (va_up f q (some e)) H) (hq : f q = none) : mD G A f H ∧ mD G A (va_up (fun _ => none) q (some e)) H ∧ mAp (va_up (fun _ => none) q (some e)) f := by
  refine ⟨?_, ?_, ?_⟩
  · have h1 := h.restrict (fun a => !decide (a = q))
    have e1 : (fun a => if (!decide (a = q)) = true then va_up f q (some e) a else none) = f := by
      funext a
      by_cases ha : a = q
      · subst ha; simp [hq]
      · simp [ha, va_up]
    rw [e1] at h1; exact h1
  · have h1 := h.restrict (fun a => decide (a = q))
    have e1 : (fun a => if (decide (a = q)) = true then va_up f q (some e) a else none) = va_up (fun _ => none) q (some e) := by
      funext a
      by_cases ha : a = q
      · subst ha; simp [va_up]
      · simp [ha, va_up]
    rw [e1] at h1; exact h1
  · intro a u ha
    by_cases haq : a = q
    · subst haq; exact hq
    · rw [va_up_ne _ _ haq] at ha; cases ha
section M2
variable {p : Program} {l : Launch} {e : Env} {R : Room} {s : State} {m : MethodId} {args : Array Value} {below : List Frame} {meth : Method} {c : Code} {H : Heap} {locs : List Loc} {cells slots : Nat} {Q : State → Prop}
variable {cc : ByteArray} {pc : Nat} {ls : Array Slot} {rest : List Value} {A : Nat → Prop} {a : Nat} {H0 : Heap} {G : mG} {f h : mE}
variable {y : MethodName} {bytes : ByteArray} {maxL nL mc ms n index : Nat} {ret : Option FieldType} {ws : List Cond} {rm : Room} {Ts : List Cond} {own C host : String} {b : Addr} {As : List Value} {st0 : List Value} {post : Option Value → mE → Prop}
theorem mm_after2 (hr : va_Run p l e R s m args below meth c H locs cells slots mc ms (F0 m pc ls st0) rest (mQc G (mA f H.size) post args) (mA f H.size)) (hA : ∀ q, H0.size ≤ q → A q) (hM : mM G A H0 f H locs) (hh : mD G A h H) (hap : mAp f h)
    (kk : ∀ (v : Option Value) (f' : mE) (H1 : Heap) (locs1 : List Loc), post v f' → mM G A H0 f' H1 locs1 → mD G A h H1 → mAp f' h → W p l e R s m args below meth c H1 locs1 (cells + mc) (slots + ms) Q (F0 m (pc + 3) ls (v.toList ++ rest))) : W p l e R s m args below meth c H locs cells slots Q (F0 m pc ls st0) := by
  have hF := mA_of hM hA
  intro T hT X
  obtain ⟨v, st₀, t, T', L, h0, X', hL, e1, e2, ⟨⟨v', f', hv, hp, hd⟩, hz, hk⟩, st⟩ := hr T hT X
  cases hv
  rw [h0] at hz hk
  have hout : ∀ q u, h q = some u → q < H.size ∧ ¬ mA f H.size q := by
    intro q u hq
    have hl := hh.lt hq
    refine ⟨hl, fun z => ?_⟩
    rcases z with ⟨u2, hu⟩ | z
    · rw [hap q u2 hu] at hq; cases hq
    · exact absurd hl (Nat.not_lt.mpr z)
  obtain ⟨t2, a1, b1⟩ := kk v f' T'.heap (locs ++ L) hp ⟨by rw [e1]; exact hd.weaken (fun a e he => hF a (hd.inA he)), Nat.le_trans hM.2.1 (by rw [e1]; exact hz), fun q h1 h2 => by
      rw [e1, hk q (Nat.lt_of_lt_of_le h1 hM.2.1) (fun z => h2 (hF q z))]; exact hM.2.2.1 q h1 h2, fun q hq => by
      rcases List.mem_append.mp hq with h | h
      · exact hM.2.2.2 q h
      · exact hF _ (hL q h)⟩ (by rw [e1]; exact hh.kept (fun q u hq => hk q (hout q u hq).1 (hout q u hq).2)) (fun q u hq => by
      cases hc : h q with
      | none => rfl
      | some u2 => exact absurd (hd.inA hq) (hout q u2 hc).2) T' rfl X'
  exact ⟨t2, st t2 a1, b1⟩
theorem mm_V2 (S : CallFix p m c cc nL s args Ts own) (hC : mC l G y ws rm f (.ref b :: As) post mc ms) (cw : CallW R s args own C index y bytes maxL ret ws rm mc ms n) (hK : va_K G.1 vwCl (mT G) s) (hE : mS G A s s.heap) (hA : ∀ q, s.heap.size ≤ q → A q) (hM : mM G A s.heap f H locs) (hh : mD G A h H) (hap : mAp f h) (hrec : ∃ cell : Cell, H[b]? = some cell ∧ cell.vm.isStatics = false ∧ s.vm.findClass C = some cell.cls) (hn : As.length = n) (hsz : ls.size = nL) (hst : st0 = As.reverse ++ .ref b :: rest) (hW : (rest.map fun v => v.category).sum ≤ 8) (hdg : decode cc pc = .ok (.invokevirtual index, 3)) (hf : cells + mc ≤ R.cells ∧ slots + ms ≤ R.slots)
    (kk : ∀ (v : Option Value) (f' : mE) (H1 : Heap) (locs1 : List Loc), post v f' → mM G A s.heap f' H1 locs1 → mD G A h H1 → mAp f' h → W p l e R s m args below meth c H1 locs1 (cells + mc) (slots + ms) Q (F0 m (pc + 3) ls (v.toList ++ rest))) : W p l e R s m args below meth c H locs cells slots Q (F0 m pc ls st0) := by
  subst hst
  exact mm_after2 (G := G) (f := f) (post := post) (va_runV (As := As) (rest := rest) (b := b) S (hC H.size) cw ⟨mPre_blind G f H.size _, hrec, fun U hU hW => ⟨rfl, mPre_of hK hE hA hM hU hW⟩⟩ rfl hn hsz rfl (lv_room hW) hdg hf) hA hM hh hap kk
theorem mm_I2 (S : CallFix p m c cc nL s args Ts own) (hC : mC l G y ws rm f (.ref b :: As) post mc ms) (cw : CallB R s args own index y bytes maxL none ws rm mc ms n ∧ y.name = "<init>" ∧ (Cond.instanceMethod y).before args s = true) (hK : va_K G.1 vwCl (mT G) s) (hE : mS G A s s.heap) (hA : ∀ q, s.heap.size ≤ q → A q) (hM : mM G A s.heap f H locs) (hh : mD G A h H) (hap : mAp f h) (hn : As.length = n) (hsz : ls.size = nL) (hst : st0 = As.reverse ++ .ref b :: rest) (hW : (rest.map fun v => v.category).sum ≤ 8) (hdg : decode cc pc = .ok (.invokespecial index, 3)) (hf : cells + mc ≤ R.cells ∧ slots + ms ≤ R.slots)
    (kk : ∀ (v : Option Value) (f' : mE) (H1 : Heap) (locs1 : List Loc), post v f' → mM G A s.heap f' H1 locs1 → mD G A h H1 → mAp f' h → W p l e R s m args below meth c H1 locs1 (cells + mc) (slots + ms) Q (F0 m (pc + 3) ls (v.toList ++ rest))) : W p l e R s m args below meth c H locs cells slots Q (F0 m pc ls st0) := by
  subst hst
  exact mm_after2 (G := G) (f := f) (post := post) (va_runI (As := As) (rest := rest) (b := b) S (hC H.size) cw ⟨mPre_blind G f H.size _, fun U hU hW => ⟨rfl, mPre_of hK hE hA hM hU hW⟩⟩ rfl hn hsz rfl (lv_room hW) hdg hf) hA hM hh hap kk
/-! inherited and super calls -/
theorem mm_U {x : MethodName} {owner : String} (S : CallFix p m c cc nL s args Ts own) (hC : mC l G y ws rm f (.ref b :: As) post mc ms) (cw : va_CU R s args own C owner index x y bytes maxL ret ws rm mc ms n) (hK : va_K G.1 vwCl (mT G) s) (hE : mS G A s s.heap) (hA : ∀ q, s.heap.size ≤ q → A q) (hM : mM G A s.heap f H locs) (hrec : ∃ cell : Cell, H[b]? = some cell ∧ cell.vm.isStatics = false ∧ s.vm.findClass C = some cell.cls) (hn : As.length = n) (hsz : ls.size = nL) (hst : st0 = As.reverse ++ .ref b :: rest) (hW : (rest.map fun v => v.category).sum ≤ 8) (hdg : decode cc pc = .ok (.invokevirtual index, 3)) (hf : cells + mc ≤ R.cells ∧ slots + ms ≤ R.slots)
    (kk : ∀ (v : Option Value) (f' : mE) (H1 : Heap) (locs1 : List Loc), post v f' → mM G A s.heap f' H1 locs1 → W p l e R s m args below meth c H1 locs1 (cells + mc) (slots + ms) Q (F0 m (pc + 3) ls (v.toList ++ rest))) : W p l e R s m args below meth c H locs cells slots Q (F0 m pc ls st0) := by
  subst hst
  exact mm_after (G := G) (f := f) (post := post) (va_runU (As := As) (rest := rest) (b := b) S (hC H.size) cw ⟨mPre_blind G f H.size _, hrec, fun U hU hW => ⟨rfl, mPre_of hK hE hA hM hU hW⟩⟩ rfl hn hsz rfl (lv_room hW) hdg hf) hA hM kk
theorem mm_SU {cC : ClassId} (hat : ClassAt s C cC) (S : CallFix p m c cc nL s args Ts own) (hC : mC l G y ws rm f (.ref b :: As) post mc ms) (cw : va_CS R s args own index y bytes maxL ret ws rm mc ms n) (hK : va_K G.1 vwCl (mT G) s) (hE : mS G A s s.heap) (hA : ∀ q, s.heap.size ≤ q → A q) (hM : mM G A s.heap f H locs) (hrec : ∃ cell : Cell, H[b]? = some cell ∧ cell.vm.isStatics = false ∧ s.vm.findClass C = some cell.cls) (hn : As.length = n) (hsz : ls.size = nL) (hst : st0 = As.reverse ++ .ref b :: rest) (hW : (rest.map fun v => v.category).sum ≤ 8) (hdg : decode cc pc = .ok (.invokespecial index, 3)) (hf : cells + mc ≤ R.cells ∧ slots + ms ≤ R.slots)
    (kk : ∀ (v : Option Value) (f' : mE) (H1 : Heap) (locs1 : List Loc), post v f' → mM G A s.heap f' H1 locs1 → W p l e R s m args below meth c H1 locs1 (cells + mc) (slots + ms) Q (F0 m (pc + 3) ls (v.toList ++ rest))) : W p l e R s m args below meth c H locs cells slots Q (F0 m pc ls st0) := by
  subst hst
  exact mm_after (G := G) (f := f) (post := post) (va_runSU (As := As) (rest := rest) (b := b) hat S (hC H.size) cw ⟨mPre_blind G f H.size _, hrec, fun U hU hW => ⟨rfl, mPre_of hK hE hA hM hU hW⟩⟩ rfl hn hsz rfl (lv_room hW) hdg hf) hA hM kk
/-! bytes -/
theorem mm_bast (hx : p.tables.exec = Jvm.exec) (hb : c.code = cc) (hK : va_K G.1 vwCl (mT G) s) (hM : mM G A H0 f H locs) {n : Nat} {g : Nat → Int32} (hf : f a = some (mB G n g)) (k : Nat) {x : Int32} (hnb : vp_nar .byte x = x) (hin : k < n) (hn : n ≤ 65536) (hdg : decode cc pc = .ok (.bastore, 1))
    (kk : ∀ (H1 : Heap) (locs1 : List Loc), mM G A H0 (va_up f a (some (mB G n (upd g k x)))) H1 locs1 → W p l e R s m args below meth c H1 locs1 cells slots Q (F0 m (pc + 1) ls rest)) : W p l e R s m args below meth c H locs cells slots Q (F0 m pc ls (.int x :: .int (nI k) :: .ref a :: rest)) := by
  obtain ⟨L, k0, hL, hP, hD, ha, hk⟩ := hM.1.get hf
  refine va_bast hx hb hK hP hD hM.2 k0 1 hk rfl (vp_in_nI hin (by omega)) hdg (fun H1 locs1 h1 h2 h3 => ?_)
  have h4 := mD.set hL hD ha hk h1 h2
  rw [nI_clamp (by omega), hnb] at h4
  exact kk H1 locs1 ⟨h4, h3⟩
theorem mm_gets_q (hx : p.tables.exec = Jvm.exec) (hb : c.code = cc) {C n d own ref : String} {index : Nat} (hZ : va_Zq C n d A s s.heap) (hM : mM G A s.heap f H locs) (hown : s.vm.findClass own = some m.cls) (hlink : (Cond.fieldLink own index ref n d).before args s = true) (hsame : ∀ x, s.fieldFound? C n d = some x → s.fieldFound? ref n d = some x) (hdg : decode cc pc = .ok (.getstatic index, 3))
    (kk : ∀ r : Option Nat, W p l e R s m args below meth c H locs cells slots Q (F0 m (pc + 3) ls (va_rf r :: rest))) : W p l e R s m args below meth c H locs cells slots Q (F0 m pc ls rest) := by
  rcases hZ with h | ⟨t, h⟩
  · exact va_gets hx hb h hM.2 hown hlink hsame hdg (kk none)
  · exact va_gets hx hb h hM.2 hown hlink hsame hdg (kk (some t))
theorem mm_copyB {a0 n0 n1 : Nat} {g0 g : Nat → Int32} (hx : p.tables.exec = Jvm.exec) (hb : c.code = cc) (hml : c.maxLocals = ls.size) (hown : s.vm.findClass own = some m.cls) (hlink : (Cond.methodLink own index arraycopyName).before args s = true) (hnat : (Cond.native arraycopyName).before args s = true) (hstat : (Cond.static arraycopyName).before args s = true) (hini : (Cond.initialized "java/lang/System").before args s = true)
    (hK : va_K G.1 vwCl (mT G) s) (hM : mM G A H0 f H locs) (h0 : f a0 = some (mB G n0 g0)) (h1 : f a = some (mB G n1 g)) (hfit : sb_Fit g0) (sp dp n : Nat) (hs : sp + n ≤ n0) (hd : dp + n ≤ n1) (hn0 : n0 ≤ 65536) (hn1 : n1 ≤ 65536)
    (hframes : 1 ≤ R.frames) (hrs : (rest.map fun v => v.category).sum ≤ 8) (hlocals : 26 ≤ R.locals) (hdg : decode cc pc = .ok (.invokestatic index, 3))
    (kk : ∀ (H1 : Heap) (locs1 : List Loc), mM G A H0 (va_up f a (some (mB G n1 (va_cpy g0 g sp dp n)))) H1 locs1 → W p l e R s m args below meth c H1 locs1 cells slots Q (F0 m (pc + 3) ls rest)) : W p l e R s m args below meth c H locs cells slots Q (F0 m pc ls (.int (nI n) :: .int (nI dp) :: .ref a :: .int (nI sp) :: .ref a0 :: rest)) := by
  obtain ⟨L, k, hL, hP, hD, ha, hk⟩ := hM.1.get h1
  have ha0 := (hL a0).mpr ⟨_, h0⟩
  obtain ⟨k0, hk0⟩ := va_pl_get (X := []) (f := mgf f) ha0
  have hg0 : mgf f a0 = mB G n0 g0 := by simp [mgf, h0]
  rw [hg0] at hk0
  have cs : (nI sp).toNatClampNeg = sp := nI_clamp (by omega)
  have cd : (nI dp).toNatClampNeg = dp := nI_clamp (by omega)
  have cn : (nI n).toNatClampNeg = n := nI_clamp (by omega)
  refine va_copyi hx hb hml hown hlink hnat hstat hini hK hP hD hM.2 k0 k 1 1 hk0 hk (ty := .byte) rfl rfl rfl (nI_pos (by omega)) (nI_pos (by omega)) (nI_pos (by omega)) (by rw [cs, cn]; exact hs) (by rw [cd, cn]; exact hd) (fun i _ => hfit _) hframes (by rw [nfw]; omega) hdg (fun H1 locs1 q1 q2 q3 => ?_)
  rw [cs, cd, cn] at q1 q2
  exact kk H1 locs1 ⟨mD.set hL hD ha hk q1 q2, q3⟩
theorem mm_copyT {b0 n0 n1 : Nat} {g0 g : Nat → Int32} (hx : p.tables.exec = Jvm.exec) (hb : c.code = cc) (hml : c.maxLocals = ls.size) (hown : s.vm.findClass own = some m.cls) (hlink : (Cond.methodLink own index arraycopyName).before args s = true) (hnat : (Cond.native arraycopyName).before args s = true) (hstat : (Cond.static arraycopyName).before args s = true) (hini : (Cond.initialized "java/lang/System").before args s = true)
    (hK : va_K G.1 vwCl (mT G) s) (hM : mM G A s.heap f H locs) (hX : va_T .byte b0 n0 (fun j => .int (g0 j)) A s s.heap) (h1 : f a = some (mB G n1 g)) (sp dp n : Nat) (hfit : ∀ i, i < n → fits .byte (.int (g0 (sp + i))) = true) (hs : sp + n ≤ n0) (hd : dp + n ≤ n1) (hn0 : n0 ≤ 65536) (hn1 : n1 ≤ 65536)
    (hframes : 1 ≤ R.frames) (hrs : (rest.map fun v => v.category).sum ≤ 8) (hlocals : 26 ≤ R.locals) (hdg : decode cc pc = .ok (.invokestatic index, 3))
    (kk : ∀ (H1 : Heap) (locs1 : List Loc), mM G A s.heap (va_up f a (some (mB G n1 (va_cpy g0 g sp dp n)))) H1 locs1 → W p l e R s m args below meth c H1 locs1 cells slots Q (F0 m (pc + 3) ls rest)) : W p l e R s m args below meth c H locs cells slots Q (F0 m pc ls (.int (nI n) :: .int (nI dp) :: .ref a :: .int (nI sp) :: .ref b0 :: rest)) := by
  obtain ⟨L, k, hL, hP, hD, ha, hk⟩ := hM.1.get h1
  have cs : (nI sp).toNatClampNeg = sp := nI_clamp (by omega)
  have cd : (nI dp).toNatClampNeg = dp := nI_clamp (by omega)
  have cn : (nI n).toNatClampNeg = n := nI_clamp (by omega)
  refine vk_copyt hx hb hml hown hlink hnat hstat hini hK hP hD hM.2 hX k 1 hk rfl (nI_pos (by omega)) (nI_pos (by omega)) (nI_pos (by omega)) (by rw [cs, cn]; exact hs) (by rw [cd, cn]; exact hd) (fun i hi => by rw [cn] at hi; rw [cs]; exact hfit i hi) hframes (by rw [nfw]; omega) hdg (fun H1 locs1 q1 q2 q3 => ?_)
  rw [cs, cd, cn] at q1 q2
  exact kk H1 locs1 ⟨mD.set hL hD ha hk q1 q2, q3⟩
theorem W_cast {k1 k2 s1 s2 : Nat} {Q : State → Prop} {g : JFrame} (h1 : k1 = k2) (h2 : s1 = s2) (h : W p l e R s m args below meth c H locs k2 s2 Q g) : W p l e R s m args below meth c H locs k1 s1 Q g := by subst h1; subst h2; exact h
end M2
theorem mC.ofF {l : Launch} {G : mG} {y : MethodName} {ws ws' : List Cond} {rm : Room} {f : mE} {av : List Value} {post : Option Value → mE → Prop} {mc ms : Nat} {cc : ByteArray} {maxL : Nat} {ret : Option FieldType} (hy : plainFor y = true) (hw : ws = Cond.code y cc maxL ret :: ws') (hlen : (lg_sl av).length ≤ maxL)
    (body : ∀ (p : Program) (e : Env) (s : State) (m : MethodId) (args : Array Value) (below : List Frame) (meth : Method) (c : Code) (A : Nat → Prop) (ls : Array Slot), p.tables.exec = Jvm.exec → c.code = cc → c.maxLocals = maxL → meth.sig.returnType = ret → meth.locks = false → s.vm.findClass y.cls = some m.cls → meth.name = y.name → (∀ w ∈ ws, w.before args s = true) → va_K G.1 vwCl (mT G) s → mS G A s s.heap → (∀ q, s.heap.size ≤ q → A q) → mM G A s.heap f s.heap [] → lv_has ls maxL (lv_args 0 av) →
      W p l e rm s m args below meth c s.heap [] 0 0 (MQ below (mQc G A post) args s mc ms A) (F0 m 0 ls [])) : mC l G y ws rm f av post mc ms := by
  intro sz
  refine va_MetF (cc := cc) (maxL := maxL) (ret := ret) hy hw ?_
  intro p e s m args below meth c s₁ B hml hv
  obtain ⟨rfl, hsz, hD, hK, hE⟩ := hv
  subst hsz
  have hl := lv_entry av (n := maxL) hlen
  rw [lg_entry_eq]
  exact body p e s m _ below meth c _ _ B.exec B.bytes hml B.returns B.notSynchronized (findClass_of_methodNamed B.named) (name_of_methodNamed B.named B.method).1 (atoms_spec (ws := ws) B.pre) hK hE (fun q h => Or.inr h) ⟨hD, va_S.rf⟩ hl

