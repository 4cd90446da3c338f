/-! MEMORY: a partial map from addresses to what the cells hold; rows of the kit over it -/
abbrev mE : Type := Nat → Option va_E
abbrev mG : Type := va_G × (Nat → ClassId) × (Nat → Nat)
def mT (G : mG) : List (ClassId × FieldType) := [(G.2.1 0, .int), (G.2.1 1, .byte), (G.2.1 2, .object "SentenceRules$Sentence"), (G.2.1 3, .object "SentenceRules$State")]
def mgf (f : mE) : Nat → va_E := fun a => (f a).getD (.inr (0, []))
def mD (G : mG) (A : Nat → Prop) (f : mE) (H : Heap) : Prop := ∃ L : List Nat, (∀ a, a ∈ L ↔ ∃ e, f a = some e) ∧ va_P G.1 vwCl (va_pl L (mgf f)) H ∧ va_D A (va_pl L (mgf f))
def mA (f : mE) (sz : Nat) : Nat → Prop := fun q => (∃ e, f q = some e) ∨ sz ≤ q
def mM (G : mG) (A : Nat → Prop) (H0 : Heap) (f : mE) (H : Heap) (locs : List Loc) : Prop := mD G A f H ∧ va_S A H0 H locs
abbrev mI (G : mG) (n : Nat) (g : Nat → Int32) : va_E := .inl (G.2.1 0, n, .inl g)
abbrev mB (G : mG) (n : Nat) (g : Nat → Int32) : va_E := .inl (G.2.1 1, n, .inl g)
abbrev mQ (G : mG) (k : Nat) (n : Nat) (g : Nat → Option Nat) : va_E := .inl (G.2.1 k, n, .inr (.inr (.inr (.inr g))))
theorem mD.get {G : mG} {A : Nat → Prop} {f : mE} {H : Heap} (h : mD G A f H) {a : Nat} {e : va_E} (hf : f a = some e) :
    ∃ (L : List Nat) (k : Nat), (∀ a, a ∈ L ↔ ∃ e, f a = some e) ∧ va_P G.1 vwCl (va_pl L (mgf f)) H ∧ va_D A (va_pl L (mgf f)) ∧ a ∈ L ∧ (va_pl L (mgf f))[k]? = some (a, e) := by
  obtain ⟨L, hL, hP, hD⟩ := h
  have ha := (hL a).mpr ⟨e, hf⟩
  obtain ⟨k, hk⟩ := va_pl_get (X := []) (f := mgf f) ha
  have hg : mgf f a = e := by simp [mgf, hf]
  rw [hg] at hk
  exact ⟨L, k, hL, hP, hD, ha, hk⟩
theorem mgf_up (f : mE) (a : Nat) (e : va_E) : mgf (va_up f a (some e)) = va_up (mgf f) a e := by
  funext b
  by_cases h : b = a
  · subst h; simp [mgf, va_up]
  · simp [mgf, va_up, h]
theorem mD.set {G : mG} {A : Nat → Prop} {f : mE} {H1 : Heap} {L : List Nat} {k a : Nat} {e e' : va_E} (hL : ∀ a, a ∈ L ↔ ∃ e, f a = some e) (hD : va_D A (va_pl L (mgf f))) (ha : a ∈ L) (hk : (va_pl L (mgf f))[k]? = some (a, e))
    (hP1 : va_P G.1 vwCl ((va_pl L (mgf f)).set k (a, e')) H1) (hD1 : va_D A ((va_pl L (mgf f)).set k (a, e'))) : mD G A (va_up f a (some e')) H1 := by
  have hg : mgf f a = e := by
    have h1 : (a, e) ∈ va_pl L (mgf f) := List.mem_of_getElem? hk
    obtain ⟨b, hb, hbe⟩ := List.mem_map.mp h1
    have h2 := congrArg Prod.fst hbe
    have h3 := congrArg Prod.snd hbe
    simp only at h2 h3
    rw [← h2]; exact h3
  have hs := va_pl_set (X := []) (e := e') hD ha (by rw [hg]; exact hk)
  have hs' : (va_pl L (mgf f)).set k (a, e') = va_pl L (mgf (va_up f a (some e'))) := by rw [mgf_up]; exact hs
  rw [hs'] at hP1 hD1
  refine ⟨L, fun b => ?_, hP1, hD1⟩
  by_cases h : b = a
  · subst h; exact ⟨fun _ => ⟨e', by simp [va_up]⟩, fun _ => ha⟩
  · rw [hL b]; simp [va_up, h]
theorem mD.push {G : mG} {A : Nat → Prop} {f : mE} {H1 : Heap} {L : List Nat} {q : Nat} {e : va_E} (hL : ∀ a, a ∈ L ↔ ∃ e, f a = some e)
    (hP1 : va_P G.1 vwCl ((va_pl L (mgf f)) ++ [(q, e)]) H1) (hD1 : va_D A ((va_pl L (mgf f)) ++ [(q, e)])) : mD G A (va_up f q (some e)) H1 ∧ f q = none := by
  have hq : q ∉ L := va_pl_fresh2 (X := []) hD1
  have hs : va_pl L (mgf f) ++ [(q, e)] = va_pl (L ++ [q]) (mgf (va_up f q (some e))) := by rw [mgf_up]; exact va_pl_push hq
  rw [hs] at hP1 hD1
  have hn : f q = none := by
    cases hfq : f q with
    | none => rfl
    | some e' => exact absurd ((hL q).mpr ⟨e', hfq⟩) hq
  refine ⟨⟨L ++ [q], fun b => ?_, hP1, hD1⟩, hn⟩
  rw [List.mem_append, List.mem_singleton, hL b]
  by_cases h : b = q
  · subst h; simp [va_up]
  · simp [va_up, h]
theorem mD.lt {G : mG} {A : Nat → Prop} {f : mE} {H : Heap} (h : mD G A f H) {a : Nat} {e : va_E} (hf : f a = some e) : a < H.size := by
  obtain ⟨L, k, hL, hP, hD, ha, hk⟩ := h.get hf
  exact (hP k _ hk).lt
theorem mD.inA {G : mG} {A : Nat → Prop} {f : mE} {H : Heap} (h : mD G A f H) {a : Nat} {e : va_E} (hf : f a = some e) : A a := by
  obtain ⟨L, k, hL, hP, hD, ha, hk⟩ := h.get hf
  exact hD.2 k _ hk
theorem mD.weaken {G : mG} {A B : Nat → Prop} {f : mE} {H : Heap} (h : mD G A f H) (hAB : ∀ a e, f a = some e → B a) : mD G B f H := by
  obtain ⟨L, hL, hP, hD⟩ := h
  refine ⟨L, hL, hP, hD.weaken (fun k q hk _ => ?_)⟩
  have h1 : q ∈ va_pl L (mgf f) := List.mem_of_getElem? hk
  obtain ⟨b, hb, rfl⟩ := List.mem_map.mp h1
  obtain ⟨e, he⟩ := (hL b).mp hb
  exact hAB b e he
theorem mD.self {G : mG} {A : Nat → Prop} {f : mE} {H : Heap} {sz : Nat} (h : mD G A f H) : mD G (mA f sz) f H := h.weaken (fun _ e h => Or.inl ⟨e, h⟩)
theorem mD.kept {G : mG} {A : Nat → Prop} {f : mE} {H H1 : Heap} (h : mD G A f H) (hq : ∀ a e, f a = some e → H1[a]? = H[a]?) : mD G A f H1 := by
  obtain ⟨L, hL, hP, hD⟩ := h
  refine ⟨L, hL, hP.kept (fun k q hk => ?_), hD⟩
  have h1 : q ∈ va_pl L (mgf f) := List.mem_of_getElem? hk
  obtain ⟨b, hb, rfl⟩ := List.mem_map.mp h1
  obtain ⟨e, he⟩ := (hL b).mp hb
  exact hq b e he
/-! what never changes: nest links, statics, texts -/
def nestQ : List (String × Nat × MethodName × String) := [("SentenceRules$State", 23, ⟨"SentenceRules$Tokens", "<init>", "()V"⟩, "SentenceRules"), ("SentenceRules", 22, ⟨"SentenceRules$Reader", "<init>", "()V"⟩, "SentenceRules"), ("SentenceRules$Reader", 11, ⟨"SentenceRules$Region", "<init>", "()V"⟩, "SentenceRules"), ("SentenceRules$Region", 18, ⟨"SentenceRules", "lowestOf", "(I)I"⟩, "SentenceRules"), ("SentenceRules$Region", 22, ⟨"SentenceRules", "highestOf", "(I)I"⟩, "SentenceRules"), ("SentenceRules$Reader", 100, ⟨"SentenceRules", "isBetween", "(III)Z"⟩, "SentenceRules"), ("SentenceRules$Region", 31, ⟨"SentenceRules", "isFact", "(I)Z"⟩, "SentenceRules"), ("SentenceRules$Sentence", 11, ⟨"SentenceRules$Region", "<init>", "()V"⟩, "SentenceRules"), ("SentenceRules$State", 53, ⟨"SentenceRules", "isBitSet", "(II)Z"⟩, "SentenceRules"), ("SentenceRules$State", 109, ⟨"SentenceRules", "isFact", "(I)Z"⟩, "SentenceRules"), ("SentenceRules$State", 122, ⟨"SentenceRules", "highestOf", "(I)I"⟩, "SentenceRules")]
def textQ : List (Nat × String) := [(240, "if"), (242, "and"), (244, "then"), (246, "means"), (248, "is"), (250, "over"), (252, "under"), (254, "not"), (256, "from"), (258, "until"), (260, "age"), (262, "income"), (264, "size"), (266, "count"), (267, "birth"), (269, "entry"), (271, "minor"), (273, "senior"), (275, "small"), (277, "large"), (279, "early"), (281, "late"), (283, "fee"), (285, "rate"), (287, "limit"), (289, "grade"), (291, "")]
def textL : List Nat := [2, 3, 4, 5, 2, 4, 5, 3, 4, 5, 3, 6, 4, 5, 5, 5, 5, 6, 5, 5, 5, 4, 3, 4, 5, 5, 0]
def textB : List (List Int32) := [[105, 102], [97, 110, 100], [116, 104, 101, 110], [109, 101, 97, 110, 115], [105, 115], [111, 118, 101, 114], [117, 110, 100, 101, 114], [110, 111, 116], [102, 114, 111, 109], [117, 110, 116, 105, 108], [97, 103, 101], [105, 110, 99, 111, 109, 101], [115, 105, 122, 101], [99, 111, 117, 110, 116], [98, 105, 114, 116, 104], [101, 110, 116, 114, 121], [109, 105, 110, 111, 114], [115, 101, 110, 105, 111, 114], [115, 109, 97, 108, 108], [108, 97, 114, 103, 101], [101, 97, 114, 108, 121], [108, 97, 116, 101], [102, 101, 101], [114, 97, 116, 101], [108, 105, 109, 105, 116], [103, 114, 97, 100, 101], []]
def domF : Nat → Int32 := fun j => ([31, 28, 31, 30, 31, 30, 31, 31, 30, 31, 30, 31] : List Int32).getD j 0
def onesF : Nat → Int32 := fun j => nI (48 + j % 10)
def tensF : Nat → Int32 := fun j => nI (48 + j / 10)
def mZ (G : mG) (A : Nat → Prop) (U : State) (H : Heap) : Prop :=
  (va_Z "SentenceRules" "DAYS_OF_MONTHS" "[I" (.ref (G.2.2 0)) A U H ∧ va_T .int (G.2.2 0) 12 (fun j => .int (domF j)) A U H) ∧
  va_Z "java/lang/String" "COMPACT_STRINGS" "Z" (.int 1) A U H ∧
  (va_Z "java/lang/Integer" "DigitOnes" "[B" (.ref (G.2.2 1)) A U H ∧ va_T .byte (G.2.2 1) 100 (fun j => .int (onesF j)) A U H) ∧
  (va_Z "java/lang/Integer" "DigitTens" "[B" (.ref (G.2.2 2)) A U H ∧ va_T .byte (G.2.2 2) 100 (fun j => .int (tensF j)) A U H) ∧
  vk_S 27 textL textB (fun i => G.2.2 (10 + i)) (fun i => G.2.2 (50 + i)) A U H ∧ va_Zq "jdk/internal/util/Preconditions" "SIOOBE_FORMATTER" "Ljava/util/function/BiFunction;" A U H
def mN (G : mG) (U : State) : Prop := (∀ q ∈ nestQ, va_Nw (.methodLinkNest q.1 q.2.1 q.2.2.1 q.2.2.2) U) ∧ (∀ i < 27, vk_R "SentenceRules" (textQ.getD i (0, "")).1 (textQ.getD i (0, "")).2 (G.2.2 (10 + i)) U) ∧ va_AO "SentenceRules$Sentence" U ∧ va_AO "SentenceRules$State" U ∧ va_Nw (.castable "[B" "java/lang/Cloneable") U
def mS (G : mG) (A : Nat → Prop) (U : State) (H : Heap) : Prop := mN G U ∧ mZ G A U H
theorem mN.same {G : mG} {u U : State} (h : u.vm = U.vm) (n : mN G u) : mN G U := by
  refine ⟨fun q hq => va_Nw.same rfl h (n.1 q hq), fun i hi => vk_R.same h.symm (n.2.1 i hi), va_AO.moved (by rw [h]; exact Vm.Alike.refl _) n.2.2.1, va_AO.moved (by rw [h]; exact Vm.Alike.refl _) n.2.2.2.1, va_Nw.same rfl h n.2.2.2.2⟩
theorem mN.warm {G : mG} {s U : State} (hW : s.WarmedH U.vm) (n : mN G s) : mN G U := by
  refine ⟨fun q hq => va_Nw.warmM hW (n.1 q hq), fun i hi => vk_R.warm hW (n.2.1 i hi), va_AO.moved hW.alike n.2.2.1, va_AO.moved hW.alike n.2.2.2.1, va_Nw.warmC hW n.2.2.2.2⟩
theorem mZ.moved {G : mG} {A : Nat → Prop} {u U : State} {H : Heap} (hvm : u.vm.Alike U.vm) (h : mZ G A u H) : mZ G A U H :=
  ⟨⟨va_Z.moved hvm h.1.1, va_T.moved hvm h.1.2⟩, va_Z.moved hvm h.2.1, ⟨va_Z.moved hvm h.2.2.1.1, va_T.moved hvm h.2.2.1.2⟩, ⟨va_Z.moved hvm h.2.2.2.1.1, va_T.moved hvm h.2.2.2.1.2⟩, vk_S.moved hvm h.2.2.2.2.1, va_Zq.moved hvm h.2.2.2.2.2⟩
theorem mZ.kept {G : mG} {A : Nat → Prop} {U : State} {H H1 : Heap} (h : mZ G A U H) (hq : ∀ a : Nat, a < H.size → ¬ A a → H1[a]? = H[a]?) : mZ G A U H1 :=
  ⟨⟨h.1.1.kept hq, h.1.2.kept hq⟩, h.2.1.kept hq, ⟨h.2.2.1.1.kept hq, h.2.2.1.2.kept hq⟩, ⟨h.2.2.2.1.1.kept hq, h.2.2.2.1.2.kept hq⟩, h.2.2.2.2.1.kept hq, h.2.2.2.2.2.kept hq⟩
theorem mZ.narrow {G : mG} {A B : Nat → Prop} {U : State} {H : Heap} (h : mZ G A U H) (hq : ∀ q, B q → A q) : mZ G B U H :=
  ⟨⟨h.1.1.narrow hq, h.1.2.narrow hq⟩, h.2.1.narrow hq, ⟨h.2.2.1.1.narrow hq, h.2.2.1.2.narrow hq⟩, ⟨h.2.2.2.1.1.narrow hq, h.2.2.2.1.2.narrow hq⟩, h.2.2.2.2.1.narrow hq, h.2.2.2.2.2.narrow hq⟩
/-! contracts over the memory -/
def mPre (G : mG) (f : mE) (sz : Nat) (U : State) : Prop := U.heap.size = sz ∧ mD G (mA f sz) f U.heap ∧ va_K G.1 vwCl (mT G) U ∧ mS G (mA f sz) U U.heap
def mQc (G : mG) (A : Nat → Prop) (post : Option Value → mE → Prop) : Array Value → State → Outcome → State → Prop := fun _ st oc t => (∃ (v : Option Value) (f' : mE), oc = .returned v ∧ post v f' ∧ mD G A f' t.heap) ∧ va_F A st t
def mC (l : Launch) (G : mG) (y : MethodName) (ws : List Cond) (rm : Room) (f : mE) (av : List Value) (post : Option Value → mE → Prop) (mc ms : Nat) : Prop :=
  ∀ sz, Met l y ws rm (va_Pc av (mPre G f sz)) (mQc G (mA f sz) post) mc ms (mA f sz)
theorem mPre_blind (G : mG) (f : mE) (sz : Nat) (av : List Value) : FrameBlind (va_Pc av (mPre G f sz)) := by
  intro a U g mk q
  obtain ⟨q0, q1, qD, qK, qN, qZ⟩ := q
  exact ⟨q0, q1, qD, va_K.moved (u := U) (U := U.calling g mk a) (Vm.Alike.refl U.vm) qK, mN.same (u := U) (U := U.calling g mk a) rfl qN, mZ.moved (u := U) (U := U.calling g mk a) (Vm.Alike.refl U.vm) qZ⟩
theorem mA_of {G : mG} {A : Nat → Prop} {H0 : Heap} {f : mE} {H : Heap} {locs : List Loc} (hM : mM G A H0 f H locs) (hA : ∀ q, H0.size ≤ q → A q) : ∀ q, mA f H.size q → A q := by
  intro q h
  rcases h with ⟨e, he⟩ | h
  · exact hM.1.inA he
  · exact hA q (Nat.le_trans hM.2.1 h)
theorem mPre_of {G : mG} {A : Nat → Prop} {s : State} {f : mE} {H : Heap} {locs : List Loc} (hK : va_K G.1 vwCl (mT G) s) (hE : mS G A s s.heap) (hA : ∀ q, s.heap.size ≤ q → A q) (hM : mM G A s.heap f H locs) {U : State} (hU : U.heap = H) (hW : s.WarmedH U.vm) : mPre G f H.size U := by
  refine ⟨by rw [hU], by rw [hU]; exact hM.1.self, va_K.moved hW.alike hK, mN.warm hW hE.1, ?_⟩
  rw [hU]
  exact ((mZ.moved hW.alike hE.2).kept hM.2.2.1).narrow (mA_of hM hA)
section MW
variable {p : Program} {l : Launch} {e : Env} {R : Room} {s : State} {m : MethodId} {args : Array Value} {below : List Frame} {meth : Method} {c : Code} {H : Heap} {locs : List Loc} {cells slots : Nat} {Q : State → Prop}
variable {cc : ByteArray} {pc : Nat} {ls : Array Slot} {rest : List Value} {A : Nat → Prop} {a : Nat} {H0 : Heap} {G : mG} {f : mE}
theorem mm_iald (hx : p.tables.exec = Jvm.exec) (hb : c.code = cc) (hK : va_K G.1 vwCl (mT G) s) (hM : mM G A H0 f H locs) {n : Nat} {g : Nat → Int32} (hf : f a = some (mI G n g)) {i : Int32} (hin : vp_in i n) (hdg : decode cc pc = .ok (.iaload, 1))
    (kk : W p l e R s m args below meth c H locs cells slots Q (F0 m (pc + 1) ls (.int (g i.toNatClampNeg) :: rest))) : W p l e R s m args below meth c H locs cells slots Q (F0 m pc ls (.int i :: .ref a :: rest)) := by
  obtain ⟨L, k, hL, hP, hD, ha, hk⟩ := hM.1.get hf
  exact va_iald hx hb hK hP k 0 hk rfl hin hdg kk
theorem mn_iald (hx : p.tables.exec = Jvm.exec) (hb : c.code = cc) (hK : va_K G.1 vwCl (mT G) s) (hM : mM G A H0 f H locs) {n : Nat} {g : Nat → Int32} (hf : f a = some (mI G n g)) (k : Nat) (hin : k < n) (hn : n ≤ 65536) (hdg : decode cc pc = .ok (.iaload, 1))
    (kk : W p l e R s m args below meth c H locs cells slots Q (F0 m (pc + 1) ls (.int (g k) :: rest))) : W p l e R s m args below meth c H locs cells slots Q (F0 m pc ls (.int (nI k) :: .ref a :: rest)) := by
  refine mm_iald hx hb hK hM hf (vp_in_nI hin (by omega)) hdg ?_
  rw [nI_clamp (by omega)]
  exact kk
theorem mm_iast (hx : p.tables.exec = Jvm.exec) (hb : c.code = cc) (hK : va_K G.1 vwCl (mT G) s) (hM : mM G A H0 f H locs) {n : Nat} {g : Nat → Int32} (hf : f a = some (mI G n g)) {i : Int32} {x : Int32} (hin : vp_in i n) (hdg : decode cc pc = .ok (.iastore, 1))
    (kk : ∀ (H1 : Heap) (locs1 : List Loc), mM G A H0 (va_up f a (some (mI G n (upd g i.toNatClampNeg x)))) H1 locs1 → W p l e R s m args below meth c H1 locs1 cells slots Q (F0 m (pc + 1) ls rest)) : W p l e R s m args below meth c H locs cells slots Q (F0 m pc ls (.int x :: .int i :: .ref a :: rest)) := by
  obtain ⟨L, k, hL, hP, hD, ha, hk⟩ := hM.1.get hf
  exact va_iast hx hb hK hP hD hM.2 k 0 hk rfl hin hdg (fun H1 locs1 h1 h2 h3 => kk H1 locs1 ⟨mD.set hL hD ha hk h1 h2, h3⟩)
theorem mn_iast (hx : p.tables.exec = Jvm.exec) (hb : c.code = cc) (hK : va_K G.1 vwCl (mT G) s) (hM : mM G A H0 f H locs) {n : Nat} {g : Nat → Int32} (hf : f a = some (mI G n g)) (k : Nat) {x : Int32} (hin : k < n) (hn : n ≤ 65536) (hdg : decode cc pc = .ok (.iastore, 1))
    (kk : ∀ (H1 : Heap) (locs1 : List Loc), mM G A H0 (va_up f a (some (mI G n (upd g k x)))) H1 locs1 → W p l e R s m args below meth c H1 locs1 cells slots Q (F0 m (pc + 1) ls rest)) : W p l e R s m args below meth c H locs cells slots Q (F0 m pc ls (.int x :: .int (nI k) :: .ref a :: rest)) := by
  refine mm_iast hx hb hK hM hf (vp_in_nI hin (by omega)) hdg ?_
  rw [nI_clamp (by omega)]
  exact kk
theorem mm_bald (hx : p.tables.exec = Jvm.exec) (hb : c.code = cc) (hK : va_K G.1 vwCl (mT G) s) (hM : mM G A H0 f H locs) {n : Nat} {g : Nat → Int32} (hf : f a = some (mB G n g)) {i : Int32} (hin : vp_in i n) (hdg : decode cc pc = .ok (.baload, 1))
    (kk : W p l e R s m args below meth c H locs cells slots Q (F0 m (pc + 1) ls (.int (g i.toNatClampNeg) :: rest))) : W p l e R s m args below meth c H locs cells slots Q (F0 m pc ls (.int i :: .ref a :: rest)) := by
  obtain ⟨L, k, hL, hP, hD, ha, hk⟩ := hM.1.get hf
  exact va_bald hx hb hK hP k 1 hk rfl hin hdg kk
theorem mm_alen (hx : p.tables.exec = Jvm.exec) (hb : c.code = cc) (hK : va_K G.1 vwCl (mT G) s) (hM : mM G A H0 f H locs) {n : Nat} {g : Nat → Int32} (hf : f a = some (mI G n g)) (hdg : decode cc pc = .ok (.arraylength, 1))
    (kk : W p l e R s m args below meth c H locs cells slots Q (F0 m (pc + 1) ls (.int (nI n) :: rest))) : W p l e R s m args below meth c H locs cells slots Q (F0 m pc ls (.ref a :: rest)) := by
  obtain ⟨L, k, hL, hP, hD, ha, hk⟩ := hM.1.get hf
  exact va_alen hx hb hK hP k 0 hk (ty := .int) rfl rfl hdg kk
theorem mm_alenB (hx : p.tables.exec = Jvm.exec) (hb : c.code = cc) (hK : va_K G.1 vwCl (mT G) s) (hM : mM G A H0 f H locs) {n : Nat} {g : Nat → Int32} (hf : f a = some (mB G n g)) (hdg : decode cc pc = .ok (.arraylength, 1))
    (kk : W p l e R s m args below meth c H locs cells slots Q (F0 m (pc + 1) ls (.int (nI n) :: rest))) : W p l e R s m args below meth c H locs cells slots Q (F0 m pc ls (.ref a :: rest)) := by
  obtain ⟨L, k, hL, hP, hD, ha, hk⟩ := hM.1.get hf
  exact va_alen hx hb hK hP k 1 hk (ty := .byte) rfl rfl hdg kk
theorem mm_alenT (hx : p.tables.exec = Jvm.exec) (hb : c.code = cc) (hK : va_K G.1 vwCl (mT G) s) (hM : mM G A H0 f H locs) {n : Nat} {g : Nat → Option Nat} (hf : f a = some (mQ G 3 n g)) (hdg : decode cc pc = .ok (.arraylength, 1))
    (kk : W p l e R s m args below meth c H locs cells slots Q (F0 m (pc + 1) ls (.int (nI n) :: rest))) : W p l e R s m args below meth c H locs cells slots Q (F0 m pc ls (.ref a :: rest)) := by
  obtain ⟨L, k, hL, hP, hD, ha, hk⟩ := hM.1.get hf
  exact va_alen hx hb hK hP k 3 hk (ty := .object "SentenceRules$State") rfl rfl hdg kk
theorem mm_aldS (hx : p.tables.exec = Jvm.exec) (hb : c.code = cc) (hK : va_K G.1 vwCl (mT G) s) (hM : mM G A H0 f H locs) {n : Nat} {g : Nat → Option Nat} (hf : f a = some (mQ G 2 n g)) {i : Int32} (hin : vp_in i n) (hdg : decode cc pc = .ok (.aaload, 1))
    (kk : W p l e R s m args below meth c H locs cells slots Q (F0 m (pc + 1) ls (va_rf (g i.toNatClampNeg) :: rest))) : W p l e R s m args below meth c H locs cells slots Q (F0 m pc ls (.int i :: .ref a :: rest)) := by
  obtain ⟨L, k, hL, hP, hD, ha, hk⟩ := hM.1.get hf
  exact va_aldq hx hb hK hP k 2 hk rfl hin hdg kk
theorem mm_aldT (hx : p.tables.exec = Jvm.exec) (hb : c.code = cc) (hK : va_K G.1 vwCl (mT G) s) (hM : mM G A H0 f H locs) {n : Nat} {g : Nat → Option Nat} (hf : f a = some (mQ G 3 n g)) {i : Int32} (hin : vp_in i n) (hdg : decode cc pc = .ok (.aaload, 1))
    (kk : W p l e R s m args below meth c H locs cells slots Q (F0 m (pc + 1) ls (va_rf (g i.toNatClampNeg) :: rest))) : W p l e R s m args below meth c H locs cells slots Q (F0 m pc ls (.int i :: .ref a :: rest)) := by
  obtain ⟨L, k, hL, hP, hD, ha, hk⟩ := hM.1.get hf
  exact va_aldq hx hb hK hP k 3 hk rfl hin hdg kk
theorem mm_get (hx : p.tables.exec = Jvm.exec) (hb : c.code = cc) {own ref C : String} {T : u_T} {N ci index : Nat} {Ts : List Cond} (hts : ∀ w ∈ Ts, w.before args s = true) (hin : ∀ w ∈ u_ws C T N, w ∈ Ts) (hown : s.vm.findClass own = some m.cls) (hK : va_K G.1 vwCl (mT G) s) (hM : mM G A H0 f H locs) {fs : List Value} (hf : f a = some (.inr (ci, fs))) (hc : vwCl[ci]? = some (C, T, N)) (k : Nat) (hk : k < N) (hlink : (Cond.fieldLink own index ref (T k).2.1 (T k).2.2.1).before args s = true) (hsame : (T k).1 = ref) {v : Value} (hv : fs[k]? = some v) (hdg : decode cc pc = .ok (.getfield index, 3))
    (kk : W p l e R s m args below meth c H locs cells slots Q (F0 m (pc + 3) ls (v :: rest))) : W p l e R s m args below meth c H locs cells slots Q (F0 m pc ls (.ref a :: rest)) := by
  obtain ⟨L, q, hL, hP, hD, ha, hq⟩ := hM.1.get hf
  exact va_get hx hb hts hin hown hK hP q hq hc k hk hlink (by rw [hsame]; exact fun _ h => h) hv hdg kk
theorem mm_put (hx : p.tables.exec = Jvm.exec) (hb : c.code = cc) {own ref C : String} {T : u_T} {N ci index : Nat} {Ts : List Cond} (hts : ∀ w ∈ Ts, w.before args s = true) (hin : ∀ w ∈ u_ws C T N, w ∈ Ts) (ty0 : Nat → FieldType) (hty : ∀ k, k < N → parseFieldDescriptor (T k).2.2.1 = some (ty0 k)) (hnm : ∀ a, a < N → ∀ b, b < N → a ≠ b → (T a).2.1 ≠ (T b).2.1) (hown : s.vm.findClass own = some m.cls) (hK : va_K G.1 vwCl (mT G) s) (hM : mM G A H0 f H locs) {fs : List Value} (hf : f a = some (.inr (ci, fs))) (hc : vwCl[ci]? = some (C, T, N)) (k : Nat) (hk : k < N) (hlink : (Cond.fieldLink own index ref (T k).2.1 (T k).2.2.1).before args s = true) (hsame : (T k).1 = ref) (hfin : (T k).2.2.2 = false) {v : Value} (hn : narrow (ty0 k) v = v) (hfit : fits (ty0 k) v = true) (hl : k < fs.length)
    (hdg : decode cc pc = .ok (.putfield index, 3)) (kk : ∀ (H1 : Heap) (locs1 : List Loc), mM G A H0 (va_up f a (some (.inr (ci, fs.set k v)))) H1 locs1 → W p l e R s m args below meth c H1 locs1 cells slots Q (F0 m (pc + 3) ls rest)) : W p l e R s m args below meth c H locs cells slots Q (F0 m pc ls (v :: .ref a :: rest)) := by
  obtain ⟨L, q, hL, hP, hD, ha, hq⟩ := hM.1.get hf
  exact va_put hx hb hts hin ty0 hty hnm hown hK hP hD hM.2 q hq hc k hk hlink (by rw [hsame]; exact fun _ h => h) hfin (hty k hk) hn hfit hl hdg (fun H1 locs1 h1 h2 h3 => kk H1 locs1 ⟨mD.set hL hD ha hq h1 h2, h3⟩)
theorem mm_putF (hx : p.tables.exec = Jvm.exec) (hb : c.code = cc) {own ref C : String} {T : u_T} {N ci index : Nat} {Ts : List Cond} (hts : ∀ w ∈ Ts, w.before args s = true) (hin : ∀ w ∈ u_ws C T N, w ∈ Ts) (ty0 : Nat → FieldType) (hty : ∀ k, k < N → parseFieldDescriptor (T k).2.2.1 = some (ty0 k)) (hnm : ∀ a, a < N → ∀ b, b < N → a ≠ b → (T a).2.1 ≠ (T b).2.1) (hown : s.vm.findClass own = some m.cls) (hK : va_K G.1 vwCl (mT G) s) (hM : mM G A H0 f H locs) {fs : List Value} (hf : f a = some (.inr (ci, fs))) (hc : vwCl[ci]? = some (C, T, N)) (k : Nat) (hk : k < N) (hlink : (Cond.fieldLink own index ref (T k).2.1 (T k).2.2.1).before args s = true) (hsame : (T k).1 = ref) (hfin : (T k).2.2.2 = true) (hin2 : meth.name = "<init>") (hdecl : (T k).1 = own) {v : Value} (hn : narrow (ty0 k) v = v) (hfit : fits (ty0 k) v = true) (hl : k < fs.length)
    (hdg : decode cc pc = .ok (.putfield index, 3)) (kk : ∀ (H1 : Heap) (locs1 : List Loc), mM G A H0 (va_up f a (some (.inr (ci, fs.set k v)))) H1 locs1 → W p l e R s m args below meth c H1 locs1 cells slots Q (F0 m (pc + 3) ls rest)) : W p l e R s m args below meth c H locs cells slots Q (F0 m pc ls (v :: .ref a :: rest)) := by
  obtain ⟨L, q, hL, hP, hD, ha, hq⟩ := hM.1.get hf
  exact va_putF hx hb hts hin ty0 hty hnm hown hK hP hD hM.2 q hq hc k hk hlink (by rw [hsame]; exact fun _ h => h) hfin hin2 hdecl (hty k hk) hn hfit hl hdg (fun H1 locs1 h1 h2 h3 => kk H1 locs1 ⟨mD.set hL hD ha hq h1 h2, h3⟩)
theorem mm_new {ty : Nat → FieldType} (hx : p.tables.exec = Jvm.exec) (hb : c.code = cc) {own C : String} {T : u_T} {N ci index : Nat} {Ts : List Cond} (hts : ∀ w ∈ Ts, w.before args s = true) (hin : ∀ w ∈ u_ws C T N, w ∈ Ts) (hty : ∀ k, k < N → parseFieldDescriptor (T k).2.2.1 = some (ty k)) (hown : s.vm.findClass own = some m.cls) (hcl : (Cond.classLink own index C).before args s = true) (hinst : (Cond.instantiable C N).before args s = true) (hini : (Cond.initialized C).before args s = true)
    (hK : va_K G.1 vwCl (mT G) s) (hM : mM G A H0 f H locs) (hA : ∀ q, H0.size ≤ q → A q) (hc : vwCl[ci]? = some (C, T, N)) (fs : List Value) (hfs : ∀ j, j < N → defaultValue (ty j) = vp_V fs j) (hcells : cells + 1 ≤ R.cells) (hslots : slots + N ≤ R.slots) (hdg : decode cc pc = .ok (.new index, 3))
    (kk : ∀ (q : Nat) (H1 : Heap), f q = none → mM G A H0 (va_up f q (some (.inr (ci, fs)))) H1 locs →
      W p l e R s m args below meth c H1 locs (cells + 1) (slots + N) Q (F0 m (pc + 3) ls (.ref q :: rest))) : W p l e R s m args below meth c H locs cells slots Q (F0 m pc ls rest) := by
  obtain ⟨⟨L, hL, hP, hD⟩, hS⟩ := hM
  exact va_new hx hb hts hin ty hty hown hcl hinst hini hK hP hD hS hA hc hfs hcells hslots hdg (fun q H1 h1 h2 h3 => kk q H1 (mD.push (G := G) hL h1 h2).2 ⟨(mD.push (G := G) hL h1 h2).1, h3⟩)
theorem mm_newI (hx : p.tables.exec = Jvm.exec) (hb : c.code = cc) (harr : (Cond.arrayClass .int).before args s = true) (hK : va_K G.1 vwCl (mT G) s) (hM : mM G A H0 f H locs) (hA : ∀ q, H0.size ≤ q → A q)
    {n : Int32} (N' : Nat) (hn : ¬ n < 0) (hN : n.toNatClampNeg = N') (hbytes : N' * 4 ≤ 536870912) (hcells : cells + 1 ≤ R.cells) (hslots : slots + N' ≤ R.slots) (hdg : decode cc pc = .ok (.newarray .int, 2))
    (kk : ∀ (q : Nat) (H1 : Heap), f q = none → mM G A H0 (va_up f q (some (mI G N' (fun _ => 0)))) H1 locs →
      W p l e R s m args below meth c H1 locs (cells + 1) (slots + N') Q (F0 m (pc + 2) ls (.ref q :: rest))) : W p l e R s m args below meth c H locs cells slots Q (F0 m pc ls (.int n :: rest)) := by
  obtain ⟨⟨L, hL, hP, hD⟩, hS⟩ := hM
  refine va_newa (atype := .int) (ty := .int) (a0 := (N', .inl (fun _ => 0))) hx hb harr rfl hK hP hD hS hA (fun cA => rfl) hn hN hbytes hcells hslots hdg (fun q cA H1 hK1 h1 h2 h3 => ?_)
  have e0 := (hK1.2 0 _ rfl).2
  have e1 := (hK1.2 4 _ rfl).2
  have e2 : cA = G.2.1 0 := Option.some.inj (e1.symm.trans e0)
  subst e2
  exact kk q H1 (mD.push (G := G) hL h1 h2).2 ⟨(mD.push (G := G) hL h1 h2).1, h3⟩
theorem mm_newB (hx : p.tables.exec = Jvm.exec) (hb : c.code = cc) (harr : (Cond.arrayClass .byte).before args s = true) (hK : va_K G.1 vwCl (mT G) s) (hM : mM G A H0 f H locs) (hA : ∀ q, H0.size ≤ q → A q)
    {n : Int32} (N' : Nat) (hn : ¬ n < 0) (hN : n.toNatClampNeg = N') (hbytes : N' * 1 ≤ 536870912) (hcells : cells + 1 ≤ R.cells) (hslots : slots + N' ≤ R.slots) (hdg : decode cc pc = .ok (.newarray .byte, 2))
    (kk : ∀ (q : Nat) (H1 : Heap), f q = none → mM G A H0 (va_up f q (some (mB G N' (fun _ => 0)))) H1 locs →
      W p l e R s m args below meth c H1 locs (cells + 1) (slots + N') Q (F0 m (pc + 2) ls (.ref q :: rest))) : W p l e R s m args below meth c H locs cells slots Q (F0 m pc ls (.int n :: rest)) := by
  obtain ⟨⟨L, hL, hP, hD⟩, hS⟩ := hM
  refine va_newa (atype := .byte) (ty := .byte) (a0 := (N', .inl (fun _ => 0))) hx hb harr rfl hK hP hD hS hA (fun cA => rfl) hn hN hbytes hcells hslots hdg (fun q cA H1 hK1 h1 h2 h3 => ?_)
  have e0 := (hK1.2 1 _ rfl).2
  have e1 := (hK1.2 4 _ rfl).2
  have e2 : cA = G.2.1 1 := Option.some.inj (e1.symm.trans e0)
  subst e2
  exact kk q H1 (mD.push (G := G) hL h1 h2).2 ⟨(mD.push (G := G) hL h1 h2).1, h3⟩
/-! calls -/
variable {y : MethodName} {bytes : ByteArray} {maxL nL mc ms n index : Nat} {ret : Option FieldType} {ws : List Cond} {rm : Room} {Ts : List Cond} {own C host : String} {b : Addr} {As : List Value} {st0 : List Value} {post : Option Value → mE → Prop}
theorem mm_recv {ci : Nat} {q : vw_C} {fs : List Value} (hK : va_K G.1 vwCl (mT G) s) (hM : mM G A H0 f H locs) (hf : f a = some (.inr (ci, fs))) (hc : vwCl[ci]? = some q) : ∃ cell : Cell, H[a]? = some cell ∧ cell.vm.isStatics = false ∧ s.vm.findClass q.1 = some cell.cls := by
  obtain ⟨L, k, hL, hP, hD, ha, hk⟩ := hM.1.get hf
  exact va_recv hK hP hc hk
theorem mm_after (hr : va_Run p l e R s m args below meth c H locs cells slots mc ms (F0 m pc ls st0) rest (mQc G (mA f H.size) post args) (mA f H.size)) (hA : ∀ q, H0.size ≤ q → A q) (hM : mM G A H0 f H locs)
    (kk : ∀ (v : Option Value) (f' : mE) (H1 : Heap) (locs1 : List Loc), post v f' → mM G A H0 f' H1 locs1 → W p l e R s m args below meth c H1 locs1 (cells + mc) (slots + ms) Q (F0 m (pc + 3) ls (v.toList ++ rest))) : W p l e R s m args below meth c H locs cells slots Q (F0 m pc ls st0) := by
  have hF := mA_of hM hA
  intro T hT X
  obtain ⟨v, st₀, t, T', L, h0, X', hL, e1, e2, ⟨⟨v', f', hv, hp, hd⟩, hz, hk⟩, st⟩ := hr T hT X
  cases hv
  rw [h0] at hz hk
  obtain ⟨t2, a1, b1⟩ := kk v f' T'.heap (locs ++ L) hp ⟨by rw [e1]; exact hd.weaken (fun a e he => hF a (hd.inA he)), Nat.le_trans hM.2.1 (by rw [e1]; exact hz), fun q h1 h2 => by
      rw [e1, hk q (Nat.lt_of_lt_of_le h1 hM.2.1) (fun z => h2 (hF q z))]; exact hM.2.2.1 q h1 h2, fun q hq => by
      rcases List.mem_append.mp hq with h | h
      · exact hM.2.2.2 q h
      · exact hF _ (hL q h)⟩ T' rfl X'
  exact ⟨t2, st t2 a1, b1⟩
theorem mQc_args {G : mG} {A : Nat → Prop} {post : Option Value → mE → Prop} {a b : Array Value} : mQc G A post a = mQc G A post b := rfl
theorem mm_V (S : CallFix p m c cc nL s args Ts own) (hC : mC l G y ws rm f (.ref b :: As) post mc ms) (cw : CallW R s args own C index y bytes maxL ret ws rm mc ms n) (hK : va_K G.1 vwCl (mT G) s) (hE : mS G A s s.heap) (hA : ∀ q, s.heap.size ≤ q → A q) (hM : mM G A s.heap f H locs) (hrec : ∃ cell : Cell, H[b]? = some cell ∧ cell.vm.isStatics = false ∧ s.vm.findClass C = some cell.cls) (hn : As.length = n) (hsz : ls.size = nL) (hst : st0 = As.reverse ++ .ref b :: rest) (hW : (rest.map fun v => v.category).sum ≤ 8) (hdg : decode cc pc = .ok (.invokevirtual index, 3)) (hf : cells + mc ≤ R.cells ∧ slots + ms ≤ R.slots)
    (kk : ∀ (v : Option Value) (f' : mE) (H1 : Heap) (locs1 : List Loc), post v f' → mM G A s.heap f' H1 locs1 → W p l e R s m args below meth c H1 locs1 (cells + mc) (slots + ms) Q (F0 m (pc + 3) ls (v.toList ++ rest))) : W p l e R s m args below meth c H locs cells slots Q (F0 m pc ls st0) := by
  subst hst
  exact mm_after (G := G) (f := f) (post := post) (va_runV (As := As) (rest := rest) (b := b) S (hC H.size) cw ⟨mPre_blind G f H.size _, hrec, fun U hU hW => ⟨rfl, mPre_of hK hE hA hM hU hW⟩⟩ rfl hn hsz rfl (lv_room hW) hdg hf) hA hM kk
theorem mm_S (S : CallFix p m c cc nL s args Ts own) (hC : mC l G y ws rm f As post mc ms) (cw : CallB R s args own index y bytes maxL ret ws rm mc ms n ∧ (Cond.static y).before args s = true) (hK : va_K G.1 vwCl (mT G) s) (hE : mS G A s s.heap) (hA : ∀ q, s.heap.size ≤ q → A q) (hM : mM G A s.heap f H locs) (hn : As.length = n) (hsz : ls.size = nL) (hst : st0 = As.reverse ++ rest) (hW : (rest.map fun v => v.category).sum ≤ 8) (hdg : decode cc pc = .ok (.invokestatic index, 3)) (hf : cells + mc ≤ R.cells ∧ slots + ms ≤ R.slots)
    (kk : ∀ (v : Option Value) (f' : mE) (H1 : Heap) (locs1 : List Loc), post v f' → mM G A s.heap f' H1 locs1 → W p l e R s m args below meth c H1 locs1 (cells + mc) (slots + ms) Q (F0 m (pc + 3) ls (v.toList ++ rest))) : W p l e R s m args below meth c H locs cells slots Q (F0 m pc ls st0) := by
  subst hst
  exact mm_after (G := G) (f := f) (post := post) (va_runS (As := As) (rest := rest) S (hC H.size) cw ⟨mPre_blind G f H.size _, fun U hU hW => ⟨rfl, mPre_of hK hE hA hM hU hW⟩⟩ rfl hn hsz rfl (lv_room hW) hdg hf) hA hM kk
theorem mm_SN (S : CallFix p m c cc nL s args Ts own) (hC : mC l G y ws rm f As post mc ms) (cw : va_CN R s args own index y host bytes maxL ret ws rm mc ms n ∧ (Cond.static y).before args s = true ∧ True) (hK : va_K G.1 vwCl (mT G) s) (hE : mS G A s s.heap) (hA : ∀ q, s.heap.size ≤ q → A q) (hM : mM G A s.heap f H locs) (hn : As.length = n) (hsz : ls.size = nL) (hst : st0 = As.reverse ++ rest) (hW : (rest.map fun v => v.category).sum ≤ 8) (hdg : decode cc pc = .ok (.invokestatic index, 3)) (hf : cells + mc ≤ R.cells ∧ slots + ms ≤ R.slots)
    (kk : ∀ (v : Option Value) (f' : mE) (H1 : Heap) (locs1 : List Loc), post v f' → mM G A s.heap f' H1 locs1 → W p l e R s m args below meth c H1 locs1 (cells + mc) (slots + ms) Q (F0 m (pc + 3) ls (v.toList ++ rest))) : W p l e R s m args below meth c H locs cells slots Q (F0 m pc ls st0) := by
  subst hst
  exact mm_after (G := G) (f := f) (post := post) (va_runSN (As := As) (rest := rest) S (hC H.size) cw ⟨mPre_blind G f H.size _, fun U hU hW => ⟨rfl, mPre_of hK hE hA hM hU hW⟩⟩ rfl hn hsz rfl (lv_room hW) hdg hf) hA hM kk
theorem mm_I (S : CallFix p m c cc nL s args Ts own) (hC : mC l G y ws rm f (.ref b :: As) post mc ms) (cw : CallB R s args own index y bytes maxL none ws rm mc ms n ∧ y.name = "<init>" ∧ (Cond.instanceMethod y).before args s = true) (hK : va_K G.1 vwCl (mT G) s) (hE : mS G A s s.heap) (hA : ∀ q, s.heap.size ≤ q → A q) (hM : mM G A s.heap f H locs) (hn : As.length = n) (hsz : ls.size = nL) (hst : st0 = As.reverse ++ .ref b :: rest) (hW : (rest.map fun v => v.category).sum ≤ 8) (hdg : decode cc pc = .ok (.invokespecial index, 3)) (hf : cells + mc ≤ R.cells ∧ slots + ms ≤ R.slots)
    (kk : ∀ (v : Option Value) (f' : mE) (H1 : Heap) (locs1 : List Loc), post v f' → mM G A s.heap f' H1 locs1 → W p l e R s m args below meth c H1 locs1 (cells + mc) (slots + ms) Q (F0 m (pc + 3) ls (v.toList ++ rest))) : W p l e R s m args below meth c H locs cells slots Q (F0 m pc ls st0) := by
  subst hst
  exact mm_after (G := G) (f := f) (post := post) (va_runI (As := As) (rest := rest) (b := b) S (hC H.size) cw ⟨mPre_blind G f H.size _, fun U hU hW => ⟨rfl, mPre_of hK hE hA hM hU hW⟩⟩ rfl hn hsz rfl (lv_room hW) hdg hf) hA hM kk
theorem mm_IN (S : CallFix p m c cc nL s args Ts own) (hC : mC l G y ws rm f (.ref b :: As) post mc ms) (cw : va_CN R s args own index y host bytes maxL none ws rm mc ms n ∧ y.name = "<init>" ∧ (Cond.instanceMethod y).before args s = true) (hK : va_K G.1 vwCl (mT G) s) (hE : mS G A s s.heap) (hA : ∀ q, s.heap.size ≤ q → A q) (hM : mM G A s.heap f H locs) (hn : As.length = n) (hsz : ls.size = nL) (hst : st0 = As.reverse ++ .ref b :: rest) (hW : (rest.map fun v => v.category).sum ≤ 8) (hdg : decode cc pc = .ok (.invokespecial index, 3)) (hf : cells + mc ≤ R.cells ∧ slots + ms ≤ R.slots)
    (kk : ∀ (v : Option Value) (f' : mE) (H1 : Heap) (locs1 : List Loc), post v f' → mM G A s.heap f' H1 locs1 → W p l e R s m args below meth c H1 locs1 (cells + mc) (slots + ms) Q (F0 m (pc + 3) ls (v.toList ++ rest))) : W p l e R s m args below meth c H locs cells slots Q (F0 m pc ls st0) := by
  subst hst
  exact mm_after (G := G) (f := f) (post := post) (va_runIN (As := As) (rest := rest) (b := b) S (hC H.size) cw ⟨mPre_blind G f H.size _, fun U hU hW => ⟨rfl, mPre_of hK hE hA hM hU hW⟩⟩ rfl hn hsz rfl (lv_room hW) hdg hf) hA hM kk
/-! ends -/
theorem mm_iret (hx : p.tables.exec = Jvm.exec) (hb : c.code = cc) (hlocks : meth.locks = false) (hr : meth.sig.returnType = some .int) {v : Int32} {B : Nat → Prop} {k n : Nat} (hk : cells ≤ k) (hn : slots ≤ n) (hM : mM G B s.heap f H locs) (hp : post (some (.int v)) f) (hdg : decode cc pc = .ok (.ireturn, 1)) : W p l e R s m args below meth c H locs cells slots (MQ below (mQc G B post) args s k n B) (F0 m pc ls [.int v]) :=
  W.widen hk hn (W.iret hx hb hr (fun t ht hW => ⟨⟨_, f, rfl, hp, by rw [ht]; exact hM.1⟩, hM.2.F ht⟩) hM.2.2.2 hdg hlocks)
theorem mm_zret (hx : p.tables.exec = Jvm.exec) (hb : c.code = cc) (hlocks : meth.locks = false) {ty : FieldType} (hr : meth.sig.returnType = some ty) {v : Int32} (hnr : narrow ty (.int v) = .int v) {B : Nat → Prop} {k n : Nat} (hk : cells ≤ k) (hn : slots ≤ n) (hM : mM G B s.heap f H locs) (hp : post (some (.int v)) f) (hdg : decode cc pc = .ok (.ireturn, 1)) : W p l e R s m args below meth c H locs cells slots (MQ below (mQc G B post) args s k n B) (F0 m pc ls [.int v]) :=
  W.widen hk hn (W.zret hx hb hr hnr (fun t ht hW => ⟨⟨_, f, rfl, hp, by rw [ht]; exact hM.1⟩, hM.2.F ht⟩) hM.2.2.2 hdg hlocks)
theorem mm_vret (hx : p.tables.exec = Jvm.exec) (hb : c.code = cc) (hlocks : meth.locks = false) (hr : meth.sig.returnType = none) {B : Nat → Prop} {k n : Nat} (hk : cells ≤ k) (hn : slots ≤ n) (hM : mM G B s.heap f H locs) (hp : post none f) (hdg : decode cc pc = .ok (.return_, 1)) : W p l e R s m args below meth c H locs cells slots (MQ below (mQc G B post) args s k n B) (F0 m pc ls []) :=
  W.widen hk hn (W.vret hx hb hr (fun t ht hW => ⟨⟨_, f, rfl, hp, by rw [ht]; exact hM.1⟩, hM.2.F ht⟩) hM.2.2.2 hdg hlocks)
theorem mm_aret (hx : p.tables.exec = Jvm.exec) (hb : c.code = cc) (hlocks : meth.locks = false) {rt : FieldType} (hr : meth.sig.returnType = some rt) (hrt : (∃ n, rt = .object n) ∨ ∃ t, rt = .array t) {r : Option Nat} {B : Nat → Prop} {k n : Nat} (hk : cells ≤ k) (hn : slots ≤ n) (hM : mM G B s.heap f H locs) (hp : post (some (va_rf r)) f) (hdg : decode cc pc = .ok (.areturn, 1)) : W p l e R s m args below meth c H locs cells slots (MQ below (mQc G B post) args s k n B) (F0 m pc ls [va_rf r]) :=
  W.widen hk hn (W.aret hx hb hr hrt (va_rf_or r) (fun t ht hW => ⟨⟨_, f, rfl, hp, by rw [ht]; exact hM.1⟩, hM.2.F ht⟩) hM.2.2.2 hdg hlocks)
end MW
/-- a contract out of a walk -/
theorem mC.of {l : Launch} {G : mG} {y : MethodName} {ws ws' : List Cond} {rm : Room} {f : mE} {av : List Value} {post : Option Value → mE → Prop} {mc ms : Nat} {cc : ByteArray} {maxL : Nat} {ret : Option FieldType} (hy : plainName y.cls = true) (hw : ws = Cond.code y cc maxL ret :: ws') (hlen : (lg_sl av).length ≤ maxL)
    (body : ∀ (p : Program) (e : Env) (s : State) (m : MethodId) (args : Array Value) (below : List Frame) (meth : Method) (c : Code) (A : Nat → Prop) (ls : Array Slot), p.tables.exec = Jvm.exec → c.code = cc → c.maxLocals = maxL → meth.sig.returnType = ret → meth.locks = false → s.vm.findClass y.cls = some m.cls → meth.name = y.name → (∀ w ∈ ws, w.before args s = true) → va_K G.1 vwCl (mT G) s → mS G A s s.heap → (∀ q, s.heap.size ≤ q → A q) → mM G A s.heap f s.heap [] → lv_has ls maxL (lv_args 0 av) →
      W p l e rm s m args below meth c s.heap [] 0 0 (MQ below (mQc G A post) args s mc ms A) (F0 m 0 ls [])) : mC l G y ws rm f av post mc ms := by
  intro sz
  refine Met.ofW (cc := cc) (maxL := maxL) (ret := ret) hy hw ?_
  intro p e s m args below meth c s₁ B hml hv
  obtain ⟨rfl, hsz, hD, hK, hE⟩ := hv
  subst hsz
  have hl := lv_entry av (n := maxL) hlen
  rw [lg_entry_eq]
  exact body p e s m _ below meth c _ _ B.exec B.bytes hml B.returns B.notSynchronized (findClass_of_methodNamed B.named) (name_of_methodNamed B.named B.method).1 (atoms_spec (ws := ws) B.pre) hK hE (fun q h => Or.inr h) ⟨hD, va_S.rf⟩ hl
