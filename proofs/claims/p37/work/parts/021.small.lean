/-! small rows: numbers by their naturals, truth values -/
def bI (b : Bool) : Int32 := if b then 1 else 0
theorem bI_t : bI true = 1 := rfl
theorem bI_f : bI false = 0 := rfl
theorem bI_nar (b : Bool) : narrow .boolean (.int (bI b)) = .int (bI b) := by cases b <;> rfl
theorem bI_fit (b : Bool) : fits .boolean (.int (bI b)) = true := by cases b <;> rfl
theorem bI_inj {a b : Bool} : bI a = bI b ↔ a = b := by cases a <;> cases b <;> decide
theorem bI_0 {b : Bool} : bI b = 0 ↔ b = false := by cases b <;> decide
theorem bI_1 {b : Bool} : bI b = 1 ↔ b = true := by cases b <;> decide
theorem nI_lit (n : Nat) : nI (no_index (OfNat.ofNat n)) = (OfNat.ofNat n : Int32) := rfl
theorem nfw : nativeFrameWords "java/lang/System" "arraycopy" 5 = 7 := by decide +kernel
theorem bIt {b : Bool} (h : b = true) : nI 1 = bI b := by rw [h]; rfl
theorem bIf {b : Bool} (h : b = false) : nI 0 = bI b := by rw [h]; rfl
def mx (a b : Int32) : Int32 := if a < b then b else a
def mn (a b : Int32) : Int32 := if b < a then b else a
section SM
variable {p : Program} {l : Launch} {e : Env} {R : Room} {s : State} {m : MethodId} {args : Array Value} {below : List Frame} {meth : Method} {c : Code} {H : Heap} {locs : List Loc} {cells slots : Nat} {Q : State → Prop}
variable {cc : ByteArray} {pc : Nat} {ls : Array Slot} {rest : List Value}
theorem mv_top {x y : Int32} (h : x = y) (k : W p l e R s m args below meth c H locs cells slots Q (F0 m pc ls (.int y :: rest))) : W p l e R s m args below meth c H locs cells slots Q (F0 m pc ls (.int x :: rest)) := by rw [h]; exact k
theorem mv_snd {x y : Int32} {z : Value} (h : x = y) (k : W p l e R s m args below meth c H locs cells slots Q (F0 m pc ls (z :: .int y :: rest))) : W p l e R s m args below meth c H locs cells slots Q (F0 m pc ls (z :: .int x :: rest)) := by rw [h]; exact k
theorem mv_val {x y : Value} (h : x = y) (k : W p l e R s m args below meth c H locs cells slots Q (F0 m pc ls (y :: rest))) : W p l e R s m args below meth c H locs cells slots Q (F0 m pc ls (x :: rest)) := by rw [h]; exact k
theorem ln_iadd (a b : Nat) (hx : p.tables.exec = Jvm.exec) (hb : c.code = cc) (hdg : decode cc pc = .ok (.iadd, 1))
    (k : W p l e R s m args below meth c H locs cells slots Q (F0 m (pc + 1) ls (.int (nI (a + b)) :: rest))) : W p l e R s m args below meth c H locs cells slots Q (F0 m pc ls (.int (nI b) :: .int (nI a) :: rest)) :=
  lv_iadd hx hb hdg (by rw [nI_add]; exact k)
theorem ln_imul (a b : Nat) (hx : p.tables.exec = Jvm.exec) (hb : c.code = cc) (hdg : decode cc pc = .ok (.imul, 1))
    (k : W p l e R s m args below meth c H locs cells slots Q (F0 m (pc + 1) ls (.int (nI (a * b)) :: rest))) : W p l e R s m args below meth c H locs cells slots Q (F0 m pc ls (.int (nI b) :: .int (nI a) :: rest)) :=
  lv_imul hx hb hdg (by rw [pk_mul]; exact k)
theorem ln_isub (a b : Nat) (h : b ≤ a) (hx : p.tables.exec = Jvm.exec) (hb : c.code = cc) (hdg : decode cc pc = .ok (.isub, 1))
    (k : W p l e R s m args below meth c H locs cells slots Q (F0 m (pc + 1) ls (.int (nI (a - b)) :: rest))) : W p l e R s m args below meth c H locs cells slots Q (F0 m pc ls (.int (nI b) :: .int (nI a) :: rest)) :=
  lv_isub hx hb hdg (by rw [pk_sub h]; exact k)
theorem ln_idiv (a b : Nat) (ha : a < 2 ^ 31) (h0 : 0 < b) (hb2 : b < 2 ^ 31) (hx : p.tables.exec = Jvm.exec) (hb : c.code = cc) (hdg : decode cc pc = .ok (.idiv, 1))
    (k : W p l e R s m args below meth c H locs cells slots Q (F0 m (pc + 1) ls (.int (nI (a / b)) :: rest))) : W p l e R s m args below meth c H locs cells slots Q (F0 m pc ls (.int (nI b) :: .int (nI a) :: rest)) :=
  lv_idiv hx hb hdg (nI_ne0 h0 hb2) (by rw [pk_div ha h0 hb2]; exact k)
theorem ln_irem (a b : Nat) (ha : a < 2 ^ 31) (h0 : 0 < b) (hb2 : b < 2 ^ 31) (hx : p.tables.exec = Jvm.exec) (hb : c.code = cc) (hdg : decode cc pc = .ok (.irem, 1))
    (k : W p l e R s m args below meth c H locs cells slots Q (F0 m (pc + 1) ls (.int (nI (a % b)) :: rest))) : W p l e R s m args below meth c H locs cells slots Q (F0 m pc ls (.int (nI b) :: .int (nI a) :: rest)) :=
  lv_irem hx hb hdg (nI_ne0 h0 hb2) (by rw [pk_rem ha h0 hb2]; exact k)
theorem ln_icmp_ge (a b : Nat) (ha : a < 2 ^ 31) (hb2 : b < 2 ^ 31) (hx : p.tables.exec = Jvm.exec) (hb : c.code = cc) {off : Int} {tgt : Nat} (hdg : decode cc pc = .ok (.if_icmp .ge off, 3)) (ht : (pc : Int) + off = (tgt : Int))
    (kt : b ≤ a → W p l e R s m args below meth c H locs cells slots Q (F0 m tgt ls rest)) (kf : a < b → W p l e R s m args below meth c H locs cells slots Q (F0 m (pc + 3) ls rest)) : W p l e R s m args below meth c H locs cells slots Q (F0 m pc ls (.int (nI b) :: .int (nI a) :: rest)) :=
  lv_icmp_ge hx hb hdg ht (fun h => kt ((nI_leI hb2 ha).mp h)) (fun h => kf (Nat.lt_of_not_le fun q => h ((nI_leI hb2 ha).mpr q)))
theorem ln_icmp_gt (a b : Nat) (ha : a < 2 ^ 31) (hb2 : b < 2 ^ 31) (hx : p.tables.exec = Jvm.exec) (hb : c.code = cc) {off : Int} {tgt : Nat} (hdg : decode cc pc = .ok (.if_icmp .gt off, 3)) (ht : (pc : Int) + off = (tgt : Int))
    (kt : b < a → W p l e R s m args below meth c H locs cells slots Q (F0 m tgt ls rest)) (kf : a ≤ b → W p l e R s m args below meth c H locs cells slots Q (F0 m (pc + 3) ls rest)) : W p l e R s m args below meth c H locs cells slots Q (F0 m pc ls (.int (nI b) :: .int (nI a) :: rest)) :=
  lv_icmp_gt hx hb hdg ht (fun h => kt ((nI_ltI hb2 ha).mp h)) (fun h => kf (Nat.le_of_not_lt fun q => h ((nI_ltI hb2 ha).mpr q)))
theorem ln_icmp_lt (a b : Nat) (ha : a < 2 ^ 31) (hb2 : b < 2 ^ 31) (hx : p.tables.exec = Jvm.exec) (hb : c.code = cc) {off : Int} {tgt : Nat} (hdg : decode cc pc = .ok (.if_icmp .lt off, 3)) (ht : (pc : Int) + off = (tgt : Int))
    (kt : a < b → W p l e R s m args below meth c H locs cells slots Q (F0 m tgt ls rest)) (kf : b ≤ a → W p l e R s m args below meth c H locs cells slots Q (F0 m (pc + 3) ls rest)) : W p l e R s m args below meth c H locs cells slots Q (F0 m pc ls (.int (nI b) :: .int (nI a) :: rest)) :=
  lv_icmp_lt hx hb hdg ht (fun h => kt ((nI_ltI ha hb2).mp h)) (fun h => kf (Nat.le_of_not_lt fun q => h ((nI_ltI ha hb2).mpr q)))
theorem ln_icmp_le (a b : Nat) (ha : a < 2 ^ 31) (hb2 : b < 2 ^ 31) (hx : p.tables.exec = Jvm.exec) (hb : c.code = cc) {off : Int} {tgt : Nat} (hdg : decode cc pc = .ok (.if_icmp .le off, 3)) (ht : (pc : Int) + off = (tgt : Int))
    (kt : a ≤ b → W p l e R s m args below meth c H locs cells slots Q (F0 m tgt ls rest)) (kf : b < a → W p l e R s m args below meth c H locs cells slots Q (F0 m (pc + 3) ls rest)) : W p l e R s m args below meth c H locs cells slots Q (F0 m pc ls (.int (nI b) :: .int (nI a) :: rest)) :=
  lv_icmp_le hx hb hdg ht (fun h => kt ((nI_leI ha hb2).mp h)) (fun h => kf (Nat.lt_of_not_le fun q => h ((nI_leI ha hb2).mpr q)))
theorem ln_icmp_eq (a b : Nat) (ha : a < 2 ^ 31) (hb2 : b < 2 ^ 31) (hx : p.tables.exec = Jvm.exec) (hb : c.code = cc) {off : Int} {tgt : Nat} (hdg : decode cc pc = .ok (.if_icmp .eq off, 3)) (ht : (pc : Int) + off = (tgt : Int))
    (kt : a = b → W p l e R s m args below meth c H locs cells slots Q (F0 m tgt ls rest)) (kf : a ≠ b → W p l e R s m args below meth c H locs cells slots Q (F0 m (pc + 3) ls rest)) : W p l e R s m args below meth c H locs cells slots Q (F0 m pc ls (.int (nI b) :: .int (nI a) :: rest)) :=
  lv_icmp_eq hx hb hdg ht (fun h => kt ((nI_eq ha hb2).mp h)) (fun h => kf (fun q => h ((nI_eq ha hb2).mpr q)))
theorem ln_icmp_ne (a b : Nat) (ha : a < 2 ^ 31) (hb2 : b < 2 ^ 31) (hx : p.tables.exec = Jvm.exec) (hb : c.code = cc) {off : Int} {tgt : Nat} (hdg : decode cc pc = .ok (.if_icmp .ne off, 3)) (ht : (pc : Int) + off = (tgt : Int))
    (kt : a ≠ b → W p l e R s m args below meth c H locs cells slots Q (F0 m tgt ls rest)) (kf : a = b → W p l e R s m args below meth c H locs cells slots Q (F0 m (pc + 3) ls rest)) : W p l e R s m args below meth c H locs cells slots Q (F0 m pc ls (.int (nI b) :: .int (nI a) :: rest)) :=
  lv_icmp_ne hx hb hdg ht (fun h => kt (fun q => h ((nI_eq ha hb2).mpr q))) (fun h => kf ((nI_eq ha hb2).mp h))
theorem lvb_eq {b : Bool} (hx : p.tables.exec = Jvm.exec) (hb : c.code = cc) {off : Int} {tgt : Nat} (hdg : decode cc pc = .ok (.ifCond .eq off, 3)) (ht : (pc : Int) + off = (tgt : Int))
    (kt : b = false → W p l e R s m args below meth c H locs cells slots Q (F0 m tgt ls rest)) (kf : b = true → W p l e R s m args below meth c H locs cells slots Q (F0 m (pc + 3) ls rest)) : W p l e R s m args below meth c H locs cells slots Q (F0 m pc ls (.int (bI b) :: rest)) :=
  lv_if_eq hx hb hdg ht (fun h => kt (bI_0.mp h)) (fun h => kf (by cases b; exact absurd rfl h; rfl))
theorem lvb_ne {b : Bool} (hx : p.tables.exec = Jvm.exec) (hb : c.code = cc) {off : Int} {tgt : Nat} (hdg : decode cc pc = .ok (.ifCond .ne off, 3)) (ht : (pc : Int) + off = (tgt : Int))
    (kt : b = true → W p l e R s m args below meth c H locs cells slots Q (F0 m tgt ls rest)) (kf : b = false → W p l e R s m args below meth c H locs cells slots Q (F0 m (pc + 3) ls rest)) : W p l e R s m args below meth c H locs cells slots Q (F0 m pc ls (.int (bI b) :: rest)) :=
  lv_if_ne hx hb hdg ht (fun h => kt (by cases b; exact absurd rfl h; rfl)) (fun h => kf (bI_0.mp h))
theorem mm_copyI {G : mG} {f : mE} {A : Nat → Prop} {H0 : Heap} {a a0 n0 n1 : Nat} {g0 g : Nat → Int32} (hx : p.tables.exec = Jvm.exec) (hb : c.code = cc) (hml : c.maxLocals = ls.size) {own : String} {index : Nat} (hown : s.vm.findClass own = some m.cls) (hlink : (Cond.methodLink own index arraycopyName).before args s = true) (hnat : (Cond.native arraycopyName).before args s = true) (hstat : (Cond.static arraycopyName).before args s = true) (hini : (Cond.initialized "java/lang/System").before args s = true)
    (hK : va_K G.1 vwCl (mT G) s) (hM : mM G A H0 f H locs) (h0 : f a0 = some (mI G n0 g0)) (h1 : f a = some (mI G n1 g)) (sp dp n : Nat) (hs : sp + n ≤ n0) (hd : dp + n ≤ n1) (hn0 : n0 ≤ 65536) (hn1 : n1 ≤ 65536)
    (hframes : 1 ≤ R.frames) (hrs : (rest.map fun v => v.category).sum ≤ 8) (hlocals : 26 ≤ R.locals) (hdg : decode cc pc = .ok (.invokestatic index, 3))
    (kk : ∀ (H1 : Heap) (locs1 : List Loc), mM G A H0 (va_up f a (some (mI G n1 (va_cpy g0 g sp dp n)))) H1 locs1 → W p l e R s m args below meth c H1 locs1 cells slots Q (F0 m (pc + 3) ls rest)) : W p l e R s m args below meth c H locs cells slots Q (F0 m pc ls (.int (nI n) :: .int (nI dp) :: .ref a :: .int (nI sp) :: .ref a0 :: rest)) := by
  obtain ⟨L, k, hL, hP, hD, ha, hk⟩ := hM.1.get h1
  have ha0 := (hL a0).mpr ⟨_, h0⟩
  obtain ⟨k0, hk0⟩ := va_pl_get (X := []) (f := mgf f) ha0
  have hg0 : mgf f a0 = mI G n0 g0 := by simp [mgf, h0]
  rw [hg0] at hk0
  have cs : (nI sp).toNatClampNeg = sp := nI_clamp (by omega)
  have cd : (nI dp).toNatClampNeg = dp := nI_clamp (by omega)
  have cn : (nI n).toNatClampNeg = n := nI_clamp (by omega)
  refine va_copyi hx hb hml hown hlink hnat hstat hini hK hP hD hM.2 k0 k 0 0 hk0 hk (ty := .int) rfl rfl rfl (nI_pos (by omega)) (nI_pos (by omega)) (nI_pos (by omega)) (by rw [cs, cn]; exact hs) (by rw [cd, cn]; exact hd) (fun i _ => rfl) hframes (by rw [nfw]; omega) hdg (fun H1 locs1 q1 q2 q3 => ?_)
  rw [cs, cd, cn] at q1 q2
  exact kk H1 locs1 ⟨mD.set hL hD ha hk q1 q2, q3⟩
end SM
/-- for all below n -/
def allN (q : Nat → Bool) : Nat → Bool
  | 0 => true
  | n + 1 => allN q n && q n
theorem allN_iff {q : Nat → Bool} : ∀ {n : Nat}, allN q n = true ↔ ∀ i, i < n → q i = true
  | 0 => ⟨fun _ i h => absurd h (Nat.not_lt_zero i), fun _ => rfl⟩
  | n + 1 => by
    rw [allN, Bool.and_eq_true, allN_iff]
    exact ⟨fun h i hi => (Nat.lt_succ_iff_lt_or_eq.mp hi).elim (h.1 i) (fun e => e ▸ h.2), fun h => ⟨fun i hi => h i (Nat.lt_succ_of_lt hi), h n (Nat.lt_succ_self n)⟩⟩
theorem allN_no {q : Nat → Bool} {n i : Nat} (hi : i < n) (h : q i = false) : allN q n = false := by
  cases e : allN q n with
  | false => rfl
  | true => rw [allN_iff.mp e i hi] at h; cases h
theorem allN_cong {q r : Nat → Bool} {n : Nat} (h : ∀ i, i < n → q i = r i) : allN q n = allN r n := by
  induction n with
  | zero => rfl
  | succ n ih => rw [allN, allN, ih (fun i hi => h i (Nat.lt_succ_of_lt hi)), h n (Nat.lt_succ_self n)]
/-- the first below n, or n -/
def firN (q : Nat → Bool) : Nat → Nat
  | 0 => 0
  | n + 1 => if firN q n < n then firN q n else if q n then n else n + 1
theorem firN_le (q : Nat → Bool) : ∀ n, firN q n ≤ n
  | 0 => Nat.le_refl 0
  | n + 1 => by
    have := firN_le q n
    rw [firN]; split
    · omega
    · split <;> omega
theorem firN_no {q : Nat → Bool} : ∀ {n k : Nat}, k < firN q n → q k = false
  | 0, k, h => absurd h (Nat.not_lt_zero k)
  | n + 1, k, h => by
    have hl := firN_le q n
    rw [firN] at h
    split at h
    · exact firN_no h
    · split at h
      · by_cases hk : k < firN q n
        · exact firN_no hk
        · omega
      · by_cases hk : k < firN q n
        · exact firN_no hk
        · have : k = n := by omega
          subst this
          simp_all
theorem firN_yes {q : Nat → Bool} : ∀ {n : Nat}, firN q n < n → q (firN q n) = true
  | 0, h => absurd h (Nat.not_lt_zero _)
  | n + 1, h => by
    rw [firN] at h ⊢
    split
    · rename_i h2; exact firN_yes h2
    · rename_i h2
      rw [if_neg h2] at h
      split
      · assumption
      · rename_i h3; rw [if_neg h3] at h; omega
theorem firN_eq {q : Nat → Bool} {n k : Nat} (hk : k < n) (h : q k = true) (hno : ∀ j, j < k → q j = false) : firN q n = k := by
  have hl := firN_le q n
  rcases Nat.lt_trichotomy (firN q n) k with h1 | h1 | h1
  · have := firN_yes (q := q) (n := n) (by omega)
    rw [hno _ h1] at this; cases this
  · exact h1
  · have := firN_no (q := q) (n := n) h1
    rw [h] at this; cases this
theorem firN_none {q : Nat → Bool} {n : Nat} (hno : ∀ j, j < n → q j = false) : firN q n = n := by
  have hl := firN_le q n
  rcases Nat.lt_or_ge (firN q n) n with h1 | h1
  · have := firN_yes h1
    rw [hno _ h1] at this; cases this
  · omega
/-- how many below n -/
def cntN (q : Nat → Bool) : Nat → Nat
  | 0 => 0
  | n + 1 => cntN q n + if q n then 1 else 0
theorem cntN_le (q : Nat → Bool) : ∀ n, cntN q n ≤ n
  | 0 => Nat.le_refl 0
  | n + 1 => by
    have := cntN_le q n
    rw [cntN]; split <;> omega
theorem cntN_cong {q r : Nat → Bool} {n : Nat} (h : ∀ i, i < n → q i = r i) : cntN q n = cntN r n := by
  induction n with
  | zero => rfl
  | succ n ih => rw [cntN, cntN, ih (fun i hi => h i (Nat.lt_succ_of_lt hi)), h n (Nat.lt_succ_self n)]
theorem mC.mono {l : Launch} {G : mG} {y : MethodName} {ws : List Cond} {rm : Room} {f : mE} {av : List Value} {post post' : Option Value → mE → Prop} {mc ms : Nat} (h : mC l G y ws rm f av post mc ms) (hp : ∀ v f1, post v f1 → post' v f1) : mC l G y ws rm f av post' mc ms := by
  intro sz p e ha hc hk s m args below hf hS hP hKK
  obtain ⟨n, o, h1, h2, h3, ⟨⟨v, f1, a1, a2, a3⟩, a4⟩, h5⟩ := h sz p e ha hc hk s m args below hf hS hP hKK
  exact ⟨n, o, h1, h2, h3, ⟨⟨v, f1, a1, hp v f1 a2, a3⟩, a4⟩, h5⟩
