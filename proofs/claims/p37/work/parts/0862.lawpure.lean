/-! THE LAW's own numbers and sentences: pure -/
theorem nx_and (a b : Nat) : nI a &&& nI b = nI (a &&& b) := by
  apply Int32.toBitVec_inj.1
  show BitVec.ofNat 32 a &&& BitVec.ofNat 32 b = BitVec.ofNat 32 (a &&& b)
  apply BitVec.eq_of_getLsbD_eq
  intro i hi
  simp [hi]
def lwN (v : Int32) : Nat := v.toBitVec.toNat &&& 2147483647
theorem lwN_lt (v : Int32) : lwN v < 2 ^ 31 := Nat.lt_succ_of_le Nat.and_le_right
theorem and31 (v : Int32) : v &&& nI 2147483647 = nI (lwN v) := by
  have e : v = nI v.toBitVec.toNat := by
    apply Int32.toBitVec_inj.1
    show v.toBitVec = BitVec.ofNat 32 v.toBitVec.toNat
    simp
  rw [lwN, ← nx_and, ← e]
def lowN (v : Int32) (n : Nat) : Nat := lwN v % n
theorem lowN_lt (v : Int32) {n : Nat} (h : 0 < n) : lowN v n < n := Nat.mod_lt _ h
def sr (v : Int32) (k : Nat) : Int32 := v >>> (nI k &&& 31)
def valV (j : Nat) (v : Int32) : Int32 := if j < 4 then nI (lowN v 13) - nI 6 else nI (36500 + lowN v 40)
theorem low13 {a : Nat} (h : a < 13) : inB (nI a - nI 6) (-9999) 9999 = true := by
  have : a = 0 ∨ a = 1 ∨ a = 2 ∨ a = 3 ∨ a = 4 ∨ a = 5 ∨ a = 6 ∨ a = 7 ∨ a = 8 ∨ a = 9 ∨ a = 10 ∨ a = 11 ∨ a = 12 := by omega
  rcases this with rfl | rfl | rfl | rfl | rfl | rfl | rfl | rfl | rfl | rfl | rfl | rfl | rfl <;> decide
theorem valV_ok {j : Nat} (hj : j < 7) (v : Int32) : valB (nI j) (valV j v) = true := by
  rw [valB, (fac7 hj).1, Bool.true_and, valV]
  by_cases h : j < 4
  · have e1 : leastF (nI j) = -9999 := by have : j = 0 ∨ j = 1 ∨ j = 2 ∨ j = 3 := by omega
                                          rcases this with rfl | rfl | rfl | rfl <;> decide
    have e2 : greatestF (nI j) = 9999 := by have : j = 0 ∨ j = 1 ∨ j = 2 ∨ j = 3 := by omega
                                            rcases this with rfl | rfl | rfl | rfl <;> decide
    rw [if_pos h, e1, e2]; exact low13 (lowN_lt v (by decide))
  · have e1 : leastF (nI j) = nI 0 := by have : j = 4 ∨ j = 5 ∨ j = 6 := by omega
                                         rcases this with rfl | rfl | rfl <;> decide
    have e2 : greatestF (nI j) = nI 73048 := by have : j = 4 ∨ j = 5 ∨ j = 6 := by omega
                                                rcases this with rfl | rfl | rfl <;> decide
    have hl := lowN_lt v (n := 40) (by decide)
    rw [if_neg h, e1, e2]; exact inB_n (Nat.zero_le _) (by omega) (by omega)
theorem dat_ok {y m d : Nat} (h1 : 1900 ≤ y) (h2 : y ≤ 2099) (h3 : 1 ≤ m) (h4 : m ≤ 12) (h5 : 1 ≤ d) (h6 : d ≤ 28) : dateB (nI y) (nI m) (nI d) = true := by
  have e1 : inB (nI y) 1900 2099 = true := inB_n (a := 1900) (c := 2099) h1 h2 (by decide)
  have e2 : inB (nI m) 1 12 = true := inB_n (a := 1) (c := 12) h3 h4 (by decide)
  have e3 : inB (nI d) 1 (daysF (nI y) (nI m)) = true := by
    have q : inB (nI d) 1 28 = true := inB_n (a := 1) (c := 28) h5 h6 (by decide)
    have q2 := inB_le q
    have q3 : (28 : Int32) ≤ daysF (nI y) (nI m) := by unfold daysF; (repeat' split) <;> decide
    exact inB_t (Int32.not_lt.mpr q2.1) (Int32.not_lt.mpr (Int32.le_trans q2.2 q3))
  rw [dateB, e1, e2, e3]; rfl
/-! tokens one behind the other -/
def c1 (c : Nat) : Nat := if c = 24 then 24 else c + 1
def apT : (Nat → Int32) → Nat → List (Int32 × Int32) → (Nat → Int32)
  | S, _, [] => S
  | S, c, t :: L => apT (addT S c t.1 t.2) (c1 c) L
def apC : Nat → List (Int32 × Int32) → Nat
  | c, [] => c
  | c, _ :: L => apC (c1 c) L
def lst : Int32 → Nat → List (Int32 × Int32) → Int32
  | d, _, [] => d
  | _, c, _ :: L => lst (addI c) (c1 c) L
theorem apT_app : ∀ (L M : List (Int32 × Int32)) (S : Nat → Int32) (c : Nat), apT S c (L ++ M) = apT (apT S c L) (apC c L) M
  | [], _, _, _ => rfl
  | t :: L, M, S, c => apT_app L M (addT S c t.1 t.2) (c1 c)
theorem apC_app : ∀ (L M : List (Int32 × Int32)) (c : Nat), apC c (L ++ M) = apC (apC c L) M
  | [], _, _ => rfl
  | t :: L, M, c => apC_app L M (c1 c)
theorem lst_app : ∀ (L M : List (Int32 × Int32)) (d : Int32) (c : Nat), lst d c (L ++ M) = lst (lst d c L) (apC c L) M
  | [], _, _, _ => rfl
  | t :: L, M, d, c => lst_app L M (addI c) (c1 c)
theorem lst_ne {L : List (Int32 × Int32)} (h : L ≠ []) (d e : Int32) (c : Nat) : lst d c L = lst e c L := by
  cases L with
  | nil => exact absurd rfl h
  | cons t L => rfl
theorem VSn.add1 {S : Nat → Int32} {n cn : Nat} (hv : VSn S n cn) {kd x : Int32} (hx : vtB kd x = true) : VSn (addT S cn kd x) n (c1 cn) := by
  obtain ⟨c2, h⟩ := hv.add hx
  have e : c2 = c1 cn := by
    have h7 := h.2.2.1
    have h4 := h.2.2.2.1
    have v4 := hv.2.2.2.1
    by_cases hc : cn = 24
    · rw [addT, if_pos hc] at h7
      have := nI_inj (by omega) (by omega) (hv.2.2.1.symm.trans h7)
      rw [c1, if_pos hc]; omega
    · rw [addT, if_neg hc, addS] at h7
      have e7 : upd (upd (upd S (8 + cn) kd) (32 + cn) x) 7 (nI (cn + 1)) 7 = nI (cn + 1) := updE rfl
      have := nI_inj (by omega) (by omega) (e7.symm.trans h7)
      rw [c1, if_neg hc]; omega
  rw [← e]; exact h
theorem vs_apT : ∀ (L : List (Int32 × Int32)) {S : Nat → Int32} {n cn : Nat}, VSn S n cn → (∀ t, t ∈ L → vtB t.1 t.2 = true) → VSn (apT S cn L) n (apC cn L)
  | [], _, _, _, hv, _ => hv
  | t :: L, _, _, _, hv, h => vs_apT L (hv.add1 (h t List.mem_cons_self)) (fun u hu => h u (List.mem_cons_of_mem _ hu))
/-- the tokens of a condition of the law -/
def lcF (v : Int32) : Nat := lowN (sr v 4) 6
def lcH (v : Int32) : Nat := lowN (sr v 8) 5
def lcW (v : Int32) : Nat := if lcH v = 0 then 4 else if lcH v % 2 = 1 then 5 else 6
def lcE (v m : Int32) : Int32 × Int32 := if lcF v < 4 then (1, nI (lowN m 13) - nI 6) else (2, dayI (nI (1999 + lowN m 3)) (nI (1 + lowN (sr m 3) 12)) (nI (1 + lowN (sr m 8) 28)))
def lcL (v m : Int32) : List (Int32 × Int32) := if lowN v 6 = 0 then [(0, nI (16 + lowN m 6))] else (0, nI (10 + lcF v)) :: ((if 2 < lcH v then [(0, nI 7)] else []) ++ [(0, nI (lcW v)), lcE v m])
theorem vt_w {x : Nat} (h : x < 26) : vtB 0 (nI x) = true := vt_0 (w26 h)
theorem lcW_lt (v : Int32) : lcW v < 26 := by unfold lcW; (repeat' split) <;> omega
theorem lcE_ok (v m : Int32) : vtB (lcE v m).1 (lcE v m).2 = true := by
  have h1 := lowN_lt m (n := 3) (by decide)
  have h2 := lowN_lt (sr m 3) (n := 12) (by decide)
  have h3 := lowN_lt (sr m 8) (n := 28) (by decide)
  unfold lcE; split
  · exact vt_1 (low13 (lowN_lt m (by decide)))
  · exact vt_2 (dat_ok (by omega) (by omega) (by omega) (by omega) (by omega) (by omega))
theorem lcL_ne (v m : Int32) : lcL v m ≠ [] := by unfold lcL; split <;> simp
theorem lcL_ok (v m : Int32) : ∀ t, t ∈ lcL v m → vtB t.1 t.2 = true := by
  intro t ht
  have h1 := lowN_lt m (n := 6) (by decide)
  have h2 := lowN_lt (sr v 4) (n := 6) (by decide)
  unfold lcL at ht
  split at ht
  · rw [List.mem_singleton] at ht; rw [ht]; exact vt_w (by omega)
  · rcases List.mem_cons.mp ht with e | ht
    · rw [e]; exact vt_w (by unfold lcF; omega)
    · rcases List.mem_append.mp ht with ht | ht
      · split at ht
        · rw [List.mem_singleton] at ht; rw [ht]; exact vt_w (by decide)
        · cases ht
      · rcases List.mem_cons.mp ht with e | ht
        · rw [e]; exact vt_w (lcW_lt v)
        · rw [List.mem_singleton] at ht; rw [ht]; exact lcE_ok v m
/-- the tokens of a sentence of the law -/
def tlK (v : Int32) : Nat := lowN v 7
def tlM (v : Int32) : Nat := 1 + lowN (sr v 3) 3
def tlA (v m : Int32) : List (Int32 × Int32) := if tlK v = 0 then [(0, nI (16 + lowN m 6)), (0, nI 3)] else []
def tlB (v : Int32) (x : Nat) : List (Int32 × Int32) := if 1 < tlK v then [(0, nI x)] else []
def tlC (v m : Int32) : Nat → List (Int32 × Int32)
  | 0 => []
  | i + 1 => tlC v m i ++ ((if i = 0 then [] else [(0, nI 1)]) ++ lcL (sr v (2 * i + 5)) (sr m (3 * i + 2)))
def tlN (v : Int32) : Nat := if tlK v = 1 then 0 else tlM v
def tlQ (v : Int32) : Nat := if lowN v 2 = 0 then 4 else 1
def tlD (v m : Int32) : List (Int32 × Int32) := if 0 < tlK v then [(0, nI (22 + lowN m (tlQ v))), (0, nI 4), (1, nI (lowN (sr m 5) 4))] else []
def tlE (v m : Int32) : List (Int32 × Int32) := if tlK v = 3 then [(0, nI 8), (2, dayI (nI (1999 + lowN (sr m 7) 3)) (nI (1 + lowN (sr v 9) 12)) (nI 1))] else []
def tlF (v m : Int32) : List (Int32 × Int32) := if tlK v = 4 then [(0, nI 9), (2, dayI (nI (1999 + lowN (sr m 9) 3)) (nI (1 + lowN (sr v 9) 12)) (nI 28))] else []
def tlL (v m : Int32) : List (Int32 × Int32) := tlA v m ++ (tlB v 0 ++ (tlC v m (tlN v) ++ (tlB v 2 ++ (tlD v m ++ (tlE v m ++ tlF v m)))))
theorem ok_app {L M : List (Int32 × Int32)} (h1 : ∀ t, t ∈ L → vtB t.1 t.2 = true) (h2 : ∀ t, t ∈ M → vtB t.1 t.2 = true) : ∀ t, t ∈ L ++ M → vtB t.1 t.2 = true := fun t ht => (List.mem_append.mp ht).elim (h1 t) (h2 t)
theorem ok_nil : ∀ t : Int32 × Int32, t ∈ ([] : List (Int32 × Int32)) → vtB t.1 t.2 = true := fun t ht => by cases ht
theorem ok_cons {u : Int32 × Int32} {L : List (Int32 × Int32)} (h1 : vtB u.1 u.2 = true) (h2 : ∀ t, t ∈ L → vtB t.1 t.2 = true) : ∀ t, t ∈ u :: L → vtB t.1 t.2 = true := fun t ht => (List.mem_cons.mp ht).elim (fun e => by rw [e]; exact h1) (h2 t)
theorem tlC_ok (v m : Int32) : ∀ i t, t ∈ tlC v m i → vtB t.1 t.2 = true
  | 0 => ok_nil
  | i + 1 => ok_app (tlC_ok v m i) (ok_app (by split; exact ok_nil; exact ok_cons (vt_w (by decide)) ok_nil) (lcL_ok _ _))
theorem tlL_ok (v m : Int32) : ∀ t, t ∈ tlL v m → vtB t.1 t.2 = true := by
  have h1 := lowN_lt m (n := 6) (by decide)
  have h2 : lowN m (tlQ v) < 4 := by
    have := lowN_lt m (n := tlQ v) (by unfold tlQ; split <;> omega)
    have : tlQ v ≤ 4 := by unfold tlQ; split <;> omega
    omega
  have h3 := lowN_lt (sr m 5) (n := 4) (by decide)
  have h4 := lowN_lt (sr m 7) (n := 3) (by decide)
  have h5 := lowN_lt (sr m 9) (n := 3) (by decide)
  have h6 := lowN_lt (sr v 9) (n := 12) (by decide)
  unfold tlL
  refine ok_app ?_ (ok_app ?_ (ok_app (tlC_ok v m _) (ok_app ?_ (ok_app ?_ (ok_app ?_ ?_)))))
  · unfold tlA; split
    · exact ok_cons (vt_w (by omega)) (ok_cons (vt_w (by decide)) ok_nil)
    · exact ok_nil
  · unfold tlB; split
    · exact ok_cons (vt_w (by decide)) ok_nil
    · exact ok_nil
  · unfold tlB; split
    · exact ok_cons (vt_w (by decide)) ok_nil
    · exact ok_nil
  · unfold tlD; split
    · exact ok_cons (vt_w (by omega)) (ok_cons (vt_w (by decide)) (ok_cons (vt_1 (num4 h3)) ok_nil))
    · exact ok_nil
  · unfold tlE; split
    · exact ok_cons (vt_w (by decide)) (ok_cons (vt_2 (dat_ok (by omega) (by omega) (by omega) (by omega) (by omega) (by omega))) ok_nil)
    · exact ok_nil
  · unfold tlF; split
    · exact ok_cons (vt_w (by decide)) (ok_cons (vt_2 (dat_ok (by omega) (by omega) (by omega) (by omega) (by omega) (by omega))) ok_nil)
    · exact ok_nil
/-- what the law's tell answers, and the book behind it -/
def tlT (S : Nat → Int32) (v m : Int32) : Nat → Int32 := apT (upd S 7 (nI 0)) 0 (tlL v m)
def tlV (S : Nat → Int32) (n cn : Nat) (v m : Int32) : Int32 := if (errF (tlT S v m) (apC 0 (tlL v m)) 0 false false 0).1 = -100005 then telV (tlT S v m) n (apC 0 (tlL v m)) false false tZ0 tZ0 0 else lst (nI cn) 0 (tlL v m)
def tlG (S : Nat → Int32) (n : Nat) (v m : Int32) : Bool := decide ((errF (tlT S v m) (apC 0 (tlL v m)) 0 false false 0).1 = -100005) && tOk (tlT S v m) n (apC 0 (tlL v m))
def tlS (S : Nat → Int32) (n : Nat) (v m : Int32) : Nat → Int32 := if tlG S n v m = true then tSt (tlT S v m) n (apC 0 (tlL v m)) else tlT S v m
def tlNn (S : Nat → Int32) (n : Nat) (v m : Int32) : Nat := if tlG S n v m = true then n + 1 else n
section LNI
variable {p : Program} {l : Launch} {e : Env} {R : Room} {s : State} {m : MethodId} {args : Array Value} {below : List Frame} {meth : Method} {c : Code} {H : Heap} {locs : List Loc} {cells slots : Nat} {Q : State → Prop}
variable {cc : ByteArray} {pc : Nat} {ls : Array Slot} {rest : List Value}
theorem ln_if_eq (a : Nat) (ha : a < 2 ^ 31) (hx : p.tables.exec = Jvm.exec) (hb : c.code = cc) {off : Int} {tgt : Nat} (hdg : decode cc pc = .ok (.ifCond .eq off, 3)) (ht : (pc : Int) + off = (tgt : Int))
    (kt : a = 0 → W p l e R s m args below meth c H locs cells slots Q (F0 m tgt ls rest)) (kf : a ≠ 0 → W p l e R s m args below meth c H locs cells slots Q (F0 m (pc + 3) ls rest)) : W p l e R s m args below meth c H locs cells slots Q (F0 m pc ls (.int (nI a) :: rest)) :=
  lv_if_eq hx hb hdg ht (fun h => kt ((nI_eq ha (show 0 < 2 ^ 31 by decide)).mp h)) (fun h => kf (fun q => h (by rw [q]; rfl)))
theorem ln_if_ne (a : Nat) (ha : a < 2 ^ 31) (hx : p.tables.exec = Jvm.exec) (hb : c.code = cc) {off : Int} {tgt : Nat} (hdg : decode cc pc = .ok (.ifCond .ne off, 3)) (ht : (pc : Int) + off = (tgt : Int))
    (kt : a ≠ 0 → W p l e R s m args below meth c H locs cells slots Q (F0 m tgt ls rest)) (kf : a = 0 → W p l e R s m args below meth c H locs cells slots Q (F0 m (pc + 3) ls rest)) : W p l e R s m args below meth c H locs cells slots Q (F0 m pc ls (.int (nI a) :: rest)) :=
  lv_if_ne hx hb hdg ht (fun h => kt (fun q => h (by rw [q]; rfl))) (fun h => kf ((nI_eq ha (show 0 < 2 ^ 31 by decide)).mp h))
theorem ln_if_le (a : Nat) (ha : a < 2 ^ 31) (hx : p.tables.exec = Jvm.exec) (hb : c.code = cc) {off : Int} {tgt : Nat} (hdg : decode cc pc = .ok (.ifCond .le off, 3)) (ht : (pc : Int) + off = (tgt : Int))
    (kt : a = 0 → W p l e R s m args below meth c H locs cells slots Q (F0 m tgt ls rest)) (kf : a ≠ 0 → W p l e R s m args below meth c H locs cells slots Q (F0 m (pc + 3) ls rest)) : W p l e R s m args below meth c H locs cells slots Q (F0 m pc ls (.int (nI a) :: rest)) :=
  lv_if_le hx hb hdg ht (fun h => kt (nI_z ha h)) (fun h => kf (fun q => h (by rw [q]; decide)))
theorem ln_if_lt (a : Nat) (ha : a < 2 ^ 31) (hx : p.tables.exec = Jvm.exec) (hb : c.code = cc) {off : Int} {tgt : Nat} (hdg : decode cc pc = .ok (.ifCond .lt off, 3)) (ht : (pc : Int) + off = (tgt : Int))
    (kf : W p l e R s m args below meth c H locs cells slots Q (F0 m (pc + 3) ls rest)) : W p l e R s m args below meth c H locs cells slots Q (F0 m pc ls (.int (nI a) :: rest)) :=
  lv_if_lt hx hb hdg ht (fun h => absurd h (nI_pos (by omega))) (fun h => kf)
end LNI
