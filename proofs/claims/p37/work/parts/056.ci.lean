/-! THE CLASS: its whole world. T: whose a cell is (0: a told sentence's, else the owner's address + 1) -/
def Kp (f f1 : mE) (T T1 : Nat → Nat) (own : Nat → Prop) : Prop := ∀ b e, f b = some e → T1 b = T b ∧ (own (T b) → f1 b = some e)
theorem Kp.mono {f f1 : mE} {T T1 : Nat → Nat} {own own2 : Nat → Prop} (h : Kp f f1 T T1 own) (ho : ∀ t, own2 t → own t) : Kp f f1 T T1 own2 := fun b e hb => ⟨(h b e hb).1, fun z => (h b e hb).2 (ho _ z)⟩
theorem Kp.at {f f1 : mE} {T T1 : Nat → Nat} {own : Nat → Prop} (h : Kp f f1 T T1 own) {b t : Nat} {e : va_E} (hb : f b = some e) (ht : T b = t) (ho : own t) : f1 b = some e ∧ T1 b = t := ⟨(h b e hb).2 (by rw [ht]; exact ho), (h b e hb).1.trans ht⟩
theorem Kp.rfl {f : mE} {T : Nat → Nat} {own : Nat → Prop} : Kp f f T T own := fun _ _ h => ⟨Eq.refl _, fun _ => h⟩
/-- a told sentence's text, out of its words -/
def sxT (s : Nat → Int32) : Nat → List Int32
  | 0 => []
  | t + 1 => sxT s t ++ ((if t = 0 then [] else [nI 32]) ++ tokL (s (1 + t)) (s (25 + t)))
theorem sxT_sen (S : Nat → Int32) (k : Nat) : ∀ t, sxT (fun w => S (57 + 66 * k + w)) t = senL S k t
  | 0 => rfl
  | t + 1 => by rw [sxT, senL, sxT_sen S k t]
theorem sxT_cong {s s2 : Nat → Int32} (e : ∀ w, w < 66 → s2 w = s w) : ∀ {t}, t ≤ 24 → sxT s2 t = sxT s t
  | 0, _ => rfl
  | t + 1, h => by rw [sxT, sxT, sxT_cong e (t := t) (by omega), e (1 + t) (by omega), e (25 + t) (by omega)]
def TxtC (G : mG) (f : mE) (t z : Nat) (L : List Int32) (g : Nat → Int32) : Prop := f t = some (.inr (8, [.ref z, .int (nI 0), .int 0, .int 0])) ∧ f z = some (mB G (L.length + 1) g) ∧ ∀ j, j < L.length + 1 → g j = (L ++ [nI 46]).getD j 0
def TxtR (G : mG) (f : mE) (T : Nat → Nat) (t : Nat) (s : Nat → Int32) : Prop :=
  ∃ (z ct : Nat) (g : Nat → Int32), TxtC G f t z (sxT s ct) g ∧ T t = 0 ∧ T z = 0 ∧ s 0 = nI ct ∧ ct ≤ 24
def SenV (ab gv us : Int32) (lo hi s : Nat → Int32) : Prop :=
  ab = s 49 ∧ s 50 = (if ab < nI 10 then gv else -100005) ∧ us = s 51 ∧ ∀ j, j < 7 → lo j = s (52 + j) ∧ hi j = s (59 + j)
def SenR (G : mG) (f : mE) (T : Nat → Nat) (x : Nat) (s : Nat → Int32) : Prop :=
  ∃ (t r p q : Nat) (ab gv us : Int32) (lo hi : Nat → Int32), sSen G f x r p q t lo hi ab gv us ∧ TxtR G f T t s ∧ T x = 0 ∧ T r = 0 ∧ T p = 0 ∧ T q = 0 ∧ SenV ab gv us lo hi s
theorem TxtR.keep {G : mG} {f f1 : mE} {T T1 : Nat → Nat} {t : Nat} {s : Nat → Int32} {own : Nat → Prop} (h : TxtR G f T t s) (hk : Kp f f1 T T1 own) (h0 : own 0) : TxtR G f1 T1 t s := by
  obtain ⟨z, ct, g, ⟨a1, a2, a3⟩, b1, b2, c⟩ := h
  exact ⟨z, ct, g, ⟨(hk.at a1 b1 h0).1, (hk.at a2 b2 h0).1, a3⟩, (hk.at a1 b1 h0).2, (hk.at a2 b2 h0).2, c⟩
theorem TxtR.cong {G : mG} {f : mE} {T : Nat → Nat} {t : Nat} {s s2 : Nat → Int32} (h : TxtR G f T t s) (e : ∀ w, w < 66 → s2 w = s w) : TxtR G f T t s2 := by
  obtain ⟨z, ct, g, a, b1, b2, c1, c2⟩ := h
  exact ⟨z, ct, g, by rw [sxT_cong e c2]; exact a, b1, b2, by rw [e 0 (by omega), c1], c2⟩
theorem SenR.keep {G : mG} {f f1 : mE} {T T1 : Nat → Nat} {x : Nat} {s : Nat → Int32} {own : Nat → Prop} (h : SenR G f T x s) (hk : Kp f f1 T T1 own) (h0 : own 0) : SenR G f1 T1 x s := by
  obtain ⟨t, r, p, q, ab, gv, us, lo, hi, ⟨a1, a2, a3, a4⟩, ht, b1, b2, b3, b4, c⟩ := h
  exact ⟨t, r, p, q, ab, gv, us, lo, hi, ⟨(hk.at a1 b1 h0).1, (hk.at a2 b2 h0).1, (hk.at a3 b3 h0).1, (hk.at a4 b4 h0).1⟩, ht.keep hk h0, (hk.at a1 b1 h0).2, (hk.at a2 b2 h0).2, (hk.at a3 b3 h0).2, (hk.at a4 b4 h0).2, c⟩
theorem SenR.cong {G : mG} {f : mE} {T : Nat → Nat} {x : Nat} {s s2 : Nat → Int32} (h : SenR G f T x s) (e : ∀ w, w < 66 → s2 w = s w) : SenR G f T x s2 := by
  obtain ⟨t, r, p, q, ab, gv, us, lo, hi, a, ht, b1, b2, b3, b4, c1, c2, c3, c4⟩ := h
  exact ⟨t, r, p, q, ab, gv, us, lo, hi, a, ht.cong e, b1, b2, b3, b4, by rw [e 49 (by omega)]; exact c1, by rw [e 50 (by omega)]; exact c2, by rw [e 51 (by omega)]; exact c3, fun j hj => by rw [e (52 + j) (by omega), e (59 + j) (by omega)]; exact c4 j hj⟩
def StA (G : mG) (f : mE) (T : Nat → Nat) (q b fc pr ka va n cn : Nat) (B : Nat → Option Nat) (g K V S : Nat → Int32) : Prop :=
  (f q = some (.inr (4, [.int (nI n), .ref b, .ref fc, .ref pr])) ∧ f b = some (mQ G 2 16 B) ∧ f fc = some (mI G 7 g) ∧ f pr = some (.inr (5, [.int (nI cn), .ref ka, .ref va])) ∧ f ka = some (mI G 24 K) ∧ f va = some (mI G 24 V)) ∧ ka ≠ va ∧
  (T q = q + 1 ∧ T b = q + 1 ∧ T fc = q + 1 ∧ T pr = q + 1 ∧ T ka = q + 1 ∧ T va = q + 1) ∧
  S 56 = nI n ∧ n ≤ 16 ∧ S 7 = nI cn ∧ cn ≤ 24 ∧ (∀ j, j < cn → K j = S (7 + 1 + j) ∧ V j = S (7 + 25 + j)) ∧ ∀ j, j < 7 → g j = S j
def StB (G : mG) (f : mE) (T : Nat → Nat) (n : Nat) (B : Nat → Option Nat) (S : Nat → Int32) : Prop :=
  (∀ i, i < n → ∃ x, B i = some x ∧ SenR G f T x (fun w => S (57 + 66 * i + w))) ∧ ∀ i, n ≤ i → i < 16 → B i = none
def StR (G : mG) (f : mE) (T : Nat → Nat) (q : Nat) (S : Nat → Int32) : Prop :=
  ∃ (b fc pr ka va n cn : Nat) (B : Nat → Option Nat) (g K V : Nat → Int32), StA G f T q b fc pr ka va n cn B g K V S ∧ StB G f T n B S
theorem StB.keep {G : mG} {f f1 : mE} {T T1 : Nat → Nat} {n : Nat} {B : Nat → Option Nat} {S : Nat → Int32} {own : Nat → Prop} (h : StB G f T n B S) (hk : Kp f f1 T T1 own) (h0 : own 0) : StB G f1 T1 n B S :=
  ⟨fun i hi => by obtain ⟨x, e, hx⟩ := h.1 i hi; exact ⟨x, e, hx.keep hk h0⟩, h.2⟩
theorem StB.cong {G : mG} {f : mE} {T : Nat → Nat} {n : Nat} {B : Nat → Option Nat} {S S2 : Nat → Int32} (h : StB G f T n B S) (hn : n ≤ 16) (e : ∀ w, 57 ≤ w → w < 1113 → S2 w = S w) : StB G f T n B S2 :=
  ⟨fun i hi => by obtain ⟨x, ex, hx⟩ := h.1 i hi; exact ⟨x, ex, hx.cong (fun w hw => e _ (by omega) (by omega))⟩, h.2⟩
theorem StA.keep {G : mG} {f f1 : mE} {T T1 : Nat → Nat} {q b fc pr ka va n cn : Nat} {B : Nat → Option Nat} {g K V S : Nat → Int32} {own : Nat → Prop} (h : StA G f T q b fc pr ka va n cn B g K V S) (hk : Kp f f1 T T1 own) (h1 : own (q + 1)) : StA G f1 T1 q b fc pr ka va n cn B g K V S := by
  obtain ⟨⟨a1, a2, a3, a4, a5, a6⟩, hn, ⟨t1, t2, t3, t4, t5, t6⟩, c⟩ := h
  exact ⟨⟨(hk.at a1 t1 h1).1, (hk.at a2 t2 h1).1, (hk.at a3 t3 h1).1, (hk.at a4 t4 h1).1, (hk.at a5 t5 h1).1, (hk.at a6 t6 h1).1⟩, hn, ⟨(hk.at a1 t1 h1).2, (hk.at a2 t2 h1).2, (hk.at a3 t3 h1).2, (hk.at a4 t4 h1).2, (hk.at a5 t5 h1).2, (hk.at a6 t6 h1).2⟩, c⟩
theorem StR.keep {G : mG} {f f1 : mE} {T T1 : Nat → Nat} {q : Nat} {S : Nat → Int32} {own : Nat → Prop} (h : StR G f T q S) (hk : Kp f f1 T T1 own) (h0 : own 0) (h1 : own (q + 1)) : StR G f1 T1 q S := by
  obtain ⟨b, fc, pr, ka, va, n, cn, B, g, K, V, hA, hB⟩ := h
  exact ⟨b, fc, pr, ka, va, n, cn, B, g, K, V, hA.keep hk h1, hB.keep hk h0⟩
theorem StR.cong {G : mG} {f : mE} {T : Nat → Nat} {q : Nat} {S S2 : Nat → Int32} (h : StR G f T q S) (e : ∀ w, w < 1113 → S2 w = S w) : StR G f T q S2 := by
  obtain ⟨b, fc, pr, ka, va, n, cn, B, g, K, V, ⟨hA1, hA2, hA3, c1, c2, c3, c4, c5, c6⟩, hB⟩ := h
  exact ⟨b, fc, pr, ka, va, n, cn, B, g, K, V, ⟨hA1, hA2, hA3, by rw [e 56 (by omega)]; exact c1, c2, by rw [e 7 (by omega)]; exact c3, c4, fun j hj => by rw [e (7 + 1 + j) (by omega), e (7 + 25 + j) (by omega)]; exact c5 j hj, fun j hj => by rw [e j (by omega)]; exact c6 j hj⟩, hB.cong c2 (fun w _ h => e w h)⟩
theorem StR.obj {G : mG} {f : mE} {T : Nat → Nat} {q : Nat} {S : Nat → Int32} (h : StR G f T q S) : ∃ vs, f q = some (.inr (4, vs)) := by
  obtain ⟨b, fc, pr, ka, va, n, cn, B, g, K, V, hA, hB⟩ := h
  exact ⟨_, hA.1.1⟩
def ReI (G : mG) (f : mE) (T : Nat → Nat) (rd : Nat) : Prop := ∃ (r p q t : Nat) (ab gv us pl : Int32) (ir ng : Bool) (cp : Int32) (lo hi : Nat → Int32), RD G f rd r p q ab gv us pl ir (nI t) ng cp lo hi ∧ t < 6 ∧ T rd = rd + 1 ∧ T r = rd + 1 ∧ T p = rd + 1 ∧ T q = rd + 1
def SpI (G : mG) (f : mE) (T : Nat → Nat) (sp : Nat) : Prop := ∃ gs, f sp = some (mI G 7 gs) ∧ T sp = sp + 1
def RrI (G : mG) (f : mE) (T : Nat → Nat) (rr : Nat) : Prop := ∃ row, f rr = some (mI G 16 row) ∧ T rr = rr + 1
def TbC (G : mG) (f : mE) (sb va ct cap : Nat) (ml : Int32) (by_ : Nat → Int32) : Prop := f sb = some (.inr (0, [.ref va, .int 0, .int ml, .int (nI ct)])) ∧ f va = some (mB G cap by_) ∧ 16 ≤ cap ∧ ct ≤ cap ∧ sb_Fit by_
def TbI (G : mG) (f : mE) (T : Nat → Nat) (sb : Nat) : Prop := ∃ (va ct cap : Nat) (ml : Int32) (by_ : Nat → Int32), TbC G f sb va ct cap ml by_ ∧ cap ≤ 600 ∧ T sb = sb + 1 ∧ T va = sb + 1 ∧ (ml = 0 ∨ ml = 1)
theorem ReI.keep {G : mG} {f f1 : mE} {T T1 : Nat → Nat} {rd : Nat} {own : Nat → Prop} (h : ReI G f T rd) (hk : Kp f f1 T T1 own) (h1 : own (rd + 1)) : ReI G f1 T1 rd := by
  obtain ⟨r, p, q, t, ab, gv, us, pl, ir, ng, cp, lo, hi, ⟨a1, a2, a3, a4, a5⟩, ht, t1, t2, t3, t4⟩ := h
  exact ⟨r, p, q, t, ab, gv, us, pl, ir, ng, cp, lo, hi, ⟨(hk.at a1 t1 h1).1, (hk.at a2 t2 h1).1, (hk.at a3 t3 h1).1, (hk.at a4 t4 h1).1, a5⟩, ht, (hk.at a1 t1 h1).2, (hk.at a2 t2 h1).2, (hk.at a3 t3 h1).2, (hk.at a4 t4 h1).2⟩
theorem SpI.keep {G : mG} {f f1 : mE} {T T1 : Nat → Nat} {sp : Nat} {own : Nat → Prop} (h : SpI G f T sp) (hk : Kp f f1 T T1 own) (h1 : own (sp + 1)) : SpI G f1 T1 sp := by
  obtain ⟨gs, a, t⟩ := h; exact ⟨gs, (hk.at a t h1).1, (hk.at a t h1).2⟩
theorem RrI.keep {G : mG} {f f1 : mE} {T T1 : Nat → Nat} {rr : Nat} {own : Nat → Prop} (h : RrI G f T rr) (hk : Kp f f1 T T1 own) (h1 : own (rr + 1)) : RrI G f1 T1 rr := by
  obtain ⟨gs, a, t⟩ := h; exact ⟨gs, (hk.at a t h1).1, (hk.at a t h1).2⟩
theorem TbI.keep {G : mG} {f f1 : mE} {T T1 : Nat → Nat} {sb : Nat} {own : Nat → Prop} (h : TbI G f T sb) (hk : Kp f f1 T T1 own) (h1 : own (sb + 1)) : TbI G f1 T1 sb := by
  obtain ⟨va, ct, cap, ml, by_, ⟨a1, a2, a3, a4⟩, hc, t1, t2, hm⟩ := h
  exact ⟨va, ct, cap, ml, by_, ⟨(hk.at a1 t1 h1).1, (hk.at a2 t2 h1).1, a3, a4⟩, hc, (hk.at a1 t1 h1).2, (hk.at a2 t2 h1).2, hm⟩
/-- the recorded states: rc of them count; P: what they hold, one behind the other -/
def HiI (G : mG) (f : mE) (T : Nat → Nat) (o q0 ra : Nat) (P : Nat → Int32) (rc : Nat) : Prop :=
  ∃ (RB : Nat → Option Nat) (Z : Nat → Nat → Int32), f ra = some (mQ G 3 8 RB) ∧ T ra = o + 1 ∧ rc ≤ 8 ∧ (∀ i q, i < 8 → RB i = some q → q ≠ q0 ∧ StR G f T q (Z i)) ∧ (∀ i, i < rc → (∃ q, RB i = some q) ∧ ∀ w, w < 1113 → Z i w = P (1113 * i + w)) ∧ ∀ i j q, i < 8 → j < 8 → RB i = some q → RB j = some q → i = j
theorem HiI.keep {G : mG} {f f1 : mE} {T T1 : Nat → Nat} {o q0 ra : Nat} {P : Nat → Int32} {rc : Nat} {own : Nat → Prop} (h : HiI G f T o q0 ra P rc) (hk : Kp f f1 T T1 own) (h0 : own 0) (h1 : own (o + 1)) (h2 : ∀ q vs, q ≠ q0 → f q = some (.inr (4, vs)) → own (q + 1)) : HiI G f1 T1 o q0 ra P rc := by
  obtain ⟨RB, Z, a, t, hr, b, c⟩ := h
  refine ⟨RB, Z, (hk.at a t h1).1, (hk.at a t h1).2, hr, fun i q hi e => ?_, c⟩
  obtain ⟨n0, hS⟩ := b i q hi e
  obtain ⟨vs, ho⟩ := hS.obj
  exact ⟨n0, hS.keep hk h0 (h2 q vs n0 ho)⟩
def CC (G : mG) (f : mE) (T : Nat → Nat) (o q0 ra rd sp rr sb : Nat) (S P : Nat → Int32) (rc : Nat) : Prop :=
  f o = some (.inr (6, [.ref q0, .ref ra, .int (nI rc), .ref rd, .ref sp, .ref rr, .ref sb])) ∧ T o = o + 1 ∧ ReI G f T rd ∧ SpI G f T sp ∧ RrI G f T rr ∧ TbI G f T sb ∧ StR G f T q0 S ∧ HiI G f T o q0 ra P rc
def CI (G : mG) (f : mE) (o : Nat) (S P : Nat → Int32) (rc : Nat) : Prop := ∃ (T : Nat → Nat) (q0 ra rd sp rr sb : Nat), CC G f T o q0 ra rd sp rr sb S P rc
/-- a state, for its questions -/
def FlatV (S : Nat → Int32) (n : Nat) (lo hi : Nat → Nat → Int32) (ab gv us : Nat → Int32) : Prop := ∀ i, i < n → SenV (ab i) (gv i) (us i) (lo i) (hi i) (fun w => S (57 + 66 * i + w))
theorem StB.opn {G : mG} {f : mE} {T : Nat → Nat} {n : Nat} {B : Nat → Option Nat} {S : Nat → Int32} (h : StB G f T n B S) : ∃ (X rg pa qa tk : Nat → Nat) (lo hi : Nat → Nat → Int32) (ab gv us : Nat → Int32), ∀ i, i < n → (B i = some (X i) ∧ sSen G f (X i) (rg i) (pa i) (qa i) (tk i) (lo i) (hi i) (ab i) (gv i) (us i)) ∧ (T (X i) = 0 ∧ T (rg i) = 0 ∧ T (pa i) = 0 ∧ T (qa i) = 0) ∧ TxtR G f T (tk i) (fun w => S (57 + 66 * i + w)) ∧ SenV (ab i) (gv i) (us i) (lo i) (hi i) (fun w => S (57 + 66 * i + w)) := by
  have h0 : ∀ i, ∃ z : Nat × Nat × Nat × Nat × Nat × Int32 × Int32 × Int32 × (Nat → Int32) × (Nat → Int32), i < n → (B i = some z.1 ∧ sSen G f z.1 z.2.1 z.2.2.1 z.2.2.2.1 z.2.2.2.2.1 z.2.2.2.2.2.2.2.2.1 z.2.2.2.2.2.2.2.2.2 z.2.2.2.2.2.1 z.2.2.2.2.2.2.1 z.2.2.2.2.2.2.2.1) ∧ (T z.1 = 0 ∧ T z.2.1 = 0 ∧ T z.2.2.1 = 0 ∧ T z.2.2.2.1 = 0) ∧ TxtR G f T z.2.2.2.2.1 (fun w => S (57 + 66 * i + w)) ∧ SenV z.2.2.2.2.2.1 z.2.2.2.2.2.2.1 z.2.2.2.2.2.2.2.1 z.2.2.2.2.2.2.2.2.1 z.2.2.2.2.2.2.2.2.2 (fun w => S (57 + 66 * i + w)) := by
    intro i
    by_cases hi : i < n
    · obtain ⟨x, e, t, r, p, q, ab, gv, us, lo, hi2, a, ht, b1, b2, b3, b4, c⟩ := h.1 i hi
      exact ⟨(x, r, p, q, t, ab, gv, us, lo, hi2), fun _ => ⟨⟨e, a⟩, ⟨b1, b2, b3, b4⟩, ht, c⟩⟩
    · exact ⟨(0, 0, 0, 0, 0, 0, 0, 0, fun _ => 0, fun _ => 0), fun z => absurd z hi⟩
  obtain ⟨z, hz⟩ := Classical.axiomOfChoice h0
  exact ⟨fun i => (z i).1, fun i => (z i).2.1, fun i => (z i).2.2.1, fun i => (z i).2.2.2.1, fun i => (z i).2.2.2.2.1, fun i => (z i).2.2.2.2.2.2.2.2.1, fun i => (z i).2.2.2.2.2.2.2.2.2, fun i => (z i).2.2.2.2.2.1, fun i => (z i).2.2.2.2.2.2.1, fun i => (z i).2.2.2.2.2.2.2.1, hz⟩

