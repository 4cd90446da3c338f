/-! THE CLASS, whole: states copied and recorded -/
theorem CC.now_ {G : mG} {f f1 : mE} {T : Nat → Nat} {o q0 ra rd sp rr sb : Nat} {S S1 P : Nat → Int32} {rc : Nat} (h : CC G f T o q0 ra rd sp rr sb S P rc) {T1 : Nat → Nat} (hk : Kp f f1 T T1 (fun t => t ≠ q0 + 1)) (hs : StR G f1 T1 q0 S1) : CC G f1 T1 o q0 ra rd sp rr sb S1 P rc := by
  obtain ⟨hO, tO, hRe, hSp, hRr, hTb, hSt, hHi⟩ := h
  obtain ⟨vs, hq⟩ := hSt.obj
  have n1 : o + 1 ≠ q0 + 1 := fun z => ne_oo hO hq (by show (6 : Nat) ≠ 4; decide) (Nat.succ.inj z)
  have n2 : rd + 1 ≠ q0 + 1 := fun z => by obtain ⟨_, _, _, _, _, _, _, _, _, _, _, _, _, hR, -⟩ := hRe; exact ne_oo hR.1 hq (by show (1 : Nat) ≠ 4; decide) (Nat.succ.inj z)
  have n3 : sp + 1 ≠ q0 + 1 := fun z => by obtain ⟨gs, hs0, -⟩ := hSp; exact ne_oi hq hs0 (Nat.succ.inj z).symm
  have n4 : rr + 1 ≠ q0 + 1 := fun z => by obtain ⟨gs, hs0, -⟩ := hRr; exact ne_oi hq hs0 (Nat.succ.inj z).symm
  have n5 : sb + 1 ≠ q0 + 1 := fun z => by obtain ⟨_, _, _, _, _, hC, -⟩ := hTb; exact ne_oo hC.1 hq (by show (0 : Nat) ≠ 4; decide) (Nat.succ.inj z)
  have n0 : (0 : Nat) ≠ q0 + 1 := by omega
  exact ⟨(hk.at hO tO n1).1, (hk.at hO tO n1).2, hRe.keep hk n2, hSp.keep hk n3, hRr.keep hk n4, hTb.keep hk n5, hs, hHi.keep hk n0 n1 (fun q vs hn _ z => hn (Nat.succ.inj z))⟩
def StV (S : Nat → Int32) (n cn : Nat) (g K V : Nat → Int32) : Prop := S 56 = nI n ∧ n ≤ 16 ∧ S 7 = nI cn ∧ cn ≤ 24 ∧ (∀ j, j < cn → K j = S (7 + 1 + j) ∧ V j = S (7 + 25 + j)) ∧ ∀ j, j < 7 → g j = S j
theorem cpy_at {f g : Nat → Int32} {n j : Nat} (h : j < n) : va_cpy f g 0 0 n j = f j := sb_cpy0 h
theorem StV.copied {S : Nat → Int32} {n cn : Nat} {g K V g1 K1 V1 : Nat → Int32} (h : StV S n cn g K V) : StV S n cn (va_cpy g g1 0 0 7) (va_cpy K K1 0 0 24) (va_cpy V V1 0 0 24) := by
  obtain ⟨a, b, c, d, e, k⟩ := h
  exact ⟨a, b, c, d, fun j hj => by rw [cpy_at (by omega), cpy_at (by omega)]; exact e j hj, fun j hj => by rw [cpy_at hj]; exact k j hj⟩
theorem StB.copied {G : mG} {f : mE} {T : Nat → Nat} {n : Nat} {B B1 : Nat → Option Nat} {S : Nat → Int32} (h : StB G f T n B S) (hn : n ≤ 16) : StB G f T n (copB B B1 16) S := by
  have e : ∀ i, i < 16 → copB B B1 16 i = B i := fun i hi => by unfold copB; rw [if_pos hi]
  exact ⟨fun i hi => by rw [e i (by omega)]; exact h.1 i hi, fun i h1 h2 => by rw [e i h2]; exact h.2 i h1 h2⟩
theorem StB.bt {G : mG} {f : mE} {T : Nat → Nat} {n : Nat} {B : Nat → Option Nat} {S : Nat → Int32} (h : StB G f T n B S) : ∀ i x, i < 16 → B i = some x → ∃ vs, f x = some (.inr (3, vs)) := by
  intro i x hi hx
  by_cases hn : i < n
  · obtain ⟨y, e, t, r, p, q, ab, gv, us, lo, hi2, a, -⟩ := h.1 i hn
    rw [hx] at e
    have := Option.some.inj e
    subst this
    exact ⟨_, a.1⟩
  · rw [h.2 i (by omega) hi] at hx; cases hx
/-- the six cells of two states are apart -/
theorem tag_ne {T : Nat → Nat} {x y a b : Nat} (hx : T x = a + 1) (hy : T y = b + 1) (h : a ≠ b) : x ≠ y := fun z => h (by rw [z, hy] at hx; omega)
theorem k_copyFrom (l : Launch) (G : mG) {f : mE} {T : Nat → Nat} {q b fc pr ka va n cn y yb yf yr yk yv n1 cn1 : Nat} {B B1 : Nat → Option Nat} {g K V S g1 K1 V1 S1 : Nat → Int32} (hA : StA G f T q b fc pr ka va n cn B g K V S) (hA1 : StA G f T y yb yf yr yk yv n1 cn1 B1 g1 K1 V1 S1) (hB1 : StB G f T n1 B1 S1) (hq : q ≠ y) : mC l G yX3_copyFrom wsX3_copyFrom ({ frames := 2, cells := 0, slots := 0, locals := 47 } : Room) f [.ref q, .ref y] (fun v f1 => v = none ∧ StR G f1 T q S1 ∧ Kp f f1 T T (fun t => t ≠ q + 1)) 0 0 := by
  obtain ⟨⟨a1, a2, a3, a4, a5, a6⟩, hne, ⟨t1, t2, t3, t4, t5, t6⟩, -⟩ := hA
  obtain ⟨⟨b1, b2, b3, b4, b5, b6⟩, -, ⟨u1, u2, u3, u4, u5, u6⟩, hv⟩ := hA1
  have nn := Ne.symm hq
  refine (c3_copyFrom l G a1 a2 a3 a4 a5 a6 b1 b2 b3 b4 b5 b6 nn (tag_ne u2 t2 nn) (tag_ne u3 t3 nn) (tag_ne u4 t4 nn) hne (tag_ne u5 t5 nn) (tag_ne u5 t6 nn) (tag_ne u6 t5 nn) (tag_ne u6 t6 nn) hB1.bt).mono (fun v f1 hp => ?_)
  obtain ⟨rfl, c1, c2, c3, c4, c5, c6, hF⟩ := hp
  have hk : Kp f f1 T T (fun t => t ≠ q + 1) := fun c e hc => ⟨rfl, fun z => hF c e hc (fun w => z (by rw [w]; exact t1)) (fun w => z (by rw [w]; exact t2)) (fun w => z (by rw [w]; exact t3)) (fun w => z (by rw [w]; exact t4)) (fun w => z (by rw [w]; exact t5)) (fun w => z (by rw [w]; exact t6))⟩
  have hv' : StV S1 n1 cn1 g1 K1 V1 := hv
  exact ⟨rfl, ⟨b, fc, pr, ka, va, n1, cn1, _, _, _, _, ⟨⟨c1, c2, c3, c4, c5, c6⟩, hne, ⟨t1, t2, t3, t4, t5, t6⟩, hv'.copied⟩, (hB1.keep hk (by omega)).copied hv'.2.1⟩, hk⟩
theorem CC.rec_ {G : mG} {f f1 : mE} {T : Nat → Nat} {o q0 ra rd sp rr sb : Nat} {S P : Nat → Int32} {rc : Nat} (h : CC G f T o q0 ra rd sp rr sb S P rc) {T1 : Nat → Nat} {y rc1 : Nat} {P1 : Nat → Int32} (hyq : q0 ≠ y) (hy : ∀ x e, f x = some e → (∀ vs, e ≠ .inr (4, vs)) → x ≠ y) (hk : Kp f f1 T T1 (fun t => t ≠ o + 1 ∧ t ≠ y + 1)) (hO1 : f1 o = some (.inr (6, [.ref q0, .ref ra, .int (nI rc1), .ref rd, .ref sp, .ref rr, .ref sb]))) (hH : HiI G f1 T1 o q0 ra P1 rc1) : CC G f1 T1 o q0 ra rd sp rr sb S P1 rc1 ∧ Kp f f1 T T1 (fun t => t = 0 ∨ t = q0 + 1 ∨ t = rd + 1) := by
  obtain ⟨hO, tO, hRe, hSp, hRr, hTb, hSt, hHi⟩ := h
  obtain ⟨vs, hq⟩ := hSt.obj
  have n0 : (0 : Nat) ≠ o + 1 ∧ (0 : Nat) ≠ y + 1 := by omega
  have n2 : rd + 1 ≠ o + 1 ∧ rd + 1 ≠ y + 1 := by
    obtain ⟨_, _, _, _, _, _, _, _, _, _, _, _, _, hR, -⟩ := hRe
    exact ⟨fun z => ne_oo hR.1 hO (by show (1 : Nat) ≠ 6; decide) (Nat.succ.inj z), fun z => hy _ _ hR.1 (fun vs e => by cases e) (Nat.succ.inj z)⟩
  have n3 : sp + 1 ≠ o + 1 ∧ sp + 1 ≠ y + 1 := by
    obtain ⟨gs, hs0, -⟩ := hSp
    exact ⟨fun z => ne_oi hO hs0 (Nat.succ.inj z).symm, fun z => hy _ _ hs0 (fun vs e => by cases e) (Nat.succ.inj z)⟩
  have n4 : rr + 1 ≠ o + 1 ∧ rr + 1 ≠ y + 1 := by
    obtain ⟨gs, hs0, -⟩ := hRr
    exact ⟨fun z => ne_oi hO hs0 (Nat.succ.inj z).symm, fun z => hy _ _ hs0 (fun vs e => by cases e) (Nat.succ.inj z)⟩
  have n5 : sb + 1 ≠ o + 1 ∧ sb + 1 ≠ y + 1 := by
    obtain ⟨_, _, _, _, _, hC, -⟩ := hTb
    exact ⟨fun z => ne_oo hC.1 hO (by show (0 : Nat) ≠ 6; decide) (Nat.succ.inj z), fun z => hy _ _ hC.1 (fun vs e => by cases e) (Nat.succ.inj z)⟩
  have n6 : q0 + 1 ≠ o + 1 ∧ q0 + 1 ≠ y + 1 := ⟨fun z => ne_oo hq hO (by show (4 : Nat) ≠ 6; decide) (Nat.succ.inj z), fun z => hyq (Nat.succ.inj z)⟩
  refine ⟨⟨hO1, (hk o _ hO).1.trans tO, hRe.keep hk n2, hSp.keep hk n3, hRr.keep hk n4, hTb.keep hk n5, hSt.keep hk n0 n6, hH⟩, hk.mono (fun t ht => ?_)⟩
  rcases ht with rfl | rfl | rfl
  · exact n0
  · exact n6
  · exact n2
theorem cpK_lo {S P : Nat → Int32} {q i w : Nat} (h : i < q) (hw : w < 1113) : cpK S P q 1113 (1113 * i + w) = P (1113 * i + w) := by
  have : 1113 * i + w < 1113 * q := by
    have h2 : i + 1 ≤ q := h
    have h3 : 1113 * (i + 1) ≤ 1113 * q := Nat.mul_le_mul_left _ h2
    omega
  unfold cpK; rw [if_neg (by omega)]
theorem cpK_at {S P : Nat → Int32} {q w : Nat} (hw : w < 1113) : cpK S P q 1113 (1113 * q + w) = S w := by
  unfold cpK; rw [if_pos (by omega), Nat.add_sub_cancel_left]
def pickZ (c : Nat) (S : Nat → Int32) (Z : Nat → Nat → Int32) (i : Nat) : Nat → Int32 := if i = c then S else Z i
theorem pickZ_at {c : Nat} {S : Nat → Int32} {Z : Nat → Nat → Int32} : pickZ c S Z c = S := if_pos rfl
theorem pickZ_ne {c i : Nat} {S : Nat → Int32} {Z : Nat → Nat → Int32} (h : ¬ i = c) : pickZ c S Z i = Z i := if_neg h
theorem k_recordNow (l : Launch) (G : mG) {f : mE} {T : Nat → Nat} {o q0 ra rd sp rr sb : Nat} {S P : Nat → Int32} {rc : Nat} (h : CC G f T o q0 ra rd sp rr sb S P rc) : mC l G yX5_recordNow wsX5_recordNow ({ frames := 3, cells := 6, slots := 78, locals := 69 } : Room) f [.ref o] (fun v f1 => v = none ∧ ∃ T1, CC G f1 T1 o q0 ra rd sp rr sb S (recP S P rc) (recN rc) ∧ Kp f f1 T T1 (fun t => t = 0 ∨ t = q0 + 1 ∨ t = rd + 1)) 6 78 := by
  have h0 := h
  obtain ⟨hO, tO, hRe, hSp, hRr, hTb, ⟨b, fc, pr, ka, va, n, cn, B, g, K, V, hA, hB⟩, ⟨RB, Z, hra, tra, hrc, hRB, hZ, hinj⟩⟩ := h
  obtain ⟨⟨a1, a2, a3, a4, a5, a6⟩, hne, ⟨t1, t2, t3, t4, t5, t6⟩, hv⟩ := hA
  have hv' : StV S n cn g K V := hv
  by_cases h8 : rc = 8
  · subst h8
    obtain ⟨⟨y, hy0⟩, -⟩ := hZ 0 (by decide)
    obtain ⟨hyq, hSy⟩ := hRB 0 y (by decide) hy0
    have hSy0 := hSy
    obtain ⟨yb, yf, yr, yk, yv, n1, cn1, B1, g1, K1, V1, ⟨⟨b1, b2, b3, b4, b5, b6⟩, hne1, ⟨u1, u2, u3, u4, u5, u6⟩, -⟩, -⟩ := hSy
    have nn := Ne.symm hyq
    have hB8 : ∀ i, i < 8 → ∃ x vs, RB i = some x ∧ f x = some (.inr (4, vs)) := fun i hi => by
      obtain ⟨⟨x, hx⟩, -⟩ := hZ i hi
      obtain ⟨vs, hx2⟩ := (hRB i x hi hx).2.obj
      exact ⟨x, vs, hx, hx2⟩
    refine (c5_record8 l G a1 a2 a3 a4 a5 a6 b1 b2 b3 b4 b5 b6 nn (tag_ne t2 u2 nn) (tag_ne t3 u3 nn) (tag_ne t4 u4 nn) hne1 (tag_ne t5 u5 nn) (tag_ne t5 u6 nn) (tag_ne t6 u5 nn) (tag_ne t6 u6 nn) hO hra hB.bt hy0 hB8).mono (fun v f1 hp => ?_)
    obtain ⟨rfl, c0, cra, c1, c2, c3, c4, c5, c6, hF⟩ := hp
    have hk : Kp f f1 T T (fun t => t ≠ o + 1 ∧ t ≠ y + 1) := fun c e hc => ⟨rfl, fun z => hF c e hc (fun w => z.1 (by rw [w]; exact tO)) (fun w => z.1 (by rw [w]; exact tra)) (fun w => z.2 (by rw [w]; exact u1)) (fun w => z.2 (by rw [w]; exact u2)) (fun w => z.2 (by rw [w]; exact u3)) (fun w => z.2 (by rw [w]; exact u4)) (fun w => z.2 (by rw [w]; exact u5)) (fun w => z.2 (by rw [w]; exact u6))⟩
    have hSn : StR G f1 T y S := ⟨yb, yf, yr, yk, yv, n, cn, _, _, _, _, ⟨⟨c1, c2, c3, c4, c5, c6⟩, hne1, ⟨u1, u2, u3, u4, u5, u6⟩, hv'.copied⟩, (hB.keep hk ⟨by omega, by omega⟩).copied hv'.2.1⟩
    have eR : ∀ i, i < 8 → va_up (remB RB 0 8) 7 (some y) i = if i = 7 then some y else RB (i + 1) := fun i hi => by
      unfold va_up remB
      by_cases e : i = 7
      · rw [if_pos e, if_pos e]
      · rw [if_neg e, if_neg e, if_pos (by omega)]
    obtain ⟨hC, hKp⟩ := h0.rec_ (f1 := f1) (T1 := T) (rc1 := 8) (P1 := recP S P 8) nn (fun x e hx he w => he _ (by rw [w, b1] at hx; exact (Option.some.inj hx).symm)) hk c0
      ⟨va_up (remB RB 0 8) 7 (some y), pickZ 7 S (fun i => Z (i + 1)), cra, tra, Nat.le_refl 8, fun i q hi e => by
        rw [eR i hi] at e
        by_cases e7 : i = 7
        · rw [if_pos e7] at e
          have := Option.some.inj e
          subst this
          exact ⟨hyq, by rw [e7, pickZ_at]; exact hSn⟩
        · rw [if_neg e7] at e
          obtain ⟨q1, q2⟩ := hRB (i + 1) q (by omega) e
          refine ⟨q1, ?_⟩
          rw [pickZ_ne e7]
          obtain ⟨vs, hqo⟩ := q2.obj
          exact q2.keep hk ⟨by omega, by omega⟩ ⟨fun w => ne_oo hqo hO (by show (4 : Nat) ≠ 6; decide) (Nat.succ.inj w), fun w => by
            have w2 : q = y := Nat.succ.inj w
            subst w2
            have := hinj (i + 1) 0 q (by omega) (by decide) e hy0
            omega⟩, fun i hi => ⟨by
        rw [eR i hi]
        by_cases e7 : i = 7
        · exact ⟨y, if_pos e7⟩
        · rw [if_neg e7]; exact (hZ (i + 1) (by omega)).1, fun w hw => by
        rw [recP, if_pos rfl]
        by_cases e7 : i = 7
        · subst e7; rw [pickZ_at]; exact (cpK_at hw).symm
        · rw [pickZ_ne e7, cpK_lo (by omega) hw, (hZ (i + 1) (by omega)).2 w hw]
          unfold shK
          rw [if_pos (by omega)]
          congr 1; omega⟩, fun i j q hi hj ei ej => by
        rw [eR i hi] at ei
        rw [eR j hj] at ej
        by_cases e7 : i = 7
        · rw [if_pos e7] at ei
          have := Option.some.inj ei
          subst this
          by_cases f7 : j = 7
          · omega
          · rw [if_neg f7] at ej
            have := hinj (j + 1) 0 _ (by omega) (by decide) ej hy0
            omega
        · rw [if_neg e7] at ei
          by_cases f7 : j = 7
          · rw [if_pos f7] at ej
            have := Option.some.inj ej
            subst this
            have := hinj (i + 1) 0 _ (by omega) (by decide) ei hy0
            omega
          · rw [if_neg f7] at ej
            have := hinj (i + 1) (j + 1) q (by omega) (by omega) ei ej
            omega⟩
    exact ⟨rfl, T, hC, hKp⟩
  · have hlt : rc < 8 := by omega
    have eP : recP S P rc = cpK S P rc 1113 := by rw [recP, if_neg h8]
    have eN : recN rc = rc + 1 := by rw [recN, if_neg h8]
    rw [eP, eN]
    rcases opt_cases (RB rc) with hy0 | ⟨y, hy0⟩
    · refine (c5_recordN l G a1 a2 a3 a4 a5 a6 hO hra hB.bt hlt hy0).mono (fun v f1 hp => ?_)
      obtain ⟨rfl, c0, y, yb, yf, yr, yk, yv, f1', f2, f3, f4, f5, f6, hne1, cra, c1, c2, c3, c4, c5, c6, hF⟩ := hp
      have old : ∀ c e, f c = some e → ¬ (c = y ∨ c = yb ∨ c = yf ∨ c = yr ∨ c = yk ∨ c = yv) := fun c e hc z => by
        rcases z with z | z | z | z | z | z <;> (subst z; simp_all)
      have hk : Kp f f1 T (fun c => if c = y ∨ c = yb ∨ c = yf ∨ c = yr ∨ c = yk ∨ c = yv then y + 1 else T c) (fun t => t ≠ o + 1 ∧ t ≠ y + 1) := fun c e hc => ⟨if_neg (old c e hc), fun z => hF c e hc (fun w => z.1 (by rw [w]; exact tO)) (fun w => z.1 (by rw [w]; exact tra))⟩
      have hk2 : Kp f f1 T (fun c => if c = y ∨ c = yb ∨ c = yf ∨ c = yr ∨ c = yk ∨ c = yv then y + 1 else T c) (fun t => t ≠ o + 1) := fun c e hc => ⟨if_neg (old c e hc), fun z => hF c e hc (fun w => z (by rw [w]; exact tO)) (fun w => z (by rw [w]; exact tra))⟩
      have nn : q0 ≠ y := ne_none a1 f1'
      have hSn : StR G f1 (fun c => if c = y ∨ c = yb ∨ c = yf ∨ c = yr ∨ c = yk ∨ c = yv then y + 1 else T c) y S := ⟨yb, yf, yr, yk, yv, n, cn, _, _, _, _, ⟨⟨c1, c2, c3, c4, c5, c6⟩, hne1, ⟨if_pos (by simp), if_pos (by simp), if_pos (by simp), if_pos (by simp), if_pos (by simp), if_pos (by simp)⟩, hv'.copied⟩, (hB.keep hk2 (by omega)).copied hv'.2.1⟩
      obtain ⟨hC, hKp⟩ := h0.rec_ (f1 := f1) (rc1 := rc + 1) (P1 := cpK S P rc 1113) nn (fun x e hx _ => ne_none hx f1') hk c0
        ⟨va_up RB rc (some y), pickZ rc S Z, cra, (hk2 ra _ hra).1.trans tra, by omega, fun i q hi e => by
          by_cases ei : i = rc
          · subst ei
            rw [va_up_self] at e
            have := Option.some.inj e
            subst this
            exact ⟨Ne.symm nn, by rw [pickZ_at]; exact hSn⟩
          · rw [va_up_ne _ _ ei] at e
            obtain ⟨q1, q2⟩ := hRB i q hi e
            refine ⟨q1, ?_⟩
            rw [pickZ_ne ei]
            obtain ⟨vs, hqo⟩ := q2.obj
            exact q2.keep hk2 (by omega) (fun w => ne_oo hqo hO (by show (4 : Nat) ≠ 6; decide) (Nat.succ.inj w)), fun i hi => ⟨by
          by_cases ei : i = rc
          · subst ei; exact ⟨y, va_up_self _ _ _⟩
          · rw [va_up_ne _ _ ei]; exact (hZ i (by omega)).1, fun w hw => by
          by_cases ei : i = rc
          · subst ei; rw [pickZ_at]; exact (cpK_at hw).symm
          · rw [pickZ_ne ei, cpK_lo (by omega) hw]; exact (hZ i (by omega)).2 w hw⟩, fun i j q hi hj ei ej => by
          have fresh : ∀ i, i < 8 → i ≠ rc → va_up RB rc (some y) i = some y → False := fun i hi ne e => by
            rw [va_up_ne _ _ ne] at e
            obtain ⟨vs, hqo⟩ := (hRB i y hi e).2.obj
            rw [f1'] at hqo; cases hqo
          by_cases e1 : i = rc
          · by_cases e2 : j = rc
            · omega
            · subst e1
              rw [va_up_self] at ei
              have := Option.some.inj ei
              subst this
              exact (fresh j hj e2 ej).elim
          · by_cases e2 : j = rc
            · subst e2
              rw [va_up_self] at ej
              have := Option.some.inj ej
              subst this
              exact (fresh i hi e1 ei).elim
            · rw [va_up_ne _ _ e1] at ei
              rw [va_up_ne _ _ e2] at ej
              exact hinj i j q hi hj ei ej⟩
      exact ⟨rfl, _, hC, hKp⟩
    · obtain ⟨hyq, hSy⟩ := hRB rc y hlt hy0
      obtain ⟨yb, yf, yr, yk, yv, n1, cn1, B1, g1, K1, V1, ⟨⟨b1, b2, b3, b4, b5, b6⟩, hne1, ⟨u1, u2, u3, u4, u5, u6⟩, -⟩, -⟩ := hSy
      have nn := Ne.symm hyq
      refine (c5_recordA l G a1 a2 a3 a4 a5 a6 b1 b2 b3 b4 b5 b6 nn (tag_ne t2 u2 nn) (tag_ne t3 u3 nn) (tag_ne t4 u4 nn) hne1 (tag_ne t5 u5 nn) (tag_ne t5 u6 nn) (tag_ne t6 u5 nn) (tag_ne t6 u6 nn) hO hra hB.bt hlt hy0).mono (fun v f1 hp => ?_)
      obtain ⟨rfl, c0, c1, c2, c3, c4, c5, c6, hF⟩ := hp
      have hk : Kp f f1 T T (fun t => t ≠ o + 1 ∧ t ≠ y + 1) := fun c e hc => ⟨rfl, fun z => hF c e hc (fun w => z.1 (by rw [w]; exact tO)) (fun w => z.2 (by rw [w]; exact u1)) (fun w => z.2 (by rw [w]; exact u2)) (fun w => z.2 (by rw [w]; exact u3)) (fun w => z.2 (by rw [w]; exact u4)) (fun w => z.2 (by rw [w]; exact u5)) (fun w => z.2 (by rw [w]; exact u6))⟩
      have hSn : StR G f1 T y S := ⟨yb, yf, yr, yk, yv, n, cn, _, _, _, _, ⟨⟨c1, c2, c3, c4, c5, c6⟩, hne1, ⟨u1, u2, u3, u4, u5, u6⟩, hv'.copied⟩, (hB.keep hk ⟨by omega, by omega⟩).copied hv'.2.1⟩
      have cra : f1 ra = some (mQ G 3 8 RB) := hF ra _ hra (ne_oi hO hra).symm (ne_oi b1 hra).symm (ne_QQ hra b2 (by decide)) (ne_QI hra b3) (ne_oi b4 hra).symm (ne_QI hra b5) (ne_QI hra b6)
      obtain ⟨hC, hKp⟩ := h0.rec_ (f1 := f1) (T1 := T) (rc1 := rc + 1) (P1 := cpK S P rc 1113) nn (fun x e hx he w => he _ (by rw [w, b1] at hx; exact (Option.some.inj hx).symm)) hk c0
        ⟨RB, pickZ rc S Z, cra, tra, by omega, fun i q hi e => by
          by_cases ei : i = rc
          · subst ei
            rw [hy0] at e
            have := Option.some.inj e
            subst this
            exact ⟨hyq, by rw [pickZ_at]; exact hSn⟩
          · obtain ⟨q1, q2⟩ := hRB i q hi e
            refine ⟨q1, ?_⟩
            rw [pickZ_ne ei]
            obtain ⟨vs, hqo⟩ := q2.obj
            exact q2.keep hk ⟨by omega, by omega⟩ ⟨fun w => ne_oo hqo hO (by show (4 : Nat) ≠ 6; decide) (Nat.succ.inj w), fun w => by
              have w2 : q = y := Nat.succ.inj w
              subst w2
              exact ei (hinj i rc q hi hlt e hy0)⟩, fun i hi => ⟨by
          by_cases ei : i = rc
          · subst ei; exact ⟨y, hy0⟩
          · exact (hZ i (by omega)).1, fun w hw => by
          by_cases ei : i = rc
          · subst ei; rw [pickZ_at]; exact (cpK_at hw).symm
          · rw [pickZ_ne ei, cpK_lo (by omega) hw]; exact (hZ i (by omega)).2 w hw⟩, hinj⟩
      exact ⟨rfl, T, hC, hKp⟩

