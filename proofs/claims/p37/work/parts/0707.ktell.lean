/-! THE CLASS: a sentence told -/
theorem updN {S : Nat → Int32} {i j : Nat} {x : Int32} (h : j ≠ i) : upd S i x j = S j := by unfold upd; rw [if_neg h]
theorem updE {S : Nat → Int32} {i j : Nat} {x : Int32} (h : j = i) : upd S i x j = x := by unfold upd; rw [if_pos h]
section TZ
variable {S : Nat → Int32} {n : Nat} {Z : (Nat → Int32) × (Nat → Int32) × Int32 × Int32 × Int32}
theorem telU_ne {ab gi us : Int32} {j : Nat} (h1 : j ≠ 57 + 66 * n + 49) (h2 : j ≠ 57 + 66 * n + 50) (h3 : j ≠ 57 + 66 * n + 51) : telU S n ab gi us j = telC S n 49 j := by
  unfold telU; rw [updN h3, updN h2, updN h1]
theorem telZ_F {j : Nat} (h1 : j ≠ 7) (h2 : j ≠ 56) : telZ S n Z j = telF (telU S n Z.2.2.2.1 Z.2.2.2.2 Z.2.2.1) Z.1 Z.2.1 (57 + 66 * n) 7 j := by
  unfold telZ; rw [updN h1, updN h2]
theorem telF_no {T lo hi : Nat → Int32} {b i j : Nat} (h : ¬ (b + 52 ≤ j ∧ j < b + 52 + i)) (h2 : ¬ (b + 59 ≤ j ∧ j < b + 59 + i)) : telF T lo hi b i j = T j := by
  unfold telF; rw [if_neg h, if_neg h2]
theorem telZ_lo {j : Nat} (h1 : j ≠ 7) (h2 : j ≠ 56) (h3 : j < 57 + 66 * n) : telZ S n Z j = S j := by
  rw [telZ_F h1 h2, telF_no (by omega) (by omega), telU_ne (by omega) (by omega) (by omega)]
  unfold telC; rw [if_neg (by omega)]
theorem telZ_7 : telZ S n Z 7 = nI 0 := by unfold telZ; exact updE rfl
theorem telZ_56 : telZ S n Z 56 = nI (n + 1) := by unfold telZ; rw [updN (by decide)]; exact updE rfl
theorem telZ_tok {w : Nat} (h : w < 49) : telZ S n Z (57 + 66 * n + w) = S (7 + w) := by
  rw [telZ_F (by omega) (by omega), telF_no (by omega) (by omega), telU_ne (by omega) (by omega) (by omega)]
  unfold telC; rw [if_pos (by omega)]; congr 1; omega
theorem telZ_49 : telZ S n Z (57 + 66 * n + 49) = Z.2.2.2.1 := by
  rw [telZ_F (by omega) (by omega), telF_no (by omega) (by omega)]
  unfold telU; rw [updN (by omega), updN (by omega), updE rfl]
theorem telZ_50 : telZ S n Z (57 + 66 * n + 50) = Z.2.2.2.2 := by
  rw [telZ_F (by omega) (by omega), telF_no (by omega) (by omega)]
  unfold telU; rw [updN (by omega), updE rfl]
theorem telZ_51 : telZ S n Z (57 + 66 * n + 51) = Z.2.2.1 := by
  rw [telZ_F (by omega) (by omega), telF_no (by omega) (by omega)]
  unfold telU; rw [updE rfl]
theorem telZ_52 {j : Nat} (h : j < 7) : telZ S n Z (57 + 66 * n + (52 + j)) = Z.1 j := by
  rw [telZ_F (by omega) (by omega)]
  unfold telF; rw [if_pos (by omega), show 57 + 66 * n + (52 + j) - (57 + 66 * n + 52) = j by omega]
theorem telZ_59 {j : Nat} (h : j < 7) : telZ S n Z (57 + 66 * n + (59 + j)) = Z.2.1 j := by
  rw [telZ_F (by omega) (by omega)]
  unfold telF; rw [if_neg (by omega), if_pos (by omega), show 57 + 66 * n + (59 + j) - (57 + 66 * n + 59) = j by omega]
theorem telZ_old {i w : Nat} (h : i < n) (hw : w < 66) : telZ S n Z (57 + 66 * i + w) = S (57 + 66 * i + w) := telZ_lo (by omega) (by omega) (by omega)
end TZ
theorem VSn.tell {S : Nat → Int32} {n cn : Nat} (hv : VSn S n cn) (hn : n < 16) {ab gv us : Int32} {lo hi : Nat → Int32} (hK : TelK S n cn ab gv us lo hi) (lo0 hi0 : Nat → Int32) (ab0 : Int32) : VSn (telZ S n (rsAll S n cn lo0 hi0 ab0)) (n + 1) 0 := by
  obtain ⟨v1, v2, v3, v4, v5, v6, v7⟩ := hv
  obtain ⟨k1, k2, k3⟩ := hK
  obtain ⟨r1, r2, r3, r4⟩ := k1 lo0 hi0 ab0
  refine ⟨telZ_56, by omega, telZ_7, by omega, fun j hj => absurd hj (Nat.not_lt_zero j), fun i hi => ?_, fun j hj => by rw [telZ_lo (by omega) (by omega) (by omega)]; exact v7 j hj⟩
  by_cases e : i = n
  · subst e
    refine ⟨⟨cn, (telZ_tok (w := 0) (by omega)).trans v3, v4, fun t ht => ?_⟩, fun h => ?_, fun j hj => ?_⟩
    · have e1 := telZ_tok (S := S) (n := i) (Z := rsAll S i cn lo0 hi0 ab0) (w := 1 + t) (by omega)
      have e2 := telZ_tok (S := S) (n := i) (Z := rsAll S i cn lo0 hi0 ab0) (w := 25 + t) (by omega)
      show vtB (telZ S i (rsAll S i cn lo0 hi0 ab0) (57 + 66 * i + (1 + t))) (telZ S i (rsAll S i cn lo0 hi0 ab0) (57 + 66 * i + (25 + t))) = true
      rw [e1, e2, ← Nat.add_assoc, ← Nat.add_assoc]; exact v5 t ht
    · have h' : telZ S i (rsAll S i cn lo0 hi0 ab0) (57 + 66 * i + 49) < nI 10 := h
      rw [telZ_49, r3] at h'
      show inB (telZ S i (rsAll S i cn lo0 hi0 ab0) (57 + 66 * i + 50)) (-9999) 9999 = true
      rw [telZ_50, r4, if_pos h']; exact k2 h'
    · show inB (telZ S i (rsAll S i cn lo0 hi0 ab0) (57 + 66 * i + (52 + j))) _ _ = true ∧ inB (telZ S i (rsAll S i cn lo0 hi0 ab0) (57 + 66 * i + (59 + j))) _ _ = true
      obtain ⟨q1, q2, q3⟩ := k3 j hj
      rw [telZ_52 hj, telZ_59 hj, (r1 j hj).1, (r1 j hj).2]
      exact ⟨inB_t (Int32.not_lt.mpr q1) (Int32.not_lt.mpr (Int32.le_trans q2 q3)), inB_t (Int32.not_lt.mpr (Int32.le_trans q1 q2)) (Int32.not_lt.mpr q3)⟩
  · obtain ⟨⟨ct, a1, a2, a3⟩, a4, a5⟩ := v6 i (by omega)
    have e0 : ∀ w, w < 66 → telZ S n (rsAll S n cn lo0 hi0 ab0) (57 + 66 * i + w) = S (57 + 66 * i + w) := fun w hw => telZ_old (by omega) hw
    refine ⟨⟨ct, (e0 0 (by omega)).trans a1, a2, fun t ht => ?_⟩, fun h => ?_, fun j hj => ?_⟩
    · show vtB (telZ S n (rsAll S n cn lo0 hi0 ab0) (57 + 66 * i + (1 + t))) (telZ S n (rsAll S n cn lo0 hi0 ab0) (57 + 66 * i + (25 + t))) = true
      rw [e0 _ (by omega), e0 _ (by omega)]; exact a3 t ht
    · have h' : telZ S n (rsAll S n cn lo0 hi0 ab0) (57 + 66 * i + 49) < nI 10 := h
      rw [e0 _ (by omega)] at h'
      show inB (telZ S n (rsAll S n cn lo0 hi0 ab0) (57 + 66 * i + 50)) (-9999) 9999 = true
      rw [e0 _ (by omega)]; exact a4 h'
    · show inB (telZ S n (rsAll S n cn lo0 hi0 ab0) (57 + 66 * i + (52 + j))) _ _ = true ∧ inB (telZ S n (rsAll S n cn lo0 hi0 ab0) (57 + 66 * i + (59 + j))) _ _ = true
      rw [e0 _ (by omega), e0 _ (by omega)]; exact a5 j hj
theorem CC.sb_ {G : mG} {f f1 : mE} {T : Nat → Nat} {o q0 ra rd sp rr sb : Nat} {S P : Nat → Int32} {rc : Nat} (h : CC G f T o q0 ra rd sp rr sb S P rc) {va cap cap1 ct : Nat} {ml ml1 : Int32} {by1 : Nat → Int32} (h1 : f sb = some (.inr (0, [.ref va, .int (nI 0), .int ml, .int (nI ct)]))) (h2 : f va = some (mB G cap by1)) (tsb : T sb = sb + 1) (tva : T va = sb + 1) (hml : ml1 = 0 ∨ ml1 = 1) (hc1 : cap1 ≤ 600) (h16 : 16 ≤ cap1) {L : List Int32} (hlen : L.length + 1 ≤ cap1) (hW : TbW G f f1 sb va ml1 cap1 (L ++ [nI 46])) :
    ∃ (T1 : Nat → Nat) (z : Nat) (by2 : Nat → Int32), CC G f1 T1 o q0 ra rd sp rr sb S P rc ∧ Kp f f1 T T1 (fun t => t ≠ sb + 1) ∧ f1 sb = some (.inr (0, [.ref z, .int (nI 0), .int ml1, .int (nI (L.length + 1))])) ∧ f1 z = some (mB G cap1 by2) ∧ ∀ j, j < L.length + 1 → by2 j = (L ++ [nI 46]).getD j 0 := by
  obtain ⟨z, ⟨by2, s1, s2, hfit, hby⟩, hz, hfr⟩ := hW
  rw [List.length_append] at s1 hby
  have s1 : f1 sb = some (.inr (0, [.ref z, .int (nI 0), .int ml1, .int (nI (L.length + 1))])) := s1
  have hby : ∀ j, j < L.length + 1 → by2 j = (L ++ [nI 46]).getD j 0 := hby
  obtain ⟨hO, tO, hRe, hSp, hRr, hTb, hSt, hHi⟩ := h
  obtain ⟨vs, hq⟩ := hSt.obj
  let T1 : Nat → Nat := fun c => if c = z then sb + 1 else T c
  have hk : Kp f f1 T T1 (fun t => t ≠ sb + 1) := fun b e hb => by
    refine ⟨?_, fun w => hfr b e hb (fun y => w (by rw [y]; exact tsb)) (fun y => w (by rw [y]; exact tva))⟩
    show (if b = z then sb + 1 else T b) = T b
    by_cases e0 : b = z
    · rw [if_pos e0]
      rcases hz with hz | hz
      · rw [e0, hz]; exact tva.symm
      · rw [e0, hz] at hb; cases hb
    · rw [if_neg e0]
  have tz : T1 z = sb + 1 := if_pos rfl
  have n1 : o + 1 ≠ sb + 1 := fun w => ne_oo hO h1 (by show (6 : Nat) ≠ 0; decide) (Nat.succ.inj w)
  have n2 : rd + 1 ≠ sb + 1 := fun w => by obtain ⟨_, _, _, _, _, _, _, _, _, _, _, _, _, hR, -⟩ := hRe; exact ne_oo hR.1 h1 (by show (1 : Nat) ≠ 0; decide) (Nat.succ.inj w)
  have n3 : sp + 1 ≠ sb + 1 := fun w => by obtain ⟨gs, hs0, -⟩ := hSp; exact ne_oi h1 hs0 (Nat.succ.inj w).symm
  have n4 : rr + 1 ≠ sb + 1 := fun w => by obtain ⟨gs, hs0, -⟩ := hRr; exact ne_oi h1 hs0 (Nat.succ.inj w).symm
  have n5 : q0 + 1 ≠ sb + 1 := fun w => ne_oo hq h1 (by show (4 : Nat) ≠ 0; decide) (Nat.succ.inj w)
  refine ⟨T1, z, by2, ⟨(hk.at hO tO n1).1, (hk.at hO tO n1).2, hRe.keep hk n2, hSp.keep hk n3, hRr.keep hk n4, ⟨z, L.length + 1, cap1, ml1, by2, ⟨s1, s2, h16, hlen, hfit⟩, hc1, (hk sb _ h1).1.trans tsb, tz, hml⟩, hSt.keep hk (by omega) n5, hHi.keep hk (by omega) n1 (fun q vs _ hqo w => ne_oo hqo h1 (by show (4 : Nat) ≠ 0; decide) (Nat.succ.inj w))⟩, hk, s1, s2, hby⟩
theorem ne_cls {ci cj : Nat} {vs ws : List Value} (h : ci ≠ cj) : (.inr (ci, vs) : va_E) ≠ .inr (cj, ws) := fun w => h (congrArg Prod.fst (Sum.inr.inj w))
theorem CC.keepG {G : mG} {f f1 : mE} {T T1 : Nat → Nat} {o q0 ra rd sp rr sb : Nat} {S P : Nat → Int32} {rc : Nat} (h : CC G f T o q0 ra rd sp rr sb S P rc) {own : Nat → Prop} (hk : Kp f f1 T T1 own) (h0 : own 0) (h1 : ∀ b e, f b = some e → (∀ vs, e ≠ .inr (3, vs)) → own (b + 1)) : CC G f1 T1 o q0 ra rd sp rr sb S P rc := by
  obtain ⟨hO, tO, hRe, hSp, hRr, hTb, hSt, hHi⟩ := h
  obtain ⟨vs, hq⟩ := hSt.obj
  have n1 : own (o + 1) := h1 _ _ hO (fun _ => ne_cls (by decide))
  have n2 : own (rd + 1) := by obtain ⟨_, _, _, _, _, _, _, _, _, _, _, _, _, hR, -⟩ := hRe; exact h1 _ _ hR.1 (fun _ => ne_cls (by decide))
  have n3 : own (sp + 1) := by obtain ⟨gs, hs0, -⟩ := hSp; exact h1 _ _ hs0 (fun _ w => by cases w)
  have n4 : own (rr + 1) := by obtain ⟨gs, hs0, -⟩ := hRr; exact h1 _ _ hs0 (fun _ w => by cases w)
  have n5 : own (q0 + 1) := h1 _ _ hq (fun _ => ne_cls (by decide))
  have n6 : own (sb + 1) := by obtain ⟨_, _, _, _, _, hb, -⟩ := hTb; exact h1 _ _ hb.1 (fun _ => ne_cls (by decide))
  exact ⟨(hk.at hO tO n1).1, (hk.at hO tO n1).2, hRe.keep hk n2, hSp.keep hk n3, hRr.keep hk n4, hTb.keep hk n6, hSt.keep hk h0 n5, hHi.keep hk h0 n1 (fun q vs _ hqo => h1 _ _ hqo (fun _ => ne_cls (by decide)))⟩
theorem Kp.new {f f1 : mE} {T : Nat → Nat} {q : Nat} (hn : f q = none) (hfr : ∀ b, b ≠ q → f1 b = f b) (t : Nat) : Kp f f1 T (fun c => if c = q then t else T c) (fun _ => True) := fun b e hb =>
  have hq : b ≠ q := fun w => by rw [w, hn] at hb; cases hb
  ⟨if_neg hq, fun _ => (hfr b hq).trans hb⟩
theorem Kp.new2 {f f1 : mE} {T : Nat → Nat} {q z : Nat} (hn : f q = none) (hz : f z = none) (hfr : ∀ b e, f b = some e → f1 b = some e) (t : Nat) : Kp f f1 T (fun c => if c = q ∨ c = z then t else T c) (fun _ => True) := fun b e hb =>
  ⟨if_neg (fun w => by rcases w with w | w <;> (rw [w] at hb; first | rw [hn] at hb | rw [hz] at hb) <;> cases hb), fun _ => hfr b e hb⟩
theorem Kp.trans {f f1 f2 : mE} {T T1 T2 : Nat → Nat} {own : Nat → Prop} (h : Kp f f1 T T1 own) (h2 : Kp f1 f2 T1 T2 (fun _ => True)) : ∀ b e, f b = some e → own (T b) → f2 b = some e ∧ T2 b = T b := fun b e hb ho => by
  have a := h b e hb
  have c := h2 b e (a.2 ho)
  exact ⟨c.2 trivial, c.1.trans a.1⟩
/-- what was made apart, taken away again -/
theorem CC.drop {G : mG} {f1 : mE} {T : Nat → Nat} {o q0 ra rd sp rr sb : Nat} {S P : Nat → Int32} {rc : Nat} (h : CC G f1 T o q0 ra rd sp rr sb S P rc) {x : Nat} {vs : List Value} (hx : f1 x = some (.inr (3, vs))) (tx : T x = x + 1) : ∃ f : mE, f x = none ∧ (∀ b e, f b = some e → f1 b = some e) ∧ (∀ b e, f1 b = some e → b ≠ x → f b = some e) ∧ CC G f T o q0 ra rd sp rr sb S P rc := by
  have hk : Kp f1 (fun b => if b = x then none else f1 b) T T (fun t => t ≠ x + 1) := fun b e hb => ⟨rfl, fun w => (if_neg (fun y => w (by rw [y]; exact tx))).trans hb⟩
  refine ⟨fun b => if b = x then none else f1 b, if_pos rfl, fun b e hb => ?_, fun b e hb hn => (if_neg hn).trans hb, h.keepG hk (by omega) (fun b e hb hn w => ?_)⟩
  · by_cases y : b = x
    · have hb' : (if b = x then none else f1 b) = some e := hb
      rw [if_pos y] at hb'; cases hb'
    · have hb' : (if b = x then none else f1 b) = some e := hb
      rw [if_neg y] at hb'; exact hb'
  · have y : b = x := Nat.succ.inj w
    rw [y, hx] at hb
    exact hn vs (Option.some.inj hb).symm
theorem telZ_tk {S : Nat → Int32} {n j : Nat} {Z : (Nat → Int32) × (Nat → Int32) × Int32 × Int32 × Int32} (h : j < 24) : telZ S n Z (57 + 66 * n + (1 + j)) = S (7 + 1 + j) ∧ telZ S n Z (57 + 66 * n + (25 + j)) = S (7 + 25 + j) :=
  ⟨(telZ_tok (w := 1 + j) (by omega)).trans (congrArg S (by omega)), (telZ_tok (w := 25 + j) (by omega)).trans (congrArg S (by omega))⟩
theorem RD.keepW {G : mG} {f f1 : mE} {T T1 : Nat → Nat} {y rd r p q : Nat} {ab gv us pl lf cp : Int32} {ir ng : Bool} {lo hi : Nat → Int32} (hR : RD G f rd r p q ab gv us pl ir lf ng cp lo hi) (hT : RT T rd r p q) (hk : ∀ b e, f b = some e → T b ≠ y → f1 b = some e ∧ T1 b = T b) (ho : rd + 1 ≠ y) : RD G f1 rd r p q ab gv us pl ir lf ng cp lo hi ∧ RT T1 rd r p q := by
  obtain ⟨a1, a2, a3, a4, a5⟩ := hR
  obtain ⟨t1, t2, t3, t4⟩ := hT
  have k1 := hk _ _ a1 (by rw [t1]; exact ho)
  have k2 := hk _ _ a2 (by rw [t2]; exact ho)
  have k3 := hk _ _ a3 (by rw [t3]; exact ho)
  have k4 := hk _ _ a4 (by rw [t4]; exact ho)
  exact ⟨⟨k1.1, k2.1, k3.1, k4.1, a5⟩, k1.2.trans t1, k2.2.trans t2, k3.2.trans t3, k4.2.trans t4⟩
theorem k_textOf (l : Launch) (G : mG) {f : mE} {T : Nat → Nat} {o q0 ra rd sp rr sb : Nat} {S P : Nat → Int32} {rc n cn : Nat} (h : CC G f T o q0 ra rd sp rr sb S P rc) (hv : VSn S n cn) {b fc pr ka va : Nat} {B : Nat → Option Nat} {g K V : Nat → Int32} (hA : StA G f T q0 b fc pr ka va n cn B g K V S) (Z : (Nat → Int32) × (Nat → Int32) × Int32 × Int32 × Int32) : mC l G yX5_textOf wsX5_textOf ({ frames := 9, cells := 610, slots := 1810, locals := 199 } : Room) f [.ref o, .ref pr] (fun v ft => ∃ (tx : Nat) (T2 : Nat → Nat), v = some (va_rf (some tx)) ∧ CC G ft T2 o q0 ra rd sp rr sb S P rc ∧ (∀ b e, f b = some e → T b ≠ sb + 1 → ft b = some e ∧ T2 b = T b) ∧ TxtR G ft T2 tx (fun w => telZ S n Z (57 + 66 * n + w))) 610 1810 := by
  obtain ⟨⟨a1, a2, a3, a4, a5, a6⟩, hne, ⟨t1, t2, t3, t4, t5, t6⟩, c1, c2, c3, c4, c5, c6⟩ := hA
  obtain ⟨sva, sct, scap, sml, sby, ⟨e1, e2, e3, e4, e5⟩, hcap, tsb, tva, hml0⟩ := h.2.2.2.2.2.1
  have hqs : q0 ≠ sb := ne_oo a1 e1 (by show (4 : Nat) ≠ 0; decide)
  have hvt := hv.2.2.2.2.1
  refine mC.mono (c5_textOf l G h.1 e1 e2 e5 e4 e3 hcap a4 a5 a6 (fun w => by rw [w, tva] at t5; omega) (fun w => by rw [w, tva] at t6; omega) (S := telZ S n Z) (k := n) c4 (fun j hj => ⟨(c5 j hj).1.trans (telZ_tk (by omega)).1.symm, (c5 j hj).2.trans (telZ_tk (by omega)).2.symm⟩) (fun j hj => by rw [(telZ_tk (by omega)).1, (telZ_tk (by omega)).2]; exact hvt j hj)) (fun v ft hp => ?_)
  obtain ⟨ml1, hml1, cap1, hc1, h16, hlen, f1, tx, tz, tg, hW, rfl, n1, n2, hT, hFt⟩ := hp
  obtain ⟨T1, zz, by2, h1, hk1, -, -, -⟩ := h.sb_ e1 e2 tsb tva (ml1 := ml1) (by rcases hml1 with q | q <;> rw [q]; exact hml0; exact Or.inr rfl) hc1 h16 hlen hW
  have hk2 : Kp f1 ft T1 _ (fun _ => True) := Kp.new2 n1 n2 hFt 0
  refine ⟨tx, _, rfl, h1.keepG hk2 trivial (fun _ _ _ _ => trivial), hk1.trans hk2, tz, cn, tg, ?_, if_pos (Or.inl rfl), if_pos (Or.inr rfl), (telZ_tok (w := 0) (by omega)).trans c3, c4⟩
  rw [sxT_sen]; exact hT
theorem StR.add_ {G : mG} {f f1 : mE} {T : Nat → Nat} {q b fc pr ka va n cn : Nat} {B : Nat → Option Nat} {g K V S : Nat → Int32} (hA : StA G f T q b fc pr ka va n cn B g K V S) (hB : StB G f T n B S) (hn : n < 16) {x t2 r2 p2 q2 : Nat} (z0 : f x = none) (z4 : f r2 = none) (z5 : f p2 = none) (z6 : f q2 = none) {ab gv us : Int32} {lo1 hi1 lo hi : Nat → Int32}
    (h1 : f1 q = some (.inr (4, [.int (nI (n + 1)), .ref b, .ref fc, .ref pr]))) (h2 : f1 b = some (mQ G 2 16 (va_up B n (some x)))) (h3 : f1 pr = some (.inr (5, [.int (nI 0), .ref ka, .ref va]))) (hF : ∀ c e, f c = some e → c ≠ q → c ≠ b → c ≠ pr → f1 c = some e)
    (g1 : f1 x = some (.inr (3, [.ref t2, .ref r2, .int ab, .int gv, .int us]))) (g5 : f1 r2 = some (.inr (2, [.ref p2, .ref q2]))) (g6 : f1 p2 = some (mI G 7 (va_cpy lo lo1 0 0 7))) (g7 : f1 q2 = some (mI G 7 (va_cpy hi hi1 0 0 7)))
    {Z : (Nat → Int32) × (Nat → Int32) × Int32 × Int32 × Int32} (hT : TxtR G f T t2 (fun w => telZ S n Z (57 + 66 * n + w))) (hlo : ∀ j, j < 7 → Z.1 j = lo j ∧ Z.2.1 j = hi j) (hus : Z.2.2.1 = us) (hab : Z.2.2.2.1 = ab) (hgi : Z.2.2.2.2 = if ab < nI 10 then gv else -100005) : ∃ T1, StR G f1 T1 q (telZ S n Z) ∧ Kp f f1 T T1 (fun t => t ≠ q + 1) := by
  obtain ⟨⟨a1, a2, a3, a4, a5, a6⟩, hne, ⟨t1, t2', t3, t4, t5, t6⟩, v1, v2', v3, v4, v5, v6⟩ := hA
  have old : ∀ c e, f c = some e → ¬ (c = x ∨ c = r2 ∨ c = p2 ∨ c = q2) := fun c e hc z => by
    rcases z with z | z | z | z <;> (subst z; simp_all)
  let T1 : Nat → Nat := fun c => if c = x ∨ c = r2 ∨ c = p2 ∨ c = q2 then 0 else T c
  have hk : Kp f f1 T T1 (fun t => t ≠ q + 1) := fun c e hc => ⟨if_neg (old c e hc), fun z => hF c e hc (fun w => z (by rw [w]; exact t1)) (fun w => z (by rw [w]; exact t2')) (fun w => z (by rw [w]; exact t4))⟩
  have ot : ∀ c e t, f c = some e → T c = t → T1 c = t := fun c e t hc ht => (if_neg (old c e hc)).trans ht
  have nt : ∀ c, (c = x ∨ c = r2 ∨ c = p2 ∨ c = q2) → T1 c = 0 := fun c hc => if_pos hc
  refine ⟨T1, ⟨b, fc, pr, ka, va, n + 1, 0, _, g, K, V, ⟨⟨h1, h2, hF fc _ a3 (ne_oi a1 a3).symm (ne_QI a2 a3).symm (ne_oi a4 a3).symm, h3, hF ka _ a5 (ne_oi a1 a5).symm (ne_QI a2 a5).symm (ne_oi a4 a5).symm, hF va _ a6 (ne_oi a1 a6).symm (ne_QI a2 a6).symm (ne_oi a4 a6).symm⟩, hne, ⟨ot _ _ _ a1 t1, ot _ _ _ a2 t2', ot _ _ _ a3 t3, ot _ _ _ a4 t4, ot _ _ _ a5 t5, ot _ _ _ a6 t6⟩, telZ_56, by omega, telZ_7, by omega, fun i hi => absurd hi (Nat.not_lt_zero i), fun i hi => (v6 i hi).trans (telZ_lo (by omega) (by omega) (by omega)).symm⟩, ⟨fun i hi9 => ?_, fun i hi9 hi2 => ?_⟩⟩, hk⟩
  · by_cases e : i = n
    · subst e
      refine ⟨x, va_up_self _ _ _, t2, r2, p2, q2, ab, gv, us, va_cpy lo lo1 0 0 7, va_cpy hi hi1 0 0 7, ⟨g1, g5, g6, g7⟩, hT.keep hk (by omega), nt _ (by simp), nt _ (by simp), nt _ (by simp), nt _ (by simp), (telZ_49.trans hab).symm, telZ_50.trans hgi, (telZ_51.trans hus).symm, fun j hj => ?_⟩
      rw [cpy_at hj, cpy_at hj]
      show lo j = telZ S i Z (57 + 66 * i + (52 + j)) ∧ hi j = telZ S i Z (57 + 66 * i + (59 + j))
      rw [telZ_52 hj, telZ_59 hj]
      exact ⟨(hlo j hj).1.symm, (hlo j hj).2.symm⟩
    · rw [va_up_ne _ _ e]
      obtain ⟨y, ey, hy⟩ := hB.1 i (by omega)
      exact ⟨y, ey, (hy.keep hk (by omega)).cong (fun w hw => telZ_old (by omega) hw)⟩
  · rw [va_up_ne _ _ (by omega)]
    exact hB.2 i (by omega) hi2
set_option maxHeartbeats 4000000 in
set_option maxRecDepth 100000 in
theorem k_tell (l : Launch) (G : mG) {f : mE} {T : Nat → Nat} {o q0 ra rd sp rr sb : Nat} {S P : Nat → Int32} {rc n cn : Nat} (h : CC G f T o q0 ra rd sp rr sb S P rc) (hv : VSn S n cn) (ir0 wt0 : Bool) (lo0 hi0 : Nat → Int32) (ab0 : Int32) : mC l G yX5_tell wsX5_tell ({ frames := 10, cells := 620, slots := 1909, locals := 221 } : Room) f [.ref o] (fun v f1 => v = some (.int (telV S n cn ir0 wt0 lo0 hi0 ab0)) ∧ CI G f1 o (if telO S n cn ir0 wt0 lo0 hi0 ab0 = true then telZ S n (rsAll S n cn lo0 hi0 ab0) else S) (if telO S n cn ir0 wt0 lo0 hi0 ab0 = true then recP S P rc else P) (if telO S n cn ir0 wt0 lo0 hi0 ab0 = true then recN rc else rc) ∧ (telO S n cn ir0 wt0 lo0 hi0 ab0 = true → VSn (telZ S n (rsAll S n cn lo0 hi0 ab0)) (n + 1) 0)) 620 1909 := by
  refine mC.of (cc := cX5_tell) (maxL := 1) (ret := (some .int)) (by decide) rfl (Nat.le_of_ble_eq_true rfl) ?_
  intro pgm env s mt args below meth c A ls hx hb hml hr hlocks hown hname hts hK hE hA hM hl
  have hl : lv_has ls 1 [(0, .ref o)] := hl
  have hn16 := hv.2.1
  obtain ⟨b, fc, pr1, ka, va, B, X, rg, pa, qa, tk, loS, hiS, abS, gvS, usS, g, K, V, hA9, hB9, hQ, hg, hgS, hF9, hgv, hL, hT0, hTk⟩ := h.q hv
  have hF := fun w9 e (hb : f w9 = some e)  => hb
  refine lv_aload_n hx hb dX5_tell_0 rfl (lv_at hl 0 rfl) ?_
  refine mm_V (As := []) (rest := []) ⟨hx, hb, hml, hown, hts⟩ (k_isTellable l G h hv) (cwV 0 hts gX5_tell_X5_isTellable rfl rfl rfl (by decide +kernel) ⟨Nat.le_of_ble_eq_true rfl, Nat.le_of_ble_eq_true rfl⟩) hK hE hA hM (mm_recv hK hM h.1 (q := (RX5, TX5, 7)) rfl) rfl hl.1 rfl (Nat.le_of_ble_eq_true rfl) dX5_tell_1 ⟨Nat.le_of_ble_eq_true rfl, Nat.le_of_ble_eq_true rfl⟩ (fun v f Hp lcs hp hM => ?_)
  obtain ⟨tb, rfl, r, p, q, ab, gv, us, pl, t, cp, ir, ng, lo, hi, hR, ht6, hRT, h, hcan, hTK⟩ := hp
  obtain ⟨b, fc, pr1, ka, va, B, X, rg, pa, qa, tk, loS, hiS, abS, gvS, usS, g, K, V, hA9, hB9, hQ, hg, hgS, hF9, hgv, hL, hT0, hTk⟩ := h.q hv
  refine lvb_ne (tgt := 10) hx hb dX5_tell_4 (by decide) (fun cz1 => ?_) (fun cz1 => ?_)
  · refine lv_aload_n hx hb dX5_tell_10 rfl (lv_at hl 0 rfl) ?_
    refine mm_get (C := RX5) (T := TX5) (N := 7) (k := 0) hx hb hts (fun _ h => List.mem_cons_of_mem _ (List.mem_append_left _ (List.mem_append_left _ (List.mem_append_left _ (List.mem_append_left _ (List.mem_append_left _ (List.mem_append_left _ (List.mem_append_left _ (List.mem_append_right _ h))))))))) hown hK hM h.1 rfl (by decide) (hts (.fieldLink RX5 12 "SentenceRules" "now" "LSentenceRules$State;") (List.mem_of_getElem? (i := 2) rfl)) rfl rfl dX5_tell_11 ?_
    refine mm_get (C := RX3) (T := TX3) (N := 4) (k := 0) hx hb hts (fun _ h => List.mem_cons_of_mem _ (List.mem_append_left _ (List.mem_append_left _ (List.mem_append_left _ (List.mem_append_left _ (List.mem_append_left _ (List.mem_append_left _ (List.mem_append_right _ h)))))))) hown hK hM hA9.1.1 rfl (by decide) (hts (.fieldLink RX5 86 "SentenceRules$State" "sentenceCount" "I") (List.mem_of_getElem? (i := 3) rfl)) rfl rfl dX5_tell_14 ?_
    refine lv_bipush (v := (nI 16)) hx hb dX5_tell_17 (by decide +kernel) ?_
    refine ln_icmp_lt n 16 (by omega) (by omega) (tgt := 25) hx hb dX5_tell_19 (by decide) (fun cz2 => ?_) (fun cz2 => ?_)
    · have hn9 : n < 16 := (by have := cz2; omega)
      refine lv_aload_n hx hb dX5_tell_25 rfl (lv_at hl 0 rfl) ?_
      refine mm_V (As := []) (rest := []) ⟨hx, hb, hml, hown, hts⟩ (k_recordNow l G h) (cwV 0 hts gX5_tell_X5_recordNow rfl rfl rfl (by decide +kernel) ⟨Nat.le_of_ble_eq_true rfl, Nat.le_of_ble_eq_true rfl⟩) hK hE hA hM (mm_recv hK hM h.1 (q := (RX5, TX5, 7)) rfl) rfl hl.1 rfl (Nat.le_of_ble_eq_true rfl) dX5_tell_26 ⟨Nat.le_of_ble_eq_true rfl, Nat.le_of_ble_eq_true rfl⟩ (fun v f Hp lcs hp hM => ?_)
      obtain ⟨rfl, T, h, hkp⟩ := hp
      obtain ⟨hR, hRT⟩ := hR.keep_ hRT hkp (Or.inr (Or.inr rfl))
      obtain ⟨b, fc, pr1, ka, va, B, X, rg, pa, qa, tk, loS, hiS, abS, gvS, usS, g, K, V, hA9, hB9, hQ, hg, hgS, hF9, hgv, hL, hT0, hTk⟩ := h.q hv
      have hF := fun w9 e (hb : f w9 = some e) (_ : w9 ≠ q0) (_ : w9 ≠ b) (_ : w9 ≠ pr1) => hb
      refine lv_aload_n hx hb dX5_tell_29 rfl (lv_at hl 0 rfl) ?_
      refine mm_get (C := RX5) (T := TX5) (N := 7) (k := 0) hx hb hts (fun _ h => List.mem_cons_of_mem _ (List.mem_append_left _ (List.mem_append_left _ (List.mem_append_left _ (List.mem_append_left _ (List.mem_append_left _ (List.mem_append_left _ (List.mem_append_left _ (List.mem_append_right _ h))))))))) hown hK hM h.1 rfl (by decide) (hts (.fieldLink RX5 12 "SentenceRules" "now" "LSentenceRules$State;") (List.mem_of_getElem? (i := 2) rfl)) rfl rfl dX5_tell_30 ?_
      refine mm_new (C := RX2) (T := TX2) (N := 5) (ci := 3) hx hb hts (fun _ h => List.mem_cons_of_mem _ (List.mem_append_left _ (List.mem_append_left _ (List.mem_append_left _ (List.mem_append_left _ (List.mem_append_left _ (List.mem_append_right _ h))))))) tyX2_ok hown (hts (.classLink RX5 92 RX2) (List.mem_of_getElem? (i := 5) rfl)) (hts (.instantiable RX2 5) (List.mem_of_getElem? (i := 6) rfl)) (hts (.initialized RX2) (List.mem_of_getElem? (i := 7) rfl)) hK hM hA rfl [.null, .null, .int 0, .int 0, .int 0] (by decide) (Nat.le_of_ble_eq_true rfl) (Nat.le_of_ble_eq_true rfl) dX5_tell_33 (fun qz3 Hp nz4 hM => ?_)
      obtain ⟨fn, hM, hx3, frn⟩ := hM.up
      obtain ⟨T, hk0, tx3⟩ : ∃ T9, Kp f fn T T9 (fun _ => True) ∧ T9 qz3 = qz3 + 1 := ⟨_, Kp.new nz4 frn (qz3 + 1), if_pos rfl⟩
      have h := h.keepG hk0 trivial (fun _ _ _ _ => trivial)
      obtain ⟨hR, hRT⟩ := hR.keep_ hRT hk0 trivial
      obtain ⟨b, fc, pr1, ka, va, B, X, rg, pa, qa, tk, loS, hiS, abS, gvS, usS, g, K, V, hA9, hB9, hQ, hg, hgS, hF9, hgv, hL, hT0, hTk⟩ := h.q hv
      refine lv_dup hx hb dX5_tell_36 rfl ?_
      refine lv_aload_n hx hb dX5_tell_37 rfl (lv_at hl 0 rfl) ?_
      refine lv_aload_n hx hb dX5_tell_38 rfl (lv_at hl 0 rfl) ?_
      refine mm_get (C := RX5) (T := TX5) (N := 7) (k := 0) hx hb hts (fun _ h => List.mem_cons_of_mem _ (List.mem_append_left _ (List.mem_append_left _ (List.mem_append_left _ (List.mem_append_left _ (List.mem_append_left _ (List.mem_append_left _ (List.mem_append_left _ (List.mem_append_right _ h))))))))) hown hK hM h.1 rfl (by decide) (hts (.fieldLink RX5 12 "SentenceRules" "now" "LSentenceRules$State;") (List.mem_of_getElem? (i := 2) rfl)) rfl rfl dX5_tell_39 ?_
      refine mm_get (C := RX3) (T := TX3) (N := 4) (k := 3) hx hb hts (fun _ h => List.mem_cons_of_mem _ (List.mem_append_left _ (List.mem_append_left _ (List.mem_append_left _ (List.mem_append_left _ (List.mem_append_left _ (List.mem_append_left _ (List.mem_append_right _ h)))))))) hown hK hM hA9.1.1 rfl (by decide) (hts (.fieldLink RX5 57 "SentenceRules$State" "present" "LSentenceRules$Tokens;") (List.mem_of_getElem? (i := 8) rfl)) rfl rfl dX5_tell_42 ?_
      refine mm_V (As := [.ref pr1]) (rest := [.ref qz3, .ref qz3, .ref q0]) ⟨hx, hb, hml, hown, hts⟩ (k_textOf l G h hv hA9 (rsAll S n cn lo0 hi0 ab0)) (cwV 1 hts gX5_tell_X5_textOf rfl rfl rfl (by decide +kernel) ⟨Nat.le_of_ble_eq_true rfl, Nat.le_of_ble_eq_true rfl⟩) hK hE hA hM (mm_recv hK hM h.1 (q := (RX5, TX5, 7)) rfl) rfl hl.1 rfl (Nat.le_of_ble_eq_true rfl) dX5_tell_45 ⟨Nat.le_of_ble_eq_true rfl, Nat.le_of_ble_eq_true rfl⟩ (fun v ft Hp lcs hp hM => ?_)
      obtain ⟨tx, T2, rfl, hc, hkt, hTx⟩ := hp
      obtain ⟨_, _, _, _, _, hsb9, -⟩ := h.2.2.2.2.2.1
      obtain ⟨hR, hRT⟩ := hR.keepW hRT hkt (fun w => ne_oo hR.1 hsb9.1 (by show (1 : Nat) ≠ 0; decide) (Nat.succ.inj w))
      obtain ⟨hx3, tx4⟩ := hkt _ _ hx3 (by rw [tx3]; exact fun w => ne_oo hx3 hsb9.1 (by show (3 : Nat) ≠ 0; decide) (Nat.succ.inj w))
      obtain ⟨f, hf0, hfu, hfd, h⟩ := hc.drop hx3 (tx4.trans tx3)
      obtain ⟨b, fc, pr1, ka, va, B, X, rg, pa, qa, tk, loS, hiS, abS, gvS, usS, g, K, V, hA9, hB9, hQ, hg, hgS, hF9, hgv, hL, hT0, hTk⟩ := h.q hv
      have hF := fun w9 e (hb : f w9 = some e) (_ : w9 ≠ q0) (_ : w9 ≠ b) (_ : w9 ≠ pr1) => hfu w9 e hb
      obtain ⟨tz, tct, tg, ⟨u1, u2, u3⟩, u4⟩ := hTx
      have hTx : TxtR G f T2 tx (fun w => telZ S n (rsAll S n cn lo0 hi0 ab0) (57 + 66 * n + w)) := ⟨tz, tct, tg, ⟨hfd _ _ u1 (ne_oo u1 hx3 (by show (8 : Nat) ≠ 3; decide)), hfd _ _ u2 (ne_oi hx3 u2).symm, u3⟩, u4⟩
      refine mv_val (y := .ref tx) rfl ?_
      refine lv_aload_n hx hb dX5_tell_48 rfl (lv_at hl 0 rfl) ?_
      refine mm_get (C := RX5) (T := TX5) (N := 7) (k := 3) hx hb hts (fun _ h => List.mem_cons_of_mem _ (List.mem_append_left _ (List.mem_append_left _ (List.mem_append_left _ (List.mem_append_left _ (List.mem_append_left _ (List.mem_append_left _ (List.mem_append_left _ (List.mem_append_right _ h))))))))) hown hK hM (hfu _ _ h.1) rfl (by decide) (hts (.fieldLink RX5 23 "SentenceRules" "reader" "LSentenceRules$Reader;") (List.mem_of_getElem? (i := 9) rfl)) rfl rfl dX5_tell_49 ?_
      refine mm_I (As := [.ref tx, .ref rd]) (rest := [.ref qz3, .ref q0]) ⟨hx, hb, hml, hown, hts⟩ (c2_init l G hx3 (tx := tx) (ab := ab) (gv := gv) (us := us) (pl := pl) (lf := nI t) (cp := cp) (ir := ir) (ng := ng) (lo := lo) (hi := hi) ⟨hR.1, hR.2.1, hR.2.2.1, hR.2.2.2.1, hR.2.2.2.2⟩) (cwI 2 hts gX5_tell_X2_init rfl rfl rfl (hts (.initialized RX2) (List.mem_of_getElem? (i := 7) rfl)) (hts (.methodLink RX5 98 yX2_init) (List.mem_of_getElem? (i := 500) rfl)) (hts (.instanceMethod yX2_init) (List.mem_of_getElem? (i := 501) rfl)) rfl (by decide +kernel) ⟨Nat.le_of_ble_eq_true rfl, Nat.le_of_ble_eq_true rfl⟩) hK hE hA hM rfl hl.1 rfl (Nat.le_of_ble_eq_true rfl) dX5_tell_52 ⟨Nat.le_of_ble_eq_true rfl, Nat.le_of_ble_eq_true rfl⟩ (fun v gz5 Hp lcs hp hM => ?_)
      obtain ⟨rfl, r2, p2, q2, z1, z2, z3, y0, y1, y2, y3, y4⟩ := hp
      have fo6 : f r2 = none := fresh_of (fun e hb => hF r2 e hb (ne_none (hfu _ _ hA9.1.1) z1).symm (ne_none (hfu _ _ hA9.1.2.1) z1).symm (ne_none (hfu _ _ hA9.1.2.2.2.1) z1).symm) z1
      have ne7 := ne_none (hfu _ _ h.1) z1
      have ne8 := ne_none (hfu _ _ hA9.1.1) z1
      have ne9 := ne_none (hfu _ _ hA9.1.2.1) z1
      have ne10 := ne_none (hfu _ _ hA9.1.2.2.1) z1
      have ne11 := ne_none (hfu _ _ hA9.1.2.2.2.1) z1
      have ne12 := ne_none (hfu _ _ hA9.1.2.2.2.2.1) z1
      have ne13 := ne_none (hfu _ _ hA9.1.2.2.2.2.2) z1
      have ne14 := ne_none hR.1 z1
      have ne15 := ne_none hR.2.1 z1
      have ne16 := ne_none hR.2.2.1 z1
      have ne17 := ne_none hR.2.2.2.1 z1
      have ne18 := ne_none hx3 z1
      have fo19 : f p2 = none := fresh_of (fun e hb => hF p2 e hb (ne_none (hfu _ _ hA9.1.1) z2).symm (ne_none (hfu _ _ hA9.1.2.1) z2).symm (ne_none (hfu _ _ hA9.1.2.2.2.1) z2).symm) z2
      have ne20 := ne_none (hfu _ _ h.1) z2
      have ne21 := ne_none (hfu _ _ hA9.1.1) z2
      have ne22 := ne_none (hfu _ _ hA9.1.2.1) z2
      have ne23 := ne_none (hfu _ _ hA9.1.2.2.1) z2
      have ne24 := ne_none (hfu _ _ hA9.1.2.2.2.1) z2
      have ne25 := ne_none (hfu _ _ hA9.1.2.2.2.2.1) z2
      have ne26 := ne_none (hfu _ _ hA9.1.2.2.2.2.2) z2
      have ne27 := ne_none hR.1 z2
      have ne28 := ne_none hR.2.1 z2
      have ne29 := ne_none hR.2.2.1 z2
      have ne30 := ne_none hR.2.2.2.1 z2
      have ne31 := ne_none hx3 z2
      have fo32 : f q2 = none := fresh_of (fun e hb => hF q2 e hb (ne_none (hfu _ _ hA9.1.1) z3).symm (ne_none (hfu _ _ hA9.1.2.1) z3).symm (ne_none (hfu _ _ hA9.1.2.2.2.1) z3).symm) z3
      have ne33 := ne_none (hfu _ _ h.1) z3
      have ne34 := ne_none (hfu _ _ hA9.1.1) z3
      have ne35 := ne_none (hfu _ _ hA9.1.2.1) z3
      have ne36 := ne_none (hfu _ _ hA9.1.2.2.1) z3
      have ne37 := ne_none (hfu _ _ hA9.1.2.2.2.1) z3
      have ne38 := ne_none (hfu _ _ hA9.1.2.2.2.2.1) z3
      have ne39 := ne_none (hfu _ _ hA9.1.2.2.2.2.2) z3
      have ne40 := ne_none hR.1 z3
      have ne41 := ne_none hR.2.1 z3
      have ne42 := ne_none hR.2.2.1 z3
      have ne43 := ne_none hR.2.2.2.1 z3
      have ne44 := ne_none hx3 z3
      have hz45 := y4 _ _ (hfu _ _ h.1) (ne_oo (hfu _ _ h.1) hx3 (by show (6 : Nat) ≠ 3; decide))
      have hz46 := y4 _ _ (hfu _ _ hA9.1.1) (ne_oo (hfu _ _ hA9.1.1) hx3 (by show (4 : Nat) ≠ 3; decide))
      have hz47 := y4 _ _ (hfu _ _ hA9.1.2.1) (ne_oi hx3 (hfu _ _ hA9.1.2.1)).symm
      have hz48 := y4 _ _ (hfu _ _ hA9.1.2.2.1) (ne_oi hx3 (hfu _ _ hA9.1.2.2.1)).symm
      have hz49 := y4 _ _ (hfu _ _ hA9.1.2.2.2.1) (ne_oo (hfu _ _ hA9.1.2.2.2.1) hx3 (by show (5 : Nat) ≠ 3; decide))
      have hz50 := y4 _ _ (hfu _ _ hA9.1.2.2.2.2.1) (ne_oi hx3 (hfu _ _ hA9.1.2.2.2.2.1)).symm
      have hz51 := y4 _ _ (hfu _ _ hA9.1.2.2.2.2.2) (ne_oi hx3 (hfu _ _ hA9.1.2.2.2.2.2)).symm
      have hz52 := y4 _ _ hR.1 (ne_oo hR.1 hx3 (by show (1 : Nat) ≠ 3; decide))
      have hz53 := y4 _ _ hR.2.1 (ne_oo hR.2.1 hx3 (by show (2 : Nat) ≠ 3; decide))
      have hz54 := y4 _ _ hR.2.2.1 (ne_oi hx3 hR.2.2.1).symm
      have hz55 := y4 _ _ hR.2.2.2.1 (ne_oi hx3 hR.2.2.2.1).symm
      have hF := fun w9 e (hb : f w9 = some e) (hn0 : w9 ≠ q0) (hn1 : w9 ≠ b) (hn2 : w9 ≠ pr1) => y4 w9 e (hF w9 e hb hn0 hn1 hn2) (ne_none hb hf0)
      refine mm_V (As := [.ref qz3]) (rest := []) ⟨hx, hb, hml, hown, hts⟩ (c3_addSentence l G hz46 hz47 y0 hn9) (cwV 1 hts gX5_tell_X3_addSentence rfl rfl rfl (by decide +kernel) ⟨Nat.le_of_ble_eq_true rfl, Nat.le_of_ble_eq_true rfl⟩) hK hE hA hM (mm_recv hK hM hz46 (q := (RX3, TX3, 4)) rfl) rfl hl.1 rfl (Nat.le_of_ble_eq_true rfl) dX5_tell_55 ⟨Nat.le_of_ble_eq_true rfl, Nat.le_of_ble_eq_true rfl⟩ (fun v gz56 Hp lcs hp hM => ?_)
      obtain ⟨rfl, hz57, hz58, rz59⟩ := hp
      have hz60 := rz59 _ _ hz45 (ne_oo hz45 hz46 (by show (6 : Nat) ≠ 4; decide)) (ne_oi hz45 hz47)
      have hz61 := rz59 _ _ hz48 (ne_oi hz46 hz48).symm (ne_QI hz47 hz48).symm
      have hz62 := rz59 _ _ hz49 (ne_oo hz49 hz46 (by show (5 : Nat) ≠ 4; decide)) (ne_oi hz49 hz47)
      have hz63 := rz59 _ _ hz50 (ne_oi hz46 hz50).symm (ne_QI hz47 hz50).symm
      have hz64 := rz59 _ _ hz51 (ne_oi hz46 hz51).symm (ne_QI hz47 hz51).symm
      have hz65 := rz59 _ _ hz52 (ne_oo hz52 hz46 (by show (1 : Nat) ≠ 4; decide)) (ne_oi hz52 hz47)
      have hz66 := rz59 _ _ hz53 (ne_oo hz53 hz46 (by show (2 : Nat) ≠ 4; decide)) (ne_oi hz53 hz47)
      have hz67 := rz59 _ _ hz54 (ne_oi hz46 hz54).symm (ne_QI hz47 hz54).symm
      have hz68 := rz59 _ _ hz55 (ne_oi hz46 hz55).symm (ne_QI hz47 hz55).symm
      have hz69 := rz59 _ _ y0 (ne_oo y0 hz46 (by show (3 : Nat) ≠ 4; decide)) (ne_oi y0 hz47)
      have hz70 := rz59 _ _ y1 (Ne.symm ne8) (Ne.symm ne9)
      have hz71 := rz59 _ _ y2 (Ne.symm ne21) (Ne.symm ne22)
      have hz72 := rz59 _ _ y3 (Ne.symm ne34) (Ne.symm ne35)
      have hF := fun w9 e (hb : f w9 = some e) (hn0 : w9 ≠ q0) (hn1 : w9 ≠ b) (hn2 : w9 ≠ pr1) => rz59 w9 e (hF w9 e hb hn0 hn1 hn2) hn0 hn1
      refine lv_aload_n hx hb dX5_tell_58 rfl (lv_at hl 0 rfl) ?_
      refine mm_get (C := RX5) (T := TX5) (N := 7) (k := 0) hx hb hts (fun _ h => List.mem_cons_of_mem _ (List.mem_append_left _ (List.mem_append_left _ (List.mem_append_left _ (List.mem_append_left _ (List.mem_append_left _ (List.mem_append_left _ (List.mem_append_left _ (List.mem_append_right _ h))))))))) hown hK hM hz60 rfl (by decide) (hts (.fieldLink RX5 12 "SentenceRules" "now" "LSentenceRules$State;") (List.mem_of_getElem? (i := 2) rfl)) rfl rfl dX5_tell_59 ?_
      refine mm_get (C := RX3) (T := TX3) (N := 4) (k := 3) hx hb hts (fun _ h => List.mem_cons_of_mem _ (List.mem_append_left _ (List.mem_append_left _ (List.mem_append_left _ (List.mem_append_left _ (List.mem_append_left _ (List.mem_append_left _ (List.mem_append_right _ h)))))))) hown hK hM hz57 rfl (by decide) (hts (.fieldLink RX5 57 "SentenceRules$State" "present" "LSentenceRules$Tokens;") (List.mem_of_getElem? (i := 8) rfl)) rfl rfl dX5_tell_62 ?_
      refine mm_V (As := []) (rest := []) ⟨hx, hb, hml, hown, hts⟩ (c4_removeAll l G hz62 hz63 hz64) (cwV 0 hts gX5_tell_X4_removeAll rfl rfl rfl (by decide +kernel) ⟨Nat.le_of_ble_eq_true rfl, Nat.le_of_ble_eq_true rfl⟩) hK hE hA hM (mm_recv hK hM hz62 (q := (RX4, TX4, 3)) rfl) rfl hl.1 rfl (Nat.le_of_ble_eq_true rfl) dX5_tell_65 ⟨Nat.le_of_ble_eq_true rfl, Nat.le_of_ble_eq_true rfl⟩ (fun v gz73 Hp lcs hp hM => ?_)
      obtain ⟨rfl, hz74, rz75⟩ := hp
      have hz76 := (rz75 _ (ne_oo hz60 hz62 (by show (6 : Nat) ≠ 5; decide))).trans hz60
      have hz77 := (rz75 _ (ne_oi hz62 hz61).symm).trans hz61
      have hz78 := (rz75 _ (ne_oi hz62 hz63).symm).trans hz63
      have hz79 := (rz75 _ (ne_oi hz62 hz64).symm).trans hz64
      have hz80 := (rz75 _ (ne_oo hz65 hz62 (by show (1 : Nat) ≠ 5; decide))).trans hz65
      have hz81 := (rz75 _ (ne_oo hz66 hz62 (by show (2 : Nat) ≠ 5; decide))).trans hz66
      have hz82 := (rz75 _ (ne_oi hz62 hz67).symm).trans hz67
      have hz83 := (rz75 _ (ne_oi hz62 hz68).symm).trans hz68
      have hz84 := (rz75 _ (ne_oo hz69 hz62 (by show (3 : Nat) ≠ 5; decide))).trans hz69
      have hz85 := (rz75 _ (Ne.symm ne11)).trans hz70
      have hz86 := (rz75 _ (Ne.symm ne24)).trans hz71
      have hz87 := (rz75 _ (Ne.symm ne37)).trans hz72
      have hz88 := (rz75 _ (ne_oo hz57 hz62 (by show (4 : Nat) ≠ 5; decide))).trans hz57
      have hz89 := (rz75 _ (ne_oi hz62 hz58).symm).trans hz58
      have hF := fun w9 e (hb : f w9 = some e) (hn0 : w9 ≠ q0) (hn1 : w9 ≠ b) (hn2 : w9 ≠ pr1) => (rz75 w9 hn2).trans (hF w9 e hb hn0 hn1 hn2)
      refine lv_aload_n hx hb dX5_tell_68 rfl (lv_at hl 0 rfl) ?_
      refine mm_get (C := RX5) (T := TX5) (N := 7) (k := 0) hx hb hts (fun _ h => List.mem_cons_of_mem _ (List.mem_append_left _ (List.mem_append_left _ (List.mem_append_left _ (List.mem_append_left _ (List.mem_append_left _ (List.mem_append_left _ (List.mem_append_left _ (List.mem_append_right _ h))))))))) hown hK hM hz76 rfl (by decide) (hts (.fieldLink RX5 12 "SentenceRules" "now" "LSentenceRules$State;") (List.mem_of_getElem? (i := 2) rfl)) rfl rfl dX5_tell_69 ?_
      refine mm_get (C := RX3) (T := TX3) (N := 4) (k := 0) hx hb hts (fun _ h => List.mem_cons_of_mem _ (List.mem_append_left _ (List.mem_append_left _ (List.mem_append_left _ (List.mem_append_left _ (List.mem_append_left _ (List.mem_append_left _ (List.mem_append_right _ h)))))))) hown hK hM hz88 rfl (by decide) (hts (.fieldLink RX5 86 "SentenceRules$State" "sentenceCount" "I") (List.mem_of_getElem? (i := 3) rfl)) rfl rfl dX5_tell_72 ?_
      refine lv_iconst (v := (nI 1)) hx hb dX5_tell_75 (by decide +kernel) ?_
      refine ln_isub (n + 1) 1 (by omega) hx hb dX5_tell_76 ?_
      refine mv_top (y := (nI n)) (congrArg nI (by omega)) ?_
      exact mm_iret hx hb hlocks hr (Nat.le_of_ble_eq_true rfl) (Nat.le_of_ble_eq_true rfl) hM (by have e0 : canB S n cn ir0 wt0 lo0 hi0 ab0 = true := (hcan ir0 wt0 lo0 hi0 ab0).symm.trans cz1; have e1 : telO S n cn ir0 wt0 lo0 hi0 ab0 = true := (by rw [telO, e0, decide_eq_false (by omega)]; rfl); obtain ⟨w1, w2, w3, w4⟩ := (hTK cz1).1 lo0 hi0 ab0; obtain ⟨T1, hs, hk⟩ := StR.add_ (Z := rsAll S n cn lo0 hi0 ab0) hA9 hB9 hn9 hf0 fo6 fo19 fo32 hz88 hz89 hz74 hF hz84 hz85 hz86 hz87 hTx w1 w2 w3 w4; rw [telV, e0, e1, if_pos rfl, if_neg (by omega), if_pos rfl, if_pos rfl, if_pos rfl]; exact ⟨rfl, ⟨T1, q0, ra, rd, sp, rr, sb, h.now_ hk hs⟩, fun _ => hv.tell hn9 (hTK cz1) lo0 hi0 ab0⟩) dX5_tell_77
    refine lv_ldc (v := (-100004)) hx hb hown (hts (.constant RX5 70 (-100004)) (List.mem_of_getElem? (i := 4) rfl)) dX5_tell_22 ?_
    exact mm_iret hx hb hlocks hr (Nat.le_of_ble_eq_true rfl) (Nat.le_of_ble_eq_true rfl) hM (by have e0 : canB S n cn ir0 wt0 lo0 hi0 ab0 = true := (hcan ir0 wt0 lo0 hi0 ab0).symm.trans cz1; have e2 : n = 16 := (by have := cz2; have := hv.2.1; omega); have e1 : telO S n cn ir0 wt0 lo0 hi0 ab0 = false := (by rw [telO, decide_eq_true e2, Bool.not_true, Bool.and_false]); rw [telV, e0, e1, if_pos rfl, if_pos e2, if_neg (by decide), if_neg (by decide), if_neg (by decide)]; exact ⟨rfl, ⟨T, q0, ra, rd, sp, rr, sb, h⟩, fun z => absurd z (by decide)⟩) dX5_tell_24
  refine lv_ldc (v := (-100003)) hx hb hown (hts (.constant RX5 75 (-100003)) (List.mem_of_getElem? (i := 1) rfl)) dX5_tell_7 ?_
  exact mm_iret hx hb hlocks hr (Nat.le_of_ble_eq_true rfl) (Nat.le_of_ble_eq_true rfl) hM (by have e0 : canB S n cn ir0 wt0 lo0 hi0 ab0 = false := (hcan ir0 wt0 lo0 hi0 ab0).symm.trans cz1; have e1 : telO S n cn ir0 wt0 lo0 hi0 ab0 = false := (by rw [telO, e0, Bool.false_and]); rw [telV, e0, e1, if_neg (by decide), if_neg (by decide), if_neg (by decide), if_neg (by decide)]; exact ⟨rfl, ⟨T, q0, ra, rd, sp, rr, sb, h⟩, fun z => absurd z (by decide)⟩) dX5_tell_9

