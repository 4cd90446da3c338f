/-! BOTH SIDES: contradictions in a row, reasons in a row, borders -/
theorem ctdI_cong {D E : Nat → Nat → Bool} {x : Int32} {a n : Nat} (h : ∀ b, b < n → D a b = E a b) : ∀ {m b c : Nat}, b + m = n → ctdI D x a m b c = ctdI E x a m b c
  | 0, _, _, _ => rfl
  | m + 1, b, c, e => by
    rw [ctdI, ctdI, h b (by omega), ctdI_cong h (m := m) (b := b + 1) (by omega), ctdI_cong h (m := m) (b := b + 1) (by omega)]
theorem ctdO_cong {D E : Nat → Nat → Bool} {x : Int32} {n : Nat} (h : ∀ a b, a < n → b < n → D a b = E a b) : ∀ {m a c : Nat}, a + m = n → ctdO D x n m a c = ctdO E x n m a c
  | 0, _, _, _ => rfl
  | m + 1, a, c, e => by
    rw [ctdO, ctdO, ctdI_cong (E := E) (n := n) (fun b hb => h a b (by omega) hb) (show a + 1 + (n - (a + 1)) = n by omega)]
    cases ctdI E x a (n - (a + 1)) (a + 1) c with
    | mk o c2 =>
      cases o with
      | none => exact ctdO_cong h (by omega)
      | some r => rfl
section NX
variable {S : Nat → Int32} {n : Nat} {g : Nat → Int32} {lo hi : Nat → Nat → Int32} {ab gv us : Nat → Int32}
theorem e_ctdX (h : FlatV S n lo hi ab gv us) (x : Int32) : (if 0 ≤ x then ctdO (conD lo hi ab gv n) x n n 0 0 else -100002) = ctdX S n x := by
  rw [ctdX, ctdO_cong (E := ctdB S n) (fun a b ha hb => e_ctd h ha hb) (Nat.zero_add n)]
theorem e_reas (h : FlatV S n lo hi ab gv us) (hg : ∀ j, j < 7 → g j = S j) (hn : n ≤ 16) (r x : Int32) : (if inB r 0 3 = true ∧ 0 ≤ x then (if firN (fun k => (fun k => reaD g lo hi ab (-1) n k r) k && decide (nI (cntN (fun j => (fun k => reaD g lo hi ab (-1) n k r) j && befD lo hi j k) n) = x)) n < n then nI (firN (fun k => (fun k => reaD g lo hi ab (-1) n k r) k && decide (nI (cntN (fun j => (fun k => reaD g lo hi ab (-1) n k r) j && befD lo hi j k) n) = x)) n) else -100005) else -100002) = a6_reason S (-100005) n r x := by
  have e : firN (fun k => (fun k => reaD g lo hi ab (-1) n k r) k && decide (nI (cntN (fun j => (fun k => reaD g lo hi ab (-1) n k r) j && befD lo hi j k) n) = x)) n = firN (reasQ S (-100005) n r x) n := firN_cong (fun k hk => by
    have e2 : cntN (fun j => (fun k => reaD g lo hi ab (-1) n k r) j && befD lo hi j k) n = cntN (aheQ S (-100005) n k r) n := cntN_cong (fun j hj => by
      show (reaD g lo hi ab (-1) n j r && befD lo hi j k) = _
      rw [aheQ, e_rea h hg hj (w_no hn), e_bef h hj hk, Bool.and_comm])
    show (reaD g lo hi ab (-1) n k r && decide (nI (cntN (fun j => (fun k => reaD g lo hi ab (-1) n k r) j && befD lo hi j k) n) = x)) = _
    rw [e2, reasQ, e_rea h hg hk (w_no hn)])
  rw [e, a6_reason]
  by_cases h1 : inB r 0 3 = true ∧ 0 ≤ x
  · rw [if_pos h1, if_pos (c := inB r 0 3 = true ∧ ¬ x < 0) ⟨h1.1, Int32.not_lt.mpr h1.2⟩]
  · rw [if_neg h1, if_neg (c := inB r 0 3 = true ∧ ¬ x < 0) (fun z => h1 ⟨z.1, Int32.not_lt.mp z.2⟩)]
theorem FlatV.upd_ (h : FlatV S n lo hi ab gv us) {k : Nat} (hk : k < 7) (x : Int32) : FlatV (upd S k x) n lo hi ab gv us := fun i hi' => by
  have e : (fun w => upd S k x (57 + 66 * i + w)) = fun w => S (57 + 66 * i + w) := funext fun w => by unfold upd; rw [if_neg (by omega)]
  rw [e]; exact h i hi'
theorem g_upd (hg : ∀ j, j < 7 → g j = S j) (k : Nat) (x : Int32) : ∀ j, j < 7 → upd g k x j = upd S k x j := fun j hj => by
  unfold upd; split
  · rfl
  · exact hg j hj
/-! the least border above x -/
def Isq (Z : Int32 → Prop) (x b : Int32) : Prop := (b = -100005 ∧ ∀ z, Z z → z ≤ x) ∨ (x < b ∧ Z b ∧ ∀ z, Z z → x < z → b ≤ z)
theorem Isq.step {Z : Int32 → Prop} {x b : Int32} (hx : -100005 < x) (h : Isq Z x b) (z0 : Int32) : Isq (fun z => Z z ∨ z = z0) x (borS x b z0) := by
  by_cases h1 : z0 ≤ x
  · rw [borS_1 h1]
    rcases h with ⟨e, h⟩ | ⟨e, h2, h⟩
    · exact Or.inl ⟨e, fun z hz => hz.elim (h z) (fun q => q ▸ h1)⟩
    · exact Or.inr ⟨e, Or.inl h2, fun z hz hq => hz.elim (fun y => h z y hq) (fun y => absurd (y ▸ hq) (Int32.not_lt.mpr h1))⟩
  · have h1' := Int32.not_le.mp h1
    by_cases h2 : b = -100005
    · rw [borS_2 h1 h2]
      rcases h with ⟨e, h⟩ | ⟨e, -, -⟩
      · exact Or.inr ⟨h1', Or.inr rfl, fun z hz hq => hz.elim (fun y => absurd hq (Int32.not_lt.mpr (h z y))) (fun y => y ▸ Int32.le_refl _)⟩
      · rw [h2] at e; exact absurd (Int32.lt_trans hx e) Int32.lt_irrefl
    · rcases h with ⟨e, h⟩ | ⟨e, h3, h⟩
      · exact absurd e h2
      · by_cases h4 : b ≤ z0
        · rw [borS_3 h1 h2 h4]
          exact Or.inr ⟨e, Or.inl h3, fun z hz hq => hz.elim (fun y => h z y hq) (fun y => y ▸ h4)⟩
        · rw [borS_4 h1 h2 h4]
          exact Or.inr ⟨h1', Or.inr rfl, fun z hz hq => hz.elim (fun y => Int32.le_trans (Int32.le_of_lt (Int32.not_le.mp h4)) (h z y hq)) (fun y => y ▸ Int32.le_refl _)⟩
theorem Isq.cong {Z Y : Int32 → Prop} {x b : Int32} (h : Isq Z x b) (e : ∀ z, Y z ↔ Z z) : Isq Y x b := by
  rcases h with ⟨a, h⟩ | ⟨a, h2, h⟩
  · exact Or.inl ⟨a, fun z hz => h z ((e z).mp hz)⟩
  · exact Or.inr ⟨a, (e b).mpr h2, fun z hz => h z ((e z).mp hz)⟩
theorem Isq.uniq {Z : Int32 → Prop} {x b c : Int32} (h : Isq Z x b) (h2 : Isq Z x c) : b = c := by
  rcases h with ⟨a, h⟩ | ⟨a, hb, h⟩
  · rcases h2 with ⟨a2, -⟩ | ⟨a2, hc, -⟩
    · rw [a, a2]
    · exact absurd a2 (Int32.not_lt.mpr (h c hc))
  · rcases h2 with ⟨-, h2⟩ | ⟨a2, hc, h2⟩
    · exact absurd a (Int32.not_lt.mpr (h2 b hb))
    · exact Int32.le_antisymm (h c hc a2) (h2 b hb a)
def Zb (p : Nat → Bool) (L H : Nat → Int32) (n : Nat) (z : Int32) : Prop := ∃ i, i < n ∧ p i = true ∧ (z = L i ∨ z = H i)
def gb (p : Nat → Bool) (L H : Nat → Int32) (x : Int32) : Nat → Int32
  | 0 => -100005
  | i + 1 => if p i = true then borS x (borS x (gb p L H x i) (L i)) (H i) else gb p L H x i
theorem gb_spec {p : Nat → Bool} {L H : Nat → Int32} {x : Int32} (hx : -100005 < x) : ∀ n, Isq (Zb p L H n) x (gb p L H x n)
  | 0 => Or.inl ⟨rfl, fun z ⟨i, h, _⟩ => absurd h (Nat.not_lt_zero i)⟩
  | n + 1 => by
    have ih := gb_spec (p := p) (L := L) (H := H) hx n
    rw [gb]
    by_cases hp : p n = true
    · rw [if_pos hp]
      refine ((ih.step hx (L n)).step hx (H n)).cong (fun z => ⟨fun ⟨i, a, b, c⟩ => ?_, fun hz => ?_⟩)
      · rcases Nat.lt_succ_iff_lt_or_eq.mp a with a | a
        · exact Or.inl (Or.inl ⟨i, a, b, c⟩)
        · subst a; exact c.elim (fun y => Or.inl (Or.inr y)) Or.inr
      · rcases hz with (⟨i, a, b, c⟩ | c) | c
        · exact ⟨i, Nat.lt_succ_of_lt a, b, c⟩
        · exact ⟨n, Nat.lt_succ_self n, hp, Or.inl c⟩
        · exact ⟨n, Nat.lt_succ_self n, hp, Or.inr c⟩
    · rw [if_neg hp]
      refine ih.cong (fun z => ⟨fun ⟨i, a, b, c⟩ => ?_, fun ⟨i, a, b, c⟩ => ⟨i, Nat.lt_succ_of_lt a, b, c⟩⟩)
      rcases Nat.lt_succ_iff_lt_or_eq.mp a with a | a
      · exact ⟨i, a, b, c⟩
      · subst a; exact absurd b hp
/-- how many borders lie above x -/
def cb (p : Nat → Bool) (L H : Nat → Int32) (x : Int32) : Nat → Nat
  | 0 => 0
  | i + 1 => cb p L H x i + ((if p i = true ∧ x < L i then 1 else 0) + (if p i = true ∧ x < H i then 1 else 0))
theorem cb_2 (p : Nat → Bool) (L H : Nat → Int32) (x : Int32) : ∀ n, cb p L H x n ≤ 2 * n
  | 0 => Nat.le_refl 0
  | n + 1 => by
    have := cb_2 p L H x n
    rw [cb]; (repeat' split) <;> omega
theorem cb_1 {P : Prop} [Decidable P] {Q : Prop} [Decidable Q] (h : Q → P) : (if Q then 1 else 0 : Nat) ≤ if P then 1 else 0 := by
  by_cases hq : Q
  · rw [if_pos hq, if_pos (h hq)]; exact Nat.le_refl 1
  · rw [if_neg hq]; exact Nat.zero_le _
theorem cb_le {p : Nat → Bool} {L H : Nat → Int32} {x y : Int32} (h : x ≤ y) : ∀ n, cb p L H y n ≤ cb p L H x n
  | 0 => Nat.le_refl 0
  | n + 1 => by
    have i0 := cb_le (p := p) (L := L) (H := H) h n
    have i1 := cb_1 (P := p n = true ∧ x < L n) (Q := p n = true ∧ y < L n) (fun q => ⟨q.1, Int32.lt_of_le_of_lt h q.2⟩)
    have i2 := cb_1 (P := p n = true ∧ x < H n) (Q := p n = true ∧ y < H n) (fun q => ⟨q.1, Int32.lt_of_le_of_lt h q.2⟩)
    rw [cb, cb]; omega
theorem cb_lt {p : Nat → Bool} {L H : Nat → Int32} {x y : Int32} (h : x < y) : ∀ {n}, Zb p L H n y → cb p L H y n < cb p L H x n
  | 0, ⟨i, a, _⟩ => absurd a (Nat.not_lt_zero i)
  | n + 1, ⟨i, a, b, c⟩ => by
    have i1 := cb_1 (P := p n = true ∧ x < L n) (Q := p n = true ∧ y < L n) (fun q => ⟨q.1, Int32.lt_trans h q.2⟩)
    have i2 := cb_1 (P := p n = true ∧ x < H n) (Q := p n = true ∧ y < H n) (fun q => ⟨q.1, Int32.lt_trans h q.2⟩)
    rcases Nat.lt_succ_iff_lt_or_eq.mp a with a | a
    · have i0 := cb_lt (p := p) (L := L) (H := H) h (n := n) ⟨i, a, b, c⟩
      rw [cb, cb]; omega
    · subst a
      have i0 := cb_le (p := p) (L := L) (H := H) (Int32.le_of_lt h) i
      rw [cb, cb]
      rcases c with c | c
      · rw [if_neg (c := p i = true ∧ y < L i) (fun q => absurd q.2 (by rw [← c]; exact Int32.lt_irrefl)), if_pos (c := p i = true ∧ x < L i) ⟨b, by rw [← c]; exact h⟩]; omega
      · rw [if_neg (c := p i = true ∧ y < H i) (fun q => absurd q.2 (by rw [← c]; exact Int32.lt_irrefl)), if_pos (c := p i = true ∧ x < H i) ⟨b, by rw [← c]; exact h⟩]; omega
/-- the border, if it is within the fact's values -/
def cutI (k : Nat) (b : Int32) : Int32 := if b = -100005 ∨ greatestF (nI k) < b then -100005 else b
def Lk (S : Nat → Int32) (k : Nat) (i : Nat) : Int32 := S (57 + 66 * i + (52 + k))
def Hk (S : Nat → Int32) (k : Nat) (i : Nat) : Int32 := S (57 + 66 * i + (59 + k)) + nI 1
def pr (S : Nat → Int32) (r : Int32) (i : Nat) : Bool := decide (S (57 + 66 * i + 49) = r)
theorem e_nbrD (h : FlatV S n lo hi ab gv us) {k : Nat} (hk : k < 7) (r x : Int32) : ∀ {i}, i ≤ n → nbrD lo hi ab r k x i = gb (pr S r) (Lk S k) (Hk S k) x i
  | 0, _ => rfl
  | i + 1, hi' => by
    have e := e_nbrD h hk r x (i := i) (by omega)
    have hin : i < n := by omega
    rw [nbrD, gb, e, h.ab_ hin, h.lo_ hin hk, h.hi_ hin hk]
    by_cases hp : S (57 + 66 * i + 49) = r
    · rw [if_pos hp, if_pos (show pr S r i = true from decide_eq_true hp)]; rfl
    · rw [if_neg hp, if_neg (show ¬ pr S r i = true by rw [pr, decide_eq_false hp]; decide)]
theorem e_borL (S : Nat → Int32) (k : Nat) (x : Int32) : ∀ i, borL S k x i = gb (fun _ => true) (Lk S k) (Hk S k) x i
  | 0 => rfl
  | i + 1 => by rw [borL, gb, e_borL S k x i, if_pos rfl]; rfl
/-- the answer is the same between two values with no border of the result between them -/
theorem ansI_cong {S T : Nat → Int32} {wo r : Int32} {n : Nat} (ha : ∀ i, i < n → appB S wo i r = appB T wo i r) (hs : ∀ i j, i < n → j < n → strB S i j = strB T i j) (hv : ∀ i, i < n → S (57 + 66 * i + 50) = T (57 + 66 * i + 50)) : ansI S wo n r = ansI T wo n r := by
  have key : ∀ i, i ≤ n → ansL S wo n r i = ansL T wo n r i := by
    intro i
    induction i with
    | zero => intro _; rfl
    | succ i ih =>
      intro hi'
      have hin : i < n := by omega
      have er : reaB S wo n i r = reaB T wo n i r := by
        rw [reaB, reaB, ha i hin, allN_cong (r := reaQ T wo i r) (fun j hj => by rw [reaQ, reaQ, ha j hj, hs j i hj hin])]
      rw [ansL, ansL, er, ih (by omega), hv i hin]
  exact key n (Nat.le_refl n)
theorem add_1 {a : Int32} (h : a ≤ 73048) (h2 : -9999 ≤ a) : (a + nI 1).toInt = a.toInt + 1 := by
  have h3 : a.toInt ≤ 73048 := by have := Int32.le_iff_toInt_le.mp h; simpa using this
  have h4 : (-9999 : Int) ≤ a.toInt := by have := Int32.le_iff_toInt_le.mp h2; simpa using this
  rw [Int32.toInt_add, show (nI 1).toInt = 1 from by decide]
  exact Int.bmod_eq_of_le (by omega) (by omega)
theorem le_add1 {a w : Int32} (h : a ≤ 73048) (h2 : -9999 ≤ a) : a + nI 1 ≤ w ↔ ¬ w ≤ a := by
  rw [Int32.le_iff_toInt_le, Int32.le_iff_toInt_le, add_1 h h2]; omega
/-- every region lies in the facts' limits -/
def LimV (S : Nat → Int32) (n : Nat) : Prop := ∀ i, i < n → ∀ j, j < 7 → -9999 ≤ S (57 + 66 * i + (59 + j)) ∧ S (57 + 66 * i + (59 + j)) ≤ 73048
theorem upd_hi {S : Nat → Int32} {k m : Nat} {x : Int32} (h : k < 7) : upd S k x (57 + m) = S (57 + m) := by unfold upd; rw [if_neg (by omega)]
theorem upd_hi2 {S : Nat → Int32} {k i w : Nat} {x : Int32} (h : k < 7) : upd S k x (57 + 66 * i + w) = S (57 + 66 * i + w) := by unfold upd; rw [if_neg (by omega)]
theorem ans_same (hL : LimV S n) {k : Nat} (hk : k < 7) {wo r v w : Int32} (hvw : v ≤ w) (hz : ∀ z, Zb (pr S r) (Lk S k) (Hk S k) n z → z ≤ v ∨ w < z) : ansI (upd S k v) wo n r = ansI (upd S k w) wo n r := by
  refine ansI_cong (fun i hi' => ?_) (fun i j _ _ => ?_) (fun i _ => ?_)
  · rw [appB, appB, upd_hi2 hk, upd_hi2 hk]
    by_cases hp : S (57 + 66 * i + 49) = r
    · congr 1
      refine allN_cong (fun j hj => ?_)
      rw [conQ, conQ, upd_hi2 hk, upd_hi2 hk, upd_hi2 hk, upd_hi2 hk]
      by_cases hjk : j = k
      · subst hjk
        have e1 : upd S j v j = v := by unfold upd; rw [if_pos rfl]
        have e2 : upd S j w j = w := by unfold upd; rw [if_pos rfl]
        rw [e1, e2, inB, inB]
        obtain ⟨l1, l2⟩ := hL i hi' j hj
        have zl := hz (Lk S j i) ⟨i, hi', decide_eq_true hp, Or.inl rfl⟩
        have zh := hz (Hk S j i) ⟨i, hi', decide_eq_true hp, Or.inr rfl⟩
        have f1 : (S (57 + 66 * i + (52 + j)) ≤ v) = (S (57 + 66 * i + (52 + j)) ≤ w) := propext ⟨fun q => Int32.le_trans q hvw, fun q => zl.elim id (fun y => absurd q (Int32.not_le.mpr y))⟩
        have f2 : (v ≤ S (57 + 66 * i + (59 + j))) = (w ≤ S (57 + 66 * i + (59 + j))) := propext ⟨fun q => by
          rcases zh with y | y
          · exact absurd q ((le_add1 l2 l1).mp y)
          · by_cases c : w ≤ S (57 + 66 * i + (59 + j))
            · exact c
            · exact absurd ((le_add1 l2 l1).mpr c) (Int32.not_le.mpr y), fun q => Int32.le_trans hvw q⟩
        congr 1
        · exact decide_eq_decide.mpr (by rw [f1])
        · exact decide_eq_decide.mpr (by rw [f2])
      · have e1 : ∀ x, upd S k x j = S j := fun x => by unfold upd; rw [if_neg hjk]
        rw [e1, e1]
    · rw [decide_eq_false hp, Bool.and_false, Bool.false_and, Bool.false_and]
  · have e : ∀ a b x, insB (upd S k x) a b = insB S a b := fun a b x => allN_cong (fun q _ => by rw [insQ, insQ, upd_hi2 hk, upd_hi2 hk, upd_hi2 hk, upd_hi2 hk])
    rw [strB, strB, e, e, e, e]
  · rw [upd_hi2 hk, upd_hi2 hk]
theorem cut_none {k : Nat} : cutI k (-100005) = -100005 := by rw [cutI, if_pos (Or.inl rfl)]
theorem e_nbrI (h : FlatV S n lo hi ab gv us) {k : Nat} (hk : k < 7) (r x : Int32) : nbrI lo hi ab n r k x = cutI k (gb (pr S r) (Lk S k) (Hk S k) x n) := by
  rw [nbrI, cutI, e_nbrD h hk r x (Nat.le_refl n)]
theorem e_borI (S : Nat → Int32) (n k : Nat) (x : Int32) : borI S n k x = cutI k (gb (fun _ => true) (Lk S k) (Hk S k) x n) := by rw [borI, cutI, e_borL]
theorem v_gt (S : Nat → Int32) (n k : Nat) {x : Int32} (hx : -100005 < x) (h : ¬ borI S n k x = -100005) : x < borI S n k x := by
  rcases borI_gt S n k x with z | z
  · exact absurd z h
  · exact z.1
/-- both walks along the borders end at the same value -/
theorem e_walk (h : FlatV S n lo hi ab gv us) (hg : ∀ j, j < 7 → g j = S j) (hgv : ∀ i, i < n → ab i < nI 10 → inB (gv i) (-9999) 9999 = true) (hn : n ≤ 16) (hL : LimV S n) {k : Nat} (hk : k < 7) {r : Int32} (hr : r < nI 10) (stop : Int32 → Bool) :
    ∀ fu v m, ncM v < fu → (v = -100005 ∨ (-100005 < v ∧ cb (pr S r) (Lk S k) (Hk S k) v n < m)) → ncD stop g lo hi ab gv n r k m v = ncF S (-100005) n r k stop fu v := by
  intro fu
  induction fu with
  | zero => intro v m hv; exact absurd hv (Nat.not_lt_zero _)
  | succ fu ih =>
    intro v m hv hc
    by_cases e0 : v = -100005
    · rw [ncD_none e0, ncF, if_pos e0, e0]
    · obtain ⟨hlt, hc⟩ := hc.resolve_left e0
      obtain ⟨m, rfl⟩ : ∃ q, m = q + 1 := ⟨m - 1, by omega⟩
      have ea : ∀ x, ansD (upd g k x) lo hi ab gv (-1) n r n 0 (-100005) = ansI (upd S k x) (-100005) n r := fun x => e_ans (h.upd_ hk x) (g_upd hg k x) hgv hr (w_no hn)
      rw [ncD, ncF, if_neg e0, if_neg e0, ea]
      by_cases hs : stop (ansI (upd S k v) (-100005) n r) = true
      · rw [if_pos hs, if_pos hs]
      · rw [if_neg hs, if_neg hs]
        have hM := borI_M (S := S) (n := n) (k := k) e0
        have sC := gb_spec (p := pr S r) (L := Lk S k) (H := Hk S k) hlt n
        have sR := gb_spec (p := fun _ => true) (L := Lk S k) (H := Hk S k) hlt n
        have sub : ∀ z, Zb (pr S r) (Lk S k) (Hk S k) n z → Zb (fun _ => true) (Lk S k) (Hk S k) n z := fun z ⟨i, a, _, c⟩ => ⟨i, a, rfl, c⟩
        rw [e_nbrI h hk]
        generalize hbC : gb (pr S r) (Lk S k) (Hk S k) v n = bC at sC
        have eR := e_borI S n k v
        generalize hbR : gb (fun _ => true) (Lk S k) (Hk S k) v n = bR at sR eR
        by_cases hR : borI S n k v = -100005
        · have hCn : cutI k bC = -100005 := by
            rw [cutI]
            by_cases q : bC = -100005 ∨ greatestF (nI k) < bC
            · rw [if_pos q]
            · exfalso
              rcases sC with ⟨a, -⟩ | ⟨a, b, -⟩
              · exact q (Or.inl a)
              · rcases sR with ⟨-, d⟩ | ⟨a2, -, d⟩
                · exact absurd a (Int32.not_lt.mpr (d bC (sub _ b)))
                · have hle := d bC (sub _ b) a
                  rw [eR, cutI] at hR
                  by_cases q2 : bR = -100005 ∨ greatestF (nI k) < bR
                  · rcases q2 with q2 | q2
                    · rw [q2] at a2; exact Int32.lt_irrefl (Int32.lt_trans hlt a2)
                    · exact q (Or.inr (Int32.lt_of_lt_of_le q2 hle))
                  · rw [if_neg q2] at hR; exact q2 (Or.inl hR)
          rw [hCn, hR, ncD_none rfl]
          cases fu with
          | zero => rfl
          | succ fu => rw [ncF, if_pos rfl]
        · have hbr : borI S n k v = bR := by
            rw [eR, cutI] at hR ⊢
            by_cases q : bR = -100005 ∨ greatestF (nI k) < bR
            · rw [if_pos q] at hR; exact absurd rfl hR
            · rw [if_neg q]
          have hgt : v < bR := by rw [← hbr]; exact v_gt S n k hlt hR
          have hle2 : ¬ greatestF (nI k) < bR := by
            intro q
            rw [eR, cutI, if_pos (Or.inr q)] at hR; exact hR rfl
          rw [hbr]
          have hMb : ncM bR < fu := by rw [← hbr]; omega
          by_cases hCR : bC = bR
          · rw [hCR, cutI, if_neg (fun q => q.elim (fun y => hR (hbr.trans y)) hle2)]
            rcases sC with ⟨a, -⟩ | ⟨a, b, -⟩
            · exact absurd (hbr.trans (hCR.symm.trans a)) hR
            · have hd := cb_lt (p := pr S r) (L := Lk S k) (H := Hk S k) a b
              rw [hCR] at hd
              exact ih bR m hMb (Or.inr ⟨Int32.lt_trans hlt hgt, by omega⟩)
          · have hno : ∀ z, Zb (pr S r) (Lk S k) (Hk S k) n z → z ≤ v ∨ bR < z := by
              intro z hz
              by_cases q : z ≤ v
              · exact Or.inl q
              · have q' := Int32.not_le.mp q
                refine Or.inr ?_
                rcases sR with ⟨-, d⟩ | ⟨-, -, d⟩
                · exact absurd q' (Int32.not_lt.mpr (d z (sub z hz)))
                · have d1 := d z (sub z hz) q'
                  by_cases q2 : bR < z
                  · exact q2
                  · exfalso
                    have ez : z = bR := Int32.le_antisymm (Int32.not_lt.mp q2) d1
                    subst ez
                    rcases sC with ⟨-, d2⟩ | ⟨a2, b2, d2⟩
                    · exact absurd q' (Int32.not_lt.mpr (d2 z hz))
                    · exact hCR (Int32.le_antisymm (d2 z hz q') (d bC (sub _ b2) a2))
            have hw : -100005 < bR := Int32.lt_trans hlt hgt
            have e1 : ncD stop g lo hi ab gv n r k (m + 1) bR = ncF S (-100005) n r k stop fu bR := ih bR (m + 1) hMb (Or.inr ⟨hw, Nat.lt_of_le_of_lt (cb_le (Int32.le_of_lt hgt) n) hc⟩)
            rw [← e1, ncD, if_neg (fun q => hR (hbr.trans q)), ea, if_neg (by rw [← ans_same hL hk (Int32.le_of_lt hgt) hno]; exact hs), e_nbrI h hk]
            have sC2 := gb_spec (p := pr S r) (L := Lk S k) (H := Hk S k) hw n
            have sC3 : Isq (Zb (pr S r) (Lk S k) (Hk S k) n) bR bC := by
              rcases sC with ⟨a, d⟩ | ⟨a, b, d⟩
              · exact Or.inl ⟨a, fun z hz => Int32.le_trans (d z hz) (Int32.le_of_lt hgt)⟩
              · refine Or.inr ⟨(hno bC b).elim (fun y => absurd a (Int32.not_lt.mpr y)) id, b, fun z hz q => d z hz (Int32.lt_trans hgt q)⟩
            rw [sC2.uniq sC3]
end NX

