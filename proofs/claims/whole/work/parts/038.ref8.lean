/-! THE REFERENCE: the grammar -/
theorem RI.cI {G : mG} {f : mE} {o : Nat} {a : Nat → Nat} {S P lo hi ou : Nat → Int32} {rc isr wd us ab gi wr wo z : Int32} (h : RI G f o a S P lo hi ou rc isr wd us ab gi wr wo) (e : isr = z) : RI G f o a S P lo hi ou rc z wd us ab gi wr wo := e ▸ h
theorem RI.cD {G : mG} {f : mE} {o : Nat} {a : Nat → Nat} {S P lo hi ou : Nat → Int32} {rc isr wd us ab gi wr wo z : Int32} (h : RI G f o a S P lo hi ou rc isr wd us ab gi wr wo) (e : wd = z) : RI G f o a S P lo hi ou rc isr z us ab gi wr wo := e ▸ h
def bndB (x : Int32) : Bool := decide (x = nI 5) || decide (x = nI 6)
def bwV (ir : Bool) (p : Nat) (x : Int32) : Int32 :=
  if p = 0 then (if inB x 16 21 = true then nI 1 else if x = 0 then nI 2 else if inB x 22 25 = true then nI 8 else -100005)
  else if p = 1 then (if x = nI 3 then nI 2 else -100005)
  else if p = 2 then (if inB x 16 21 = true then nI 6 else if inB x 10 15 = true then nI 3 else -100005)
  else if p = 3 then (if x = nI 7 then nI 4 else if x = nI 4 then nI 5 else if bndB x = true then nI 5 else -100005)
  else if p = 4 then (if bndB x = true then nI 5 else -100005)
  else if p = 6 then (if x = nI 1 then nI 2 else if x = nI 2 ∧ ir = true then nI 7 else -100005)
  else if p = 7 then (if inB x 22 25 = true then nI 8 else -100005)
  else if p = 8 then (if x = nI 4 then nI 9 else -100005)
  else if p = 10 then (if x = nI 8 then nI 11 else if x = nI 9 then nI 13 else -100005)
  else if p = 12 then (if x = nI 9 then nI 13 else -100005)
  else -100005
def bwR (ir : Bool) (p : Nat) (x : Int32) : Bool := if p = 0 then decide (x = 0) else ir
def bwD (wt : Bool) (p : Nat) (x : Int32) : Bool := if p = 2 then !decide (x ≤ nI 13) else wt
def behV (ir wt : Bool) (p : Nat) (kd x : Int32) : Int32 :=
  if kd = 0 then bwV ir p x
  else if kd = nI 1 then (if p = 5 ∧ wt = false then nI 6 else if p = 9 then nI 10 else -100005)
  else (if p = 5 ∧ wt = true then nI 6 else if p = 11 then nI 12 else if p = 13 then nI 14 else -100005)
def behR (ir : Bool) (p : Nat) (kd x : Int32) : Bool := if kd = 0 then bwR ir p x else ir
def behD (wt : Bool) (p : Nat) (kd x : Int32) : Bool := if kd = 0 then bwD wt p x else wt
theorem nI10 : ¬ nI 1 = 0 := by decide
def placeL : List Int32 := [nI 1, nI 2, nI 3, nI 4, nI 5, nI 6, nI 7, nI 8, nI 9, nI 10, nI 11, nI 12, nI 13, nI 14, -100005]
theorem ite_mem {p : Prop} [Decidable p] {x y : Int32} {L : List Int32} (h : x ∈ L) (h2 : y ∈ L) : (if p then x else y) ∈ L := by split <;> assumption
theorem behV_mem (ir wt : Bool) (p : Nat) (kd x : Int32) : behV ir wt p kd x ∈ placeL := by
  unfold behV bwV
  repeat' (first | decide | apply ite_mem)
theorem beh_nat {ir wt : Bool} {p : Nat} {kd x : Int32} (h : 0 ≤ behV ir wt p kd x) : ∃ q, q ≤ 14 ∧ behV ir wt p kd x = nI q := by
  have key : ∀ z : Int32, z ∈ placeL → 0 ≤ z → ∃ q, q ≤ 14 ∧ z = nI q := by
    intro z hz h0
    simp only [placeL, List.mem_cons, List.not_mem_nil, or_false] at hz
    rcases hz with rfl | rfl | rfl | rfl | rfl | rfl | rfl | rfl | rfl | rfl | rfl | rfl | rfl | rfl | rfl
    · exact ⟨1, by omega, rfl⟩
    · exact ⟨2, by omega, rfl⟩
    · exact ⟨3, by omega, rfl⟩
    · exact ⟨4, by omega, rfl⟩
    · exact ⟨5, by omega, rfl⟩
    · exact ⟨6, by omega, rfl⟩
    · exact ⟨7, by omega, rfl⟩
    · exact ⟨8, by omega, rfl⟩
    · exact ⟨9, by omega, rfl⟩
    · exact ⟨10, by omega, rfl⟩
    · exact ⟨11, by omega, rfl⟩
    · exact ⟨12, by omega, rfl⟩
    · exact ⟨13, by omega, rfl⟩
    · exact ⟨14, by omega, rfl⟩
    · exact absurd h0 (by decide)
  exact key _ (behV_mem ir wt p kd x) h
def comB (ir : Bool) (p : Nat) : Bool := decide (p = 6) && !ir || decide (p = 10) || decide (p = 12) || decide (p = 14)
def errF (S : Nat → Int32) : Nat → Nat → Bool → Bool → Nat → Int32 × Bool × Bool
  | 0, k, ir, wt, p => (if comB ir p = true then -100005 else nI k, ir, wt)
  | m + 1, k, ir, wt, p =>
    if behV ir wt p (S (7 + 1 + k)) (S (7 + 25 + k)) < 0 then (nI k, behR ir p (S (7 + 1 + k)) (S (7 + 25 + k)), behD wt p (S (7 + 1 + k)) (S (7 + 25 + k)))
    else errF S m (k + 1) (behR ir p (S (7 + 1 + k)) (S (7 + 25 + k))) (behD wt p (S (7 + 1 + k)) (S (7 + 25 + k))) (behV ir wt p (S (7 + 1 + k)) (S (7 + 25 + k))).toNatClampNeg
theorem errF_bad {S : Nat → Int32} {c k p : Nat} {ir wt : Bool} (hk : k < c) (h : behV ir wt p (S (7 + 1 + k)) (S (7 + 25 + k)) < 0) : errF S (c - k) k ir wt p = (nI k, behR ir p (S (7 + 1 + k)) (S (7 + 25 + k)), behD wt p (S (7 + 1 + k)) (S (7 + 25 + k))) := by
  rw [show c - k = (c - (k + 1)) + 1 by omega, errF, if_pos h]
theorem errF_go {S : Nat → Int32} {c k p q : Nat} {ir wt : Bool} (hk : k < c) (h : behV ir wt p (S (7 + 1 + k)) (S (7 + 25 + k)) = nI q) (hq : q ≤ 14) : errF S (c - k) k ir wt p = errF S (c - (k + 1)) (k + 1) (behR ir p (S (7 + 1 + k)) (S (7 + 25 + k))) (behD wt p (S (7 + 1 + k)) (S (7 + 25 + k))) q := by
  rw [show c - k = (c - (k + 1)) + 1 by omega, errF, if_neg (by rw [h]; exact nI_pos (by omega)), h, nI_clamp (by omega)]
theorem errF_end {S : Nat → Int32} {c k p : Nat} {ir wt : Bool} (hk : c ≤ k) : errF S (c - k) k ir wt p = (if comB ir p = true then -100005 else nI k, ir, wt) := by
  rw [show c - k = 0 by omega, errF]
set_option maxHeartbeats 4000000 in
set_option maxRecDepth 100000 in
theorem c6_behindWord (l : Launch) (G : mG) {f : mE} {ir wt : Bool} {o : Nat} {a : Nat → Nat} {S P lo hi ou : Nat → Int32} {rc us ab gi wr wo : Int32} (hI : RI G f o a S P lo hi ou rc (bI ir) (bI wt) us ab gi wr wo) (p : Nat) (hp14 : p ≤ 14) (x : Int32) : mC l G yX6_behindWord wsX6_behindWord ({ frames := 1, cells := 0, slots := 0, locals := 22 } : Room) f [.ref o, .int (nI p), .int x] (fun v f1 => v = some (.int (bwV ir p x)) ∧ RI G f1 o a S P lo hi ou rc (bI (bwR ir p x)) (bI (bwD wt p x)) us ab gi wr wo) 0 0 := by
  refine mC.of (cc := cX6_behindWord) (maxL := 7) (ret := (some .int)) (by decide) rfl (Nat.le_of_ble_eq_true rfl) ?_
  intro pgm env s mt args below meth c A ls hx hb hml hr hlocks hown hname hts hK hE hA hM hl
  have hl : lv_has ls 7 [(0, .ref o), (1, .int (nI p)), (2, .int x)] := hl
  refine lv_iload_n hx hb dX6_behindWord_0 rfl (lv_at hl 2 rfl) ?_
  refine lv_bipush (v := (nI 16)) hx hb dX6_behindWord_1 (by decide +kernel) ?_
  refine lv_bipush (v := (nI 21)) hx hb dX6_behindWord_3 (by decide +kernel) ?_
  refine mm_S (As := [.int x, .int (nI 16), .int (nI 21)]) (rest := []) ⟨hx, hb, hml, hown, hts⟩ (c6_in l G _ x (nI 16) (nI 21)) (va_cwS 3 hts gX6_behindWord_X6_in rfl rfl rfl (by decide +kernel) ⟨Nat.le_of_ble_eq_true rfl, Nat.le_of_ble_eq_true rfl⟩) hK hE hA hM rfl hl.1 rfl (Nat.le_of_ble_eq_true rfl) dX6_behindWord_5 ⟨Nat.le_of_ble_eq_true rfl, Nat.le_of_ble_eq_true rfl⟩ (fun v f1 Hp lcs hp hM => ?_)
  obtain ⟨rfl, hf⟩ := hp; subst hf
  refine mv_top (y := (bI (inB x 16 21))) rfl ?_
  refine lv_istore_n (lv' := [(3, .int (bI (inB x 16 21))), (0, .ref o), (1, .int (nI p)), (2, .int x)]) hx hb dX6_behindWord_8 rfl hl (by decide) rfl (fun ls hl => ?_)
  refine lv_iload_n hx hb dX6_behindWord_9 rfl (lv_at hl 3 rfl) ?_
  refine lv_bipush (v := (nI 10)) hx hb dX6_behindWord_10 (by decide +kernel) ?_
  refine lv_bipush (v := (nI 15)) hx hb dX6_behindWord_12 (by decide +kernel) ?_
  refine mm_S (As := [.int x, .int (nI 10), .int (nI 15)]) (rest := []) ⟨hx, hb, hml, hown, hts⟩ (c6_in l G _ x (nI 10) (nI 15)) (va_cwS 3 hts gX6_behindWord_X6_in rfl rfl rfl (by decide +kernel) ⟨Nat.le_of_ble_eq_true rfl, Nat.le_of_ble_eq_true rfl⟩) hK hE hA hM rfl hl.1 rfl (Nat.le_of_ble_eq_true rfl) dX6_behindWord_14 ⟨Nat.le_of_ble_eq_true rfl, Nat.le_of_ble_eq_true rfl⟩ (fun v f1 Hp lcs hp hM => ?_)
  obtain ⟨rfl, hf⟩ := hp; subst hf
  refine mv_top (y := (bI (inB x 10 15))) rfl ?_
  refine lv_istore (lv' := [(4, .int (bI (inB x 10 15))), (3, .int (bI (inB x 16 21))), (0, .ref o), (1, .int (nI p)), (2, .int x)]) hx hb dX6_behindWord_17 hl (by decide) rfl (fun ls hl => ?_)
  refine lv_iload_n hx hb dX6_behindWord_19 rfl (lv_at hl 4 rfl) ?_
  refine lv_bipush (v := (nI 22)) hx hb dX6_behindWord_20 (by decide +kernel) ?_
  refine lv_bipush (v := (nI 25)) hx hb dX6_behindWord_22 (by decide +kernel) ?_
  refine mm_S (As := [.int x, .int (nI 22), .int (nI 25)]) (rest := []) ⟨hx, hb, hml, hown, hts⟩ (c6_in l G _ x (nI 22) (nI 25)) (va_cwS 3 hts gX6_behindWord_X6_in rfl rfl rfl (by decide +kernel) ⟨Nat.le_of_ble_eq_true rfl, Nat.le_of_ble_eq_true rfl⟩) hK hE hA hM rfl hl.1 rfl (Nat.le_of_ble_eq_true rfl) dX6_behindWord_24 ⟨Nat.le_of_ble_eq_true rfl, Nat.le_of_ble_eq_true rfl⟩ (fun v f1 Hp lcs hp hM => ?_)
  obtain ⟨rfl, hf⟩ := hp; subst hf
  refine mv_top (y := (bI (inB x 22 25))) rfl ?_
  refine lv_istore (lv' := [(5, .int (bI (inB x 22 25))), (4, .int (bI (inB x 10 15))), (3, .int (bI (inB x 16 21))), (0, .ref o), (1, .int (nI p)), (2, .int x)]) hx hb dX6_behindWord_27 hl (by decide) rfl (fun ls hl => ?_)
  have joinZ : ∀ (aw : Int32) (ls : Array Slot) (hr0 : aw = bI (bndB x)) (hl : lv_has ls 7 [(5, .int (bI (inB x 22 25))), (4, .int (bI (inB x 10 15))), (3, .int (bI (inB x 16 21))), (0, .ref o), (1, .int (nI p)), (2, .int x), (6, .int aw)]), W pgm l env ({ frames := 1, cells := 0, slots := 0, locals := 22 } : Room) s mt args below meth c Hp lcs 0 0 (MQ below (mQc G A (fun v f1 => v = some (.int (bwV ir p x)) ∧ RI G f1 o a S P lo hi ou rc (bI (bwR ir p x)) (bI (bwD wt p x)) us ab gi wr wo)) args s 0 0 A) (F0 mt 47 ls []) := by
    intro aw ls hr0 hl
    subst hr0
    refine lv_iload_n hx hb dX6_behindWord_47 rfl (lv_at hl 4 rfl) ?_
    by_cases cz1 : p = 0
    · refine lv_tableIn (tgt := 116) hx hb dX6_behindWord_48 (by rw [nI_toInt (by omega)]; omega) (by rw [nI_toInt (by omega)]; omega) (by rw [cz1]; rfl) (by decide) ?_
      refine lv_aload_n hx hb dX6_behindWord_116 rfl (lv_at hl 3 rfl) ?_
      refine lv_iload_n hx hb dX6_behindWord_117 rfl (lv_at hl 5 rfl) ?_
      refine lv_if_ne (tgt := 125) hx hb dX6_behindWord_118 (by decide) (fun cz2 => ?_) (fun cz2 => ?_)
      · refine lv_iconst (v := (nI 0)) hx hb dX6_behindWord_125 (by decide +kernel) ?_
        refine mm_put (C := RX6) (T := TX6) (N := 14) (k := 4) hx hb hts (fun _ h => List.mem_cons_of_mem _ (List.mem_append_right _ h)) tyX6 tyX6_ok nmX6 hown hK hM (hI.obj) rfl (by decide) (hts (.fieldLink RX6 74 "SentenceRulesModel" "isRule" "Z") (List.mem_of_getElem? (i := 1) rfl)) rfl rfl (by first | rfl | exact bI_nar _) (by first | rfl | exact bI_fit _) (Nat.le_of_ble_eq_true rfl) dX6_behindWord_126 (fun Hp lcs hM => ?_)
        have hI := hI.setObj rc (nI 0) (bI wt) us ab gi wr wo
        refine lv_iload_n hx hb dX6_behindWord_129 rfl (lv_at hl 2 rfl) ?_
        refine lvb_eq (tgt := 137) hx hb dX6_behindWord_130 (by decide) (fun cz3 => ?_) (fun cz3 => ?_)
        · refine lv_iload_n hx hb dX6_behindWord_137 rfl (lv_at hl 5 rfl) ?_
          refine lv_if_ne (tgt := 145) hx hb dX6_behindWord_138 (by decide) (fun _ => ?_) (fun hq9 => absurd hq9 cz2)
          refine lv_iload hx hb dX6_behindWord_145 (lv_at hl 0 rfl) ?_
          refine lvb_eq (tgt := 155) hx hb dX6_behindWord_147 (by decide) (fun cz4 => ?_) (fun cz4 => ?_)
          · refine lv_ldc (v := (-100005)) hx hb hown (hts (.constant RX6 28 (-100005)) (List.mem_of_getElem? (i := 2) rfl)) dX6_behindWord_155 ?_
            exact mm_iret hx hb hlocks hr (Nat.le_of_ble_eq_true rfl) (Nat.le_of_ble_eq_true rfl) hM (⟨congrArg (fun z => some (Value.int z)) (by first | (simp [bwV, cz1, cz2, cz3, cz4]; done) | (simp [bwV, cz1, cz2, cz3, cz4]; intro hq8; exact absurd hq8 (by decide)) | (simp [bwV, inB, cz1, cz2, cz3, cz4]; done)), (hI.cI (bIf (by first | (simp [bwR, cz1, cz2, cz3, cz4]; done) | (simp [bwR, cz1, cz2, cz3, cz4]; intro hq8; exact absurd hq8 (by decide)) | (simp [bwR, inB, cz1, cz2, cz3, cz4]; done)))).cD (congrArg bI (by first | (simp [bwD, cz1, cz2, cz3, cz4]; done) | (simp [bwD, cz1, cz2, cz3, cz4]; intro hq8; exact absurd hq8 (by decide)) | (simp [bwD, inB, cz1, cz2, cz3, cz4]; done)))⟩) dX6_behindWord_157
          refine lv_bipush (v := (nI 8)) hx hb dX6_behindWord_150 (by decide +kernel) ?_
          refine lv_goto (tgt := 157) hx hb dX6_behindWord_152 (by decide) ?_
          exact mm_iret hx hb hlocks hr (Nat.le_of_ble_eq_true rfl) (Nat.le_of_ble_eq_true rfl) hM (⟨congrArg (fun z => some (Value.int z)) (by first | (simp [bwV, cz1, cz2, cz3, cz4]; done) | (simp [bwV, cz1, cz2, cz3, cz4]; intro hq8; exact absurd hq8 (by decide)) | (simp [bwV, inB, cz1, cz2, cz3, cz4]; done)), (hI.cI (bIf (by first | (simp [bwR, cz1, cz2, cz3, cz4]; done) | (simp [bwR, cz1, cz2, cz3, cz4]; intro hq8; exact absurd hq8 (by decide)) | (simp [bwR, inB, cz1, cz2, cz3, cz4]; done)))).cD (congrArg bI (by first | (simp [bwD, cz1, cz2, cz3, cz4]; done) | (simp [bwD, cz1, cz2, cz3, cz4]; intro hq8; exact absurd hq8 (by decide)) | (simp [bwD, inB, cz1, cz2, cz3, cz4]; done)))⟩) dX6_behindWord_157
        refine lv_iconst (v := (nI 1)) hx hb dX6_behindWord_133 (by decide +kernel) ?_
        refine lv_goto (tgt := 157) hx hb dX6_behindWord_134 (by decide) ?_
        exact mm_iret hx hb hlocks hr (Nat.le_of_ble_eq_true rfl) (Nat.le_of_ble_eq_true rfl) hM (⟨congrArg (fun z => some (Value.int z)) (by first | (simp [bwV, cz1, cz2, cz3]; done) | (simp [bwV, cz1, cz2, cz3]; intro hq8; exact absurd hq8 (by decide)) | (simp [bwV, inB, cz1, cz2, cz3]; done)), (hI.cI (bIf (by first | (simp [bwR, cz1, cz2, cz3]; done) | (simp [bwR, cz1, cz2, cz3]; intro hq8; exact absurd hq8 (by decide)) | (simp [bwR, inB, cz1, cz2, cz3]; done)))).cD (congrArg bI (by first | (simp [bwD, cz1, cz2, cz3]; done) | (simp [bwD, cz1, cz2, cz3]; intro hq8; exact absurd hq8 (by decide)) | (simp [bwD, inB, cz1, cz2, cz3]; done)))⟩) dX6_behindWord_157
      refine lv_iconst (v := (nI 1)) hx hb dX6_behindWord_121 (by decide +kernel) ?_
      refine lv_goto (tgt := 126) hx hb dX6_behindWord_122 (by decide) ?_
      refine mm_put (C := RX6) (T := TX6) (N := 14) (k := 4) hx hb hts (fun _ h => List.mem_cons_of_mem _ (List.mem_append_right _ h)) tyX6 tyX6_ok nmX6 hown hK hM (hI.obj) rfl (by decide) (hts (.fieldLink RX6 74 "SentenceRulesModel" "isRule" "Z") (List.mem_of_getElem? (i := 1) rfl)) rfl rfl (by first | rfl | exact bI_nar _) (by first | rfl | exact bI_fit _) (Nat.le_of_ble_eq_true rfl) dX6_behindWord_126 (fun Hp lcs hM => ?_)
      have hI := hI.setObj rc (nI 1) (bI wt) us ab gi wr wo
      refine lv_iload_n hx hb dX6_behindWord_129 rfl (lv_at hl 2 rfl) ?_
      refine lvb_eq (tgt := 137) hx hb dX6_behindWord_130 (by decide) (fun cz5 => ?_) (fun cz5 => ?_)
      · refine lv_iload_n hx hb dX6_behindWord_137 rfl (lv_at hl 5 rfl) ?_
        refine lv_if_ne (tgt := 145) hx hb dX6_behindWord_138 (by decide) (fun hq9 => absurd cz2 hq9) (fun _ => ?_)
        refine lv_iconst (v := (nI 2)) hx hb dX6_behindWord_141 (by decide +kernel) ?_
        refine lv_goto (tgt := 157) hx hb dX6_behindWord_142 (by decide) ?_
        exact mm_iret hx hb hlocks hr (Nat.le_of_ble_eq_true rfl) (Nat.le_of_ble_eq_true rfl) hM (⟨congrArg (fun z => some (Value.int z)) (by first | (simp [bwV, cz1, cz2, cz5]; done) | (simp [bwV, cz1, cz2, cz5]; intro hq8; exact absurd hq8 (by decide)) | (simp [bwV, inB, cz1, cz2, cz5]; done)), (hI.cI (bIt (by first | (simp [bwR, cz1, cz2, cz5]; done) | (simp [bwR, cz1, cz2, cz5]; intro hq8; exact absurd hq8 (by decide)) | (simp [bwR, inB, cz1, cz2, cz5]; done)))).cD (congrArg bI (by first | (simp [bwD, cz1, cz2, cz5]; done) | (simp [bwD, cz1, cz2, cz5]; intro hq8; exact absurd hq8 (by decide)) | (simp [bwD, inB, cz1, cz2, cz5]; done)))⟩) dX6_behindWord_157
      refine lv_iconst (v := (nI 1)) hx hb dX6_behindWord_133 (by decide +kernel) ?_
      refine lv_goto (tgt := 157) hx hb dX6_behindWord_134 (by decide) ?_
      exact mm_iret hx hb hlocks hr (Nat.le_of_ble_eq_true rfl) (Nat.le_of_ble_eq_true rfl) hM (absurd cz5 (by rw [cz2]; decide)) dX6_behindWord_157
    by_cases cz6 : p = 1
    · refine lv_tableIn (tgt := 158) hx hb dX6_behindWord_48 (by rw [nI_toInt (by omega)]; omega) (by rw [nI_toInt (by omega)]; omega) (by rw [cz6]; rfl) (by decide) ?_
      refine lv_iload_n hx hb dX6_behindWord_158 rfl (lv_at hl 5 rfl) ?_
      refine lv_iconst (v := (nI 3)) hx hb dX6_behindWord_159 (by decide +kernel) ?_
      refine lv_icmp_ne (tgt := 167) hx hb dX6_behindWord_160 (by decide) (fun cz7 => ?_) (fun cz7 => ?_)
      · refine lv_ldc (v := (-100005)) hx hb hown (hts (.constant RX6 28 (-100005)) (List.mem_of_getElem? (i := 2) rfl)) dX6_behindWord_167 ?_
        exact mm_iret hx hb hlocks hr (Nat.le_of_ble_eq_true rfl) (Nat.le_of_ble_eq_true rfl) hM (⟨congrArg (fun z => some (Value.int z)) (by first | (simp [bwV, cz1, cz6, cz7]; done) | (simp [bwV, cz1, cz6, cz7]; intro hq8; exact absurd hq8 (by decide)) | (simp [bwV, inB, cz1, cz6, cz7]; done)), (hI.cI (congrArg bI (by first | (simp [bwR, cz1, cz6, cz7]; done) | (simp [bwR, cz1, cz6, cz7]; intro hq8; exact absurd hq8 (by decide)) | (simp [bwR, inB, cz1, cz6, cz7]; done)))).cD (congrArg bI (by first | (simp [bwD, cz1, cz6, cz7]; done) | (simp [bwD, cz1, cz6, cz7]; intro hq8; exact absurd hq8 (by decide)) | (simp [bwD, inB, cz1, cz6, cz7]; done)))⟩) dX6_behindWord_169
      refine lv_iconst (v := (nI 2)) hx hb dX6_behindWord_163 (by decide +kernel) ?_
      refine lv_goto (tgt := 169) hx hb dX6_behindWord_164 (by decide) ?_
      exact mm_iret hx hb hlocks hr (Nat.le_of_ble_eq_true rfl) (Nat.le_of_ble_eq_true rfl) hM (⟨congrArg (fun z => some (Value.int z)) (by first | (simp [bwV, cz1, cz6, cz7]; done) | (simp [bwV, cz1, cz6, cz7]; intro hq8; exact absurd hq8 (by decide)) | (simp [bwV, inB, cz1, cz6, cz7]; done)), (hI.cI (congrArg bI (by first | (simp [bwR, cz1, cz6, cz7]; done) | (simp [bwR, cz1, cz6, cz7]; intro hq8; exact absurd hq8 (by decide)) | (simp [bwR, inB, cz1, cz6, cz7]; done)))).cD (congrArg bI (by first | (simp [bwD, cz1, cz6, cz7]; done) | (simp [bwD, cz1, cz6, cz7]; intro hq8; exact absurd hq8 (by decide)) | (simp [bwD, inB, cz1, cz6, cz7]; done)))⟩) dX6_behindWord_169
    by_cases cz8 : p = 2
    · refine lv_tableIn (tgt := 170) hx hb dX6_behindWord_48 (by rw [nI_toInt (by omega)]; omega) (by rw [nI_toInt (by omega)]; omega) (by rw [cz8]; rfl) (by decide) ?_
      refine lv_aload_n hx hb dX6_behindWord_170 rfl (lv_at hl 3 rfl) ?_
      refine lv_iload_n hx hb dX6_behindWord_171 rfl (lv_at hl 5 rfl) ?_
      refine lv_bipush (v := (nI 13)) hx hb dX6_behindWord_172 (by decide +kernel) ?_
      refine lv_icmp_le (tgt := 181) hx hb dX6_behindWord_174 (by decide) (fun cz9 => ?_) (fun cz9 => ?_)
      · refine lv_iconst (v := (nI 0)) hx hb dX6_behindWord_181 (by decide +kernel) ?_
        refine mm_put (C := RX6) (T := TX6) (N := 14) (k := 5) hx hb hts (fun _ h => List.mem_cons_of_mem _ (List.mem_append_right _ h)) tyX6 tyX6_ok nmX6 hown hK hM (hI.obj) rfl (by decide) (hts (.fieldLink RX6 78 "SentenceRulesModel" "wantsDate" "Z") (List.mem_of_getElem? (i := 3) rfl)) rfl rfl (by first | rfl | exact bI_nar _) (by first | rfl | exact bI_fit _) (Nat.le_of_ble_eq_true rfl) dX6_behindWord_182 (fun Hp lcs hM => ?_)
        have hI := hI.setObj rc (bI ir) (nI 0) us ab gi wr wo
        refine lv_iload_n hx hb dX6_behindWord_185 rfl (lv_at hl 2 rfl) ?_
        refine lvb_eq (tgt := 194) hx hb dX6_behindWord_186 (by decide) (fun cz10 => ?_) (fun cz10 => ?_)
        · refine lv_iload hx hb dX6_behindWord_194 (lv_at hl 1 rfl) ?_
          refine lvb_eq (tgt := 203) hx hb dX6_behindWord_196 (by decide) (fun cz11 => ?_) (fun cz11 => ?_)
          · refine lv_ldc (v := (-100005)) hx hb hown (hts (.constant RX6 28 (-100005)) (List.mem_of_getElem? (i := 2) rfl)) dX6_behindWord_203 ?_
            exact mm_iret hx hb hlocks hr (Nat.le_of_ble_eq_true rfl) (Nat.le_of_ble_eq_true rfl) hM (⟨congrArg (fun z => some (Value.int z)) (by first | (simp [bwV, cz1, cz6, cz8, cz9, cz10, cz11]; done) | (simp [bwV, cz1, cz6, cz8, cz9, cz10, cz11]; intro hq8; exact absurd hq8 (by decide)) | (simp [bwV, inB, cz1, cz6, cz8, cz9, cz10, cz11]; done)), (hI.cI (congrArg bI (by first | (simp [bwR, cz1, cz6, cz8, cz9, cz10, cz11]; done) | (simp [bwR, cz1, cz6, cz8, cz9, cz10, cz11]; intro hq8; exact absurd hq8 (by decide)) | (simp [bwR, inB, cz1, cz6, cz8, cz9, cz10, cz11]; done)))).cD (bIf (by first | (simp [bwD, cz1, cz6, cz8, cz9, cz10, cz11]; done) | (simp [bwD, cz1, cz6, cz8, cz9, cz10, cz11]; intro hq8; exact absurd hq8 (by decide)) | (simp [bwD, inB, cz1, cz6, cz8, cz9, cz10, cz11]; done)))⟩) dX6_behindWord_205
          refine lv_iconst (v := (nI 3)) hx hb dX6_behindWord_199 (by decide +kernel) ?_
          refine lv_goto (tgt := 205) hx hb dX6_behindWord_200 (by decide) ?_
          exact mm_iret hx hb hlocks hr (Nat.le_of_ble_eq_true rfl) (Nat.le_of_ble_eq_true rfl) hM (⟨congrArg (fun z => some (Value.int z)) (by first | (simp [bwV, cz1, cz6, cz8, cz9, cz10, cz11]; done) | (simp [bwV, cz1, cz6, cz8, cz9, cz10, cz11]; intro hq8; exact absurd hq8 (by decide)) | (simp [bwV, inB, cz1, cz6, cz8, cz9, cz10, cz11]; done)), (hI.cI (congrArg bI (by first | (simp [bwR, cz1, cz6, cz8, cz9, cz10, cz11]; done) | (simp [bwR, cz1, cz6, cz8, cz9, cz10, cz11]; intro hq8; exact absurd hq8 (by decide)) | (simp [bwR, inB, cz1, cz6, cz8, cz9, cz10, cz11]; done)))).cD (bIf (by first | (simp [bwD, cz1, cz6, cz8, cz9, cz10, cz11]; done) | (simp [bwD, cz1, cz6, cz8, cz9, cz10, cz11]; intro hq8; exact absurd hq8 (by decide)) | (simp [bwD, inB, cz1, cz6, cz8, cz9, cz10, cz11]; done)))⟩) dX6_behindWord_205
        refine lv_bipush (v := (nI 6)) hx hb dX6_behindWord_189 (by decide +kernel) ?_
        refine lv_goto (tgt := 205) hx hb dX6_behindWord_191 (by decide) ?_
        exact mm_iret hx hb hlocks hr (Nat.le_of_ble_eq_true rfl) (Nat.le_of_ble_eq_true rfl) hM (⟨congrArg (fun z => some (Value.int z)) (by first | (simp [bwV, cz1, cz6, cz8, cz9, cz10]; done) | (simp [bwV, cz1, cz6, cz8, cz9, cz10]; intro hq8; exact absurd hq8 (by decide)) | (simp [bwV, inB, cz1, cz6, cz8, cz9, cz10]; done)), (hI.cI (congrArg bI (by first | (simp [bwR, cz1, cz6, cz8, cz9, cz10]; done) | (simp [bwR, cz1, cz6, cz8, cz9, cz10]; intro hq8; exact absurd hq8 (by decide)) | (simp [bwR, inB, cz1, cz6, cz8, cz9, cz10]; done)))).cD (bIf (by first | (simp [bwD, cz1, cz6, cz8, cz9, cz10]; done) | (simp [bwD, cz1, cz6, cz8, cz9, cz10]; intro hq8; exact absurd hq8 (by decide)) | (simp [bwD, inB, cz1, cz6, cz8, cz9, cz10]; done)))⟩) dX6_behindWord_205
      refine lv_iconst (v := (nI 1)) hx hb dX6_behindWord_177 (by decide +kernel) ?_
      refine lv_goto (tgt := 182) hx hb dX6_behindWord_178 (by decide) ?_
      refine mm_put (C := RX6) (T := TX6) (N := 14) (k := 5) hx hb hts (fun _ h => List.mem_cons_of_mem _ (List.mem_append_right _ h)) tyX6 tyX6_ok nmX6 hown hK hM (hI.obj) rfl (by decide) (hts (.fieldLink RX6 78 "SentenceRulesModel" "wantsDate" "Z") (List.mem_of_getElem? (i := 3) rfl)) rfl rfl (by first | rfl | exact bI_nar _) (by first | rfl | exact bI_fit _) (Nat.le_of_ble_eq_true rfl) dX6_behindWord_182 (fun Hp lcs hM => ?_)
      have hI := hI.setObj rc (bI ir) (nI 1) us ab gi wr wo
      refine lv_iload_n hx hb dX6_behindWord_185 rfl (lv_at hl 2 rfl) ?_
      refine lvb_eq (tgt := 194) hx hb dX6_behindWord_186 (by decide) (fun cz12 => ?_) (fun cz12 => ?_)
      · refine lv_iload hx hb dX6_behindWord_194 (lv_at hl 1 rfl) ?_
        refine lvb_eq (tgt := 203) hx hb dX6_behindWord_196 (by decide) (fun cz13 => ?_) (fun cz13 => ?_)
        · refine lv_ldc (v := (-100005)) hx hb hown (hts (.constant RX6 28 (-100005)) (List.mem_of_getElem? (i := 2) rfl)) dX6_behindWord_203 ?_
          exact mm_iret hx hb hlocks hr (Nat.le_of_ble_eq_true rfl) (Nat.le_of_ble_eq_true rfl) hM (⟨congrArg (fun z => some (Value.int z)) (by first | (simp [bwV, cz1, cz6, cz8, cz9, cz12, cz13]; done) | (simp [bwV, cz1, cz6, cz8, cz9, cz12, cz13]; intro hq8; exact absurd hq8 (by decide)) | (simp [bwV, inB, cz1, cz6, cz8, cz9, cz12, cz13]; done)), (hI.cI (congrArg bI (by first | (simp [bwR, cz1, cz6, cz8, cz9, cz12, cz13]; done) | (simp [bwR, cz1, cz6, cz8, cz9, cz12, cz13]; intro hq8; exact absurd hq8 (by decide)) | (simp [bwR, inB, cz1, cz6, cz8, cz9, cz12, cz13]; done)))).cD (bIt (by first | (simp [bwD, cz1, cz6, cz8, cz9, cz12, cz13]; done) | (simp [bwD, cz1, cz6, cz8, cz9, cz12, cz13]; intro hq8; exact absurd hq8 (by decide)) | (simp [bwD, inB, cz1, cz6, cz8, cz9, cz12, cz13]; done)))⟩) dX6_behindWord_205
        refine lv_iconst (v := (nI 3)) hx hb dX6_behindWord_199 (by decide +kernel) ?_
        refine lv_goto (tgt := 205) hx hb dX6_behindWord_200 (by decide) ?_
        exact mm_iret hx hb hlocks hr (Nat.le_of_ble_eq_true rfl) (Nat.le_of_ble_eq_true rfl) hM (⟨congrArg (fun z => some (Value.int z)) (by first | (simp [bwV, cz1, cz6, cz8, cz9, cz12, cz13]; done) | (simp [bwV, cz1, cz6, cz8, cz9, cz12, cz13]; intro hq8; exact absurd hq8 (by decide)) | (simp [bwV, inB, cz1, cz6, cz8, cz9, cz12, cz13]; done)), (hI.cI (congrArg bI (by first | (simp [bwR, cz1, cz6, cz8, cz9, cz12, cz13]; done) | (simp [bwR, cz1, cz6, cz8, cz9, cz12, cz13]; intro hq8; exact absurd hq8 (by decide)) | (simp [bwR, inB, cz1, cz6, cz8, cz9, cz12, cz13]; done)))).cD (bIt (by first | (simp [bwD, cz1, cz6, cz8, cz9, cz12, cz13]; done) | (simp [bwD, cz1, cz6, cz8, cz9, cz12, cz13]; intro hq8; exact absurd hq8 (by decide)) | (simp [bwD, inB, cz1, cz6, cz8, cz9, cz12, cz13]; done)))⟩) dX6_behindWord_205
      refine lv_bipush (v := (nI 6)) hx hb dX6_behindWord_189 (by decide +kernel) ?_
      refine lv_goto (tgt := 205) hx hb dX6_behindWord_191 (by decide) ?_
      exact mm_iret hx hb hlocks hr (Nat.le_of_ble_eq_true rfl) (Nat.le_of_ble_eq_true rfl) hM (⟨congrArg (fun z => some (Value.int z)) (by first | (simp [bwV, cz1, cz6, cz8, cz9, cz12]; done) | (simp [bwV, cz1, cz6, cz8, cz9, cz12]; intro hq8; exact absurd hq8 (by decide)) | (simp [bwV, inB, cz1, cz6, cz8, cz9, cz12]; done)), (hI.cI (congrArg bI (by first | (simp [bwR, cz1, cz6, cz8, cz9, cz12]; done) | (simp [bwR, cz1, cz6, cz8, cz9, cz12]; intro hq8; exact absurd hq8 (by decide)) | (simp [bwR, inB, cz1, cz6, cz8, cz9, cz12]; done)))).cD (bIt (by first | (simp [bwD, cz1, cz6, cz8, cz9, cz12]; done) | (simp [bwD, cz1, cz6, cz8, cz9, cz12]; intro hq8; exact absurd hq8 (by decide)) | (simp [bwD, inB, cz1, cz6, cz8, cz9, cz12]; done)))⟩) dX6_behindWord_205
    by_cases cz14 : p = 3
    · refine lv_tableIn (tgt := 206) hx hb dX6_behindWord_48 (by rw [nI_toInt (by omega)]; omega) (by rw [nI_toInt (by omega)]; omega) (by rw [cz14]; rfl) (by decide) ?_
      refine lv_iload_n hx hb dX6_behindWord_206 rfl (lv_at hl 5 rfl) ?_
      refine lv_bipush (v := (nI 7)) hx hb dX6_behindWord_207 (by decide +kernel) ?_
      refine lv_icmp_ne (tgt := 216) hx hb dX6_behindWord_209 (by decide) (fun cz15 => ?_) (fun cz15 => ?_)
      · refine lv_iload_n hx hb dX6_behindWord_216 rfl (lv_at hl 5 rfl) ?_
        refine lv_iconst (v := (nI 4)) hx hb dX6_behindWord_217 (by decide +kernel) ?_
        refine lv_icmp_eq (tgt := 226) hx hb dX6_behindWord_218 (by decide) (fun cz16 => ?_) (fun cz16 => ?_)
        · refine lv_iconst (v := (nI 5)) hx hb dX6_behindWord_226 (by decide +kernel) ?_
          refine lv_goto (tgt := 232) hx hb dX6_behindWord_227 (by decide) ?_
          exact mm_iret hx hb hlocks hr (Nat.le_of_ble_eq_true rfl) (Nat.le_of_ble_eq_true rfl) hM (⟨congrArg (fun z => some (Value.int z)) (by first | (simp [bwV, cz1, cz6, cz8, cz14, cz15, cz16]; done) | (simp [bwV, cz1, cz6, cz8, cz14, cz15, cz16]; intro hq8; exact absurd hq8 (by decide)) | (simp [bwV, inB, cz1, cz6, cz8, cz14, cz15, cz16]; done)), (hI.cI (congrArg bI (by first | (simp [bwR, cz1, cz6, cz8, cz14, cz15, cz16]; done) | (simp [bwR, cz1, cz6, cz8, cz14, cz15, cz16]; intro hq8; exact absurd hq8 (by decide)) | (simp [bwR, inB, cz1, cz6, cz8, cz14, cz15, cz16]; done)))).cD (congrArg bI (by first | (simp [bwD, cz1, cz6, cz8, cz14, cz15, cz16]; done) | (simp [bwD, cz1, cz6, cz8, cz14, cz15, cz16]; intro hq8; exact absurd hq8 (by decide)) | (simp [bwD, inB, cz1, cz6, cz8, cz14, cz15, cz16]; done)))⟩) dX6_behindWord_232
        refine lv_iload hx hb dX6_behindWord_221 (lv_at hl 6 rfl) ?_
        refine lvb_eq (tgt := 230) hx hb dX6_behindWord_223 (by decide) (fun cz17 => ?_) (fun cz17 => ?_)
        · refine lv_ldc (v := (-100005)) hx hb hown (hts (.constant RX6 28 (-100005)) (List.mem_of_getElem? (i := 2) rfl)) dX6_behindWord_230 ?_
          exact mm_iret hx hb hlocks hr (Nat.le_of_ble_eq_true rfl) (Nat.le_of_ble_eq_true rfl) hM (⟨congrArg (fun z => some (Value.int z)) (by first | (simp [bwV, cz1, cz6, cz8, cz14, cz15, cz16, cz17]; done) | (simp [bwV, cz1, cz6, cz8, cz14, cz15, cz16, cz17]; intro hq8; exact absurd hq8 (by decide)) | (simp [bwV, inB, cz1, cz6, cz8, cz14, cz15, cz16, cz17]; done)), (hI.cI (congrArg bI (by first | (simp [bwR, cz1, cz6, cz8, cz14, cz15, cz16, cz17]; done) | (simp [bwR, cz1, cz6, cz8, cz14, cz15, cz16, cz17]; intro hq8; exact absurd hq8 (by decide)) | (simp [bwR, inB, cz1, cz6, cz8, cz14, cz15, cz16, cz17]; done)))).cD (congrArg bI (by first | (simp [bwD, cz1, cz6, cz8, cz14, cz15, cz16, cz17]; done) | (simp [bwD, cz1, cz6, cz8, cz14, cz15, cz16, cz17]; intro hq8; exact absurd hq8 (by decide)) | (simp [bwD, inB, cz1, cz6, cz8, cz14, cz15, cz16, cz17]; done)))⟩) dX6_behindWord_232
        refine lv_iconst (v := (nI 5)) hx hb dX6_behindWord_226 (by decide +kernel) ?_
        refine lv_goto (tgt := 232) hx hb dX6_behindWord_227 (by decide) ?_
        exact mm_iret hx hb hlocks hr (Nat.le_of_ble_eq_true rfl) (Nat.le_of_ble_eq_true rfl) hM (⟨congrArg (fun z => some (Value.int z)) (by first | (simp [bwV, cz1, cz6, cz8, cz14, cz15, cz16, cz17]; done) | (simp [bwV, cz1, cz6, cz8, cz14, cz15, cz16, cz17]; intro hq8; exact absurd hq8 (by decide)) | (simp [bwV, inB, cz1, cz6, cz8, cz14, cz15, cz16, cz17]; done)), (hI.cI (congrArg bI (by first | (simp [bwR, cz1, cz6, cz8, cz14, cz15, cz16, cz17]; done) | (simp [bwR, cz1, cz6, cz8, cz14, cz15, cz16, cz17]; intro hq8; exact absurd hq8 (by decide)) | (simp [bwR, inB, cz1, cz6, cz8, cz14, cz15, cz16, cz17]; done)))).cD (congrArg bI (by first | (simp [bwD, cz1, cz6, cz8, cz14, cz15, cz16, cz17]; done) | (simp [bwD, cz1, cz6, cz8, cz14, cz15, cz16, cz17]; intro hq8; exact absurd hq8 (by decide)) | (simp [bwD, inB, cz1, cz6, cz8, cz14, cz15, cz16, cz17]; done)))⟩) dX6_behindWord_232
      refine lv_iconst (v := (nI 4)) hx hb dX6_behindWord_212 (by decide +kernel) ?_
      refine lv_goto (tgt := 232) hx hb dX6_behindWord_213 (by decide) ?_
      exact mm_iret hx hb hlocks hr (Nat.le_of_ble_eq_true rfl) (Nat.le_of_ble_eq_true rfl) hM (⟨congrArg (fun z => some (Value.int z)) (by first | (simp [bwV, cz1, cz6, cz8, cz14, cz15]; done) | (simp [bwV, cz1, cz6, cz8, cz14, cz15]; intro hq8; exact absurd hq8 (by decide)) | (simp [bwV, inB, cz1, cz6, cz8, cz14, cz15]; done)), (hI.cI (congrArg bI (by first | (simp [bwR, cz1, cz6, cz8, cz14, cz15]; done) | (simp [bwR, cz1, cz6, cz8, cz14, cz15]; intro hq8; exact absurd hq8 (by decide)) | (simp [bwR, inB, cz1, cz6, cz8, cz14, cz15]; done)))).cD (congrArg bI (by first | (simp [bwD, cz1, cz6, cz8, cz14, cz15]; done) | (simp [bwD, cz1, cz6, cz8, cz14, cz15]; intro hq8; exact absurd hq8 (by decide)) | (simp [bwD, inB, cz1, cz6, cz8, cz14, cz15]; done)))⟩) dX6_behindWord_232
    by_cases cz18 : p = 4
    · refine lv_tableIn (tgt := 233) hx hb dX6_behindWord_48 (by rw [nI_toInt (by omega)]; omega) (by rw [nI_toInt (by omega)]; omega) (by rw [cz18]; rfl) (by decide) ?_
      refine lv_iload hx hb dX6_behindWord_233 (lv_at hl 6 rfl) ?_
      refine lvb_eq (tgt := 242) hx hb dX6_behindWord_235 (by decide) (fun cz19 => ?_) (fun cz19 => ?_)
      · refine lv_ldc (v := (-100005)) hx hb hown (hts (.constant RX6 28 (-100005)) (List.mem_of_getElem? (i := 2) rfl)) dX6_behindWord_242 ?_
        exact mm_iret hx hb hlocks hr (Nat.le_of_ble_eq_true rfl) (Nat.le_of_ble_eq_true rfl) hM (⟨congrArg (fun z => some (Value.int z)) (by first | (simp [bwV, cz1, cz6, cz8, cz14, cz18, cz19]; done) | (simp [bwV, cz1, cz6, cz8, cz14, cz18, cz19]; intro hq8; exact absurd hq8 (by decide)) | (simp [bwV, inB, cz1, cz6, cz8, cz14, cz18, cz19]; done)), (hI.cI (congrArg bI (by first | (simp [bwR, cz1, cz6, cz8, cz14, cz18, cz19]; done) | (simp [bwR, cz1, cz6, cz8, cz14, cz18, cz19]; intro hq8; exact absurd hq8 (by decide)) | (simp [bwR, inB, cz1, cz6, cz8, cz14, cz18, cz19]; done)))).cD (congrArg bI (by first | (simp [bwD, cz1, cz6, cz8, cz14, cz18, cz19]; done) | (simp [bwD, cz1, cz6, cz8, cz14, cz18, cz19]; intro hq8; exact absurd hq8 (by decide)) | (simp [bwD, inB, cz1, cz6, cz8, cz14, cz18, cz19]; done)))⟩) dX6_behindWord_244
      refine lv_iconst (v := (nI 5)) hx hb dX6_behindWord_238 (by decide +kernel) ?_
      refine lv_goto (tgt := 244) hx hb dX6_behindWord_239 (by decide) ?_
      exact mm_iret hx hb hlocks hr (Nat.le_of_ble_eq_true rfl) (Nat.le_of_ble_eq_true rfl) hM (⟨congrArg (fun z => some (Value.int z)) (by first | (simp [bwV, cz1, cz6, cz8, cz14, cz18, cz19]; done) | (simp [bwV, cz1, cz6, cz8, cz14, cz18, cz19]; intro hq8; exact absurd hq8 (by decide)) | (simp [bwV, inB, cz1, cz6, cz8, cz14, cz18, cz19]; done)), (hI.cI (congrArg bI (by first | (simp [bwR, cz1, cz6, cz8, cz14, cz18, cz19]; done) | (simp [bwR, cz1, cz6, cz8, cz14, cz18, cz19]; intro hq8; exact absurd hq8 (by decide)) | (simp [bwR, inB, cz1, cz6, cz8, cz14, cz18, cz19]; done)))).cD (congrArg bI (by first | (simp [bwD, cz1, cz6, cz8, cz14, cz18, cz19]; done) | (simp [bwD, cz1, cz6, cz8, cz14, cz18, cz19]; intro hq8; exact absurd hq8 (by decide)) | (simp [bwD, inB, cz1, cz6, cz8, cz14, cz18, cz19]; done)))⟩) dX6_behindWord_244
    by_cases cz20 : p = 6
    · refine lv_tableIn (tgt := 245) hx hb dX6_behindWord_48 (by rw [nI_toInt (by omega)]; omega) (by rw [nI_toInt (by omega)]; omega) (by rw [cz20]; rfl) (by decide) ?_
      refine lv_iload_n hx hb dX6_behindWord_245 rfl (lv_at hl 5 rfl) ?_
      refine lv_iconst (v := (nI 1)) hx hb dX6_behindWord_246 (by decide +kernel) ?_
      refine lv_icmp_ne (tgt := 254) hx hb dX6_behindWord_247 (by decide) (fun cz21 => ?_) (fun cz21 => ?_)
      · refine lv_iload_n hx hb dX6_behindWord_254 rfl (lv_at hl 5 rfl) ?_
        refine lv_iconst (v := (nI 2)) hx hb dX6_behindWord_255 (by decide +kernel) ?_
        refine lv_icmp_ne (tgt := 271) hx hb dX6_behindWord_256 (by decide) (fun cz22 => ?_) (fun cz22 => ?_)
        · refine lv_ldc (v := (-100005)) hx hb hown (hts (.constant RX6 28 (-100005)) (List.mem_of_getElem? (i := 2) rfl)) dX6_behindWord_271 ?_
          exact mm_iret hx hb hlocks hr (Nat.le_of_ble_eq_true rfl) (Nat.le_of_ble_eq_true rfl) hM (⟨congrArg (fun z => some (Value.int z)) (by first | (simp [bwV, cz1, cz6, cz8, cz14, cz18, cz20, cz21, cz22]; done) | (simp [bwV, cz1, cz6, cz8, cz14, cz18, cz20, cz21, cz22]; intro hq8; exact absurd hq8 (by decide)) | (simp [bwV, inB, cz1, cz6, cz8, cz14, cz18, cz20, cz21, cz22]; done)), (hI.cI (congrArg bI (by first | (simp [bwR, cz1, cz6, cz8, cz14, cz18, cz20, cz21, cz22]; done) | (simp [bwR, cz1, cz6, cz8, cz14, cz18, cz20, cz21, cz22]; intro hq8; exact absurd hq8 (by decide)) | (simp [bwR, inB, cz1, cz6, cz8, cz14, cz18, cz20, cz21, cz22]; done)))).cD (congrArg bI (by first | (simp [bwD, cz1, cz6, cz8, cz14, cz18, cz20, cz21, cz22]; done) | (simp [bwD, cz1, cz6, cz8, cz14, cz18, cz20, cz21, cz22]; intro hq8; exact absurd hq8 (by decide)) | (simp [bwD, inB, cz1, cz6, cz8, cz14, cz18, cz20, cz21, cz22]; done)))⟩) dX6_behindWord_273
        refine lv_aload_n hx hb dX6_behindWord_259 rfl (lv_at hl 3 rfl) ?_
        refine mm_get (C := RX6) (T := TX6) (N := 14) (k := 4) hx hb hts (fun _ h => List.mem_cons_of_mem _ (List.mem_append_right _ h)) hown hK hM (hI.obj) rfl (by decide) (hts (.fieldLink RX6 74 "SentenceRulesModel" "isRule" "Z") (List.mem_of_getElem? (i := 1) rfl)) rfl rfl dX6_behindWord_260 ?_
        refine lvb_eq (tgt := 271) hx hb dX6_behindWord_263 (by decide) (fun cz23 => ?_) (fun cz23 => ?_)
        · refine lv_ldc (v := (-100005)) hx hb hown (hts (.constant RX6 28 (-100005)) (List.mem_of_getElem? (i := 2) rfl)) dX6_behindWord_271 ?_
          exact mm_iret hx hb hlocks hr (Nat.le_of_ble_eq_true rfl) (Nat.le_of_ble_eq_true rfl) hM (⟨congrArg (fun z => some (Value.int z)) (by first | (simp [bwV, cz1, cz6, cz8, cz14, cz18, cz20, cz21, cz22, cz23]; done) | (simp [bwV, cz1, cz6, cz8, cz14, cz18, cz20, cz21, cz22, cz23]; intro hq8; exact absurd hq8 (by decide)) | (simp [bwV, inB, cz1, cz6, cz8, cz14, cz18, cz20, cz21, cz22, cz23]; done)), (hI.cI (congrArg bI (by first | (simp [bwR, cz1, cz6, cz8, cz14, cz18, cz20, cz21, cz22, cz23]; done) | (simp [bwR, cz1, cz6, cz8, cz14, cz18, cz20, cz21, cz22, cz23]; intro hq8; exact absurd hq8 (by decide)) | (simp [bwR, inB, cz1, cz6, cz8, cz14, cz18, cz20, cz21, cz22, cz23]; done)))).cD (congrArg bI (by first | (simp [bwD, cz1, cz6, cz8, cz14, cz18, cz20, cz21, cz22, cz23]; done) | (simp [bwD, cz1, cz6, cz8, cz14, cz18, cz20, cz21, cz22, cz23]; intro hq8; exact absurd hq8 (by decide)) | (simp [bwD, inB, cz1, cz6, cz8, cz14, cz18, cz20, cz21, cz22, cz23]; done)))⟩) dX6_behindWord_273
        refine lv_bipush (v := (nI 7)) hx hb dX6_behindWord_266 (by decide +kernel) ?_
        refine lv_goto (tgt := 273) hx hb dX6_behindWord_268 (by decide) ?_
        exact mm_iret hx hb hlocks hr (Nat.le_of_ble_eq_true rfl) (Nat.le_of_ble_eq_true rfl) hM (⟨congrArg (fun z => some (Value.int z)) (by first | (simp [bwV, cz1, cz6, cz8, cz14, cz18, cz20, cz21, cz22, cz23]; done) | (simp [bwV, cz1, cz6, cz8, cz14, cz18, cz20, cz21, cz22, cz23]; intro hq8; exact absurd hq8 (by decide)) | (simp [bwV, inB, cz1, cz6, cz8, cz14, cz18, cz20, cz21, cz22, cz23]; done)), (hI.cI (congrArg bI (by first | (simp [bwR, cz1, cz6, cz8, cz14, cz18, cz20, cz21, cz22, cz23]; done) | (simp [bwR, cz1, cz6, cz8, cz14, cz18, cz20, cz21, cz22, cz23]; intro hq8; exact absurd hq8 (by decide)) | (simp [bwR, inB, cz1, cz6, cz8, cz14, cz18, cz20, cz21, cz22, cz23]; done)))).cD (congrArg bI (by first | (simp [bwD, cz1, cz6, cz8, cz14, cz18, cz20, cz21, cz22, cz23]; done) | (simp [bwD, cz1, cz6, cz8, cz14, cz18, cz20, cz21, cz22, cz23]; intro hq8; exact absurd hq8 (by decide)) | (simp [bwD, inB, cz1, cz6, cz8, cz14, cz18, cz20, cz21, cz22, cz23]; done)))⟩) dX6_behindWord_273
      refine lv_iconst (v := (nI 2)) hx hb dX6_behindWord_250 (by decide +kernel) ?_
      refine lv_goto (tgt := 273) hx hb dX6_behindWord_251 (by decide) ?_
      exact mm_iret hx hb hlocks hr (Nat.le_of_ble_eq_true rfl) (Nat.le_of_ble_eq_true rfl) hM (⟨congrArg (fun z => some (Value.int z)) (by first | (simp [bwV, cz1, cz6, cz8, cz14, cz18, cz20, cz21]; done) | (simp [bwV, cz1, cz6, cz8, cz14, cz18, cz20, cz21]; intro hq8; exact absurd hq8 (by decide)) | (simp [bwV, inB, cz1, cz6, cz8, cz14, cz18, cz20, cz21]; done)), (hI.cI (congrArg bI (by first | (simp [bwR, cz1, cz6, cz8, cz14, cz18, cz20, cz21]; done) | (simp [bwR, cz1, cz6, cz8, cz14, cz18, cz20, cz21]; intro hq8; exact absurd hq8 (by decide)) | (simp [bwR, inB, cz1, cz6, cz8, cz14, cz18, cz20, cz21]; done)))).cD (congrArg bI (by first | (simp [bwD, cz1, cz6, cz8, cz14, cz18, cz20, cz21]; done) | (simp [bwD, cz1, cz6, cz8, cz14, cz18, cz20, cz21]; intro hq8; exact absurd hq8 (by decide)) | (simp [bwD, inB, cz1, cz6, cz8, cz14, cz18, cz20, cz21]; done)))⟩) dX6_behindWord_273
    by_cases cz24 : p = 7
    · refine lv_tableIn (tgt := 274) hx hb dX6_behindWord_48 (by rw [nI_toInt (by omega)]; omega) (by rw [nI_toInt (by omega)]; omega) (by rw [cz24]; rfl) (by decide) ?_
      refine lv_iload hx hb dX6_behindWord_274 (lv_at hl 0 rfl) ?_
      refine lvb_eq (tgt := 284) hx hb dX6_behindWord_276 (by decide) (fun cz25 => ?_) (fun cz25 => ?_)
      · refine lv_ldc (v := (-100005)) hx hb hown (hts (.constant RX6 28 (-100005)) (List.mem_of_getElem? (i := 2) rfl)) dX6_behindWord_284 ?_
        exact mm_iret hx hb hlocks hr (Nat.le_of_ble_eq_true rfl) (Nat.le_of_ble_eq_true rfl) hM (⟨congrArg (fun z => some (Value.int z)) (by first | (simp [bwV, cz1, cz6, cz8, cz14, cz18, cz20, cz24, cz25]; done) | (simp [bwV, cz1, cz6, cz8, cz14, cz18, cz20, cz24, cz25]; intro hq8; exact absurd hq8 (by decide)) | (simp [bwV, inB, cz1, cz6, cz8, cz14, cz18, cz20, cz24, cz25]; done)), (hI.cI (congrArg bI (by first | (simp [bwR, cz1, cz6, cz8, cz14, cz18, cz20, cz24, cz25]; done) | (simp [bwR, cz1, cz6, cz8, cz14, cz18, cz20, cz24, cz25]; intro hq8; exact absurd hq8 (by decide)) | (simp [bwR, inB, cz1, cz6, cz8, cz14, cz18, cz20, cz24, cz25]; done)))).cD (congrArg bI (by first | (simp [bwD, cz1, cz6, cz8, cz14, cz18, cz20, cz24, cz25]; done) | (simp [bwD, cz1, cz6, cz8, cz14, cz18, cz20, cz24, cz25]; intro hq8; exact absurd hq8 (by decide)) | (simp [bwD, inB, cz1, cz6, cz8, cz14, cz18, cz20, cz24, cz25]; done)))⟩) dX6_behindWord_286
      refine lv_bipush (v := (nI 8)) hx hb dX6_behindWord_279 (by decide +kernel) ?_
      refine lv_goto (tgt := 286) hx hb dX6_behindWord_281 (by decide) ?_
      exact mm_iret hx hb hlocks hr (Nat.le_of_ble_eq_true rfl) (Nat.le_of_ble_eq_true rfl) hM (⟨congrArg (fun z => some (Value.int z)) (by first | (simp [bwV, cz1, cz6, cz8, cz14, cz18, cz20, cz24, cz25]; done) | (simp [bwV, cz1, cz6, cz8, cz14, cz18, cz20, cz24, cz25]; intro hq8; exact absurd hq8 (by decide)) | (simp [bwV, inB, cz1, cz6, cz8, cz14, cz18, cz20, cz24, cz25]; done)), (hI.cI (congrArg bI (by first | (simp [bwR, cz1, cz6, cz8, cz14, cz18, cz20, cz24, cz25]; done) | (simp [bwR, cz1, cz6, cz8, cz14, cz18, cz20, cz24, cz25]; intro hq8; exact absurd hq8 (by decide)) | (simp [bwR, inB, cz1, cz6, cz8, cz14, cz18, cz20, cz24, cz25]; done)))).cD (congrArg bI (by first | (simp [bwD, cz1, cz6, cz8, cz14, cz18, cz20, cz24, cz25]; done) | (simp [bwD, cz1, cz6, cz8, cz14, cz18, cz20, cz24, cz25]; intro hq8; exact absurd hq8 (by decide)) | (simp [bwD, inB, cz1, cz6, cz8, cz14, cz18, cz20, cz24, cz25]; done)))⟩) dX6_behindWord_286
    by_cases cz26 : p = 8
    · refine lv_tableIn (tgt := 287) hx hb dX6_behindWord_48 (by rw [nI_toInt (by omega)]; omega) (by rw [nI_toInt (by omega)]; omega) (by rw [cz26]; rfl) (by decide) ?_
      refine lv_iload_n hx hb dX6_behindWord_287 rfl (lv_at hl 5 rfl) ?_
      refine lv_iconst (v := (nI 4)) hx hb dX6_behindWord_288 (by decide +kernel) ?_
      refine lv_icmp_ne (tgt := 297) hx hb dX6_behindWord_289 (by decide) (fun cz27 => ?_) (fun cz27 => ?_)
      · refine lv_ldc (v := (-100005)) hx hb hown (hts (.constant RX6 28 (-100005)) (List.mem_of_getElem? (i := 2) rfl)) dX6_behindWord_297 ?_
        exact mm_iret hx hb hlocks hr (Nat.le_of_ble_eq_true rfl) (Nat.le_of_ble_eq_true rfl) hM (⟨congrArg (fun z => some (Value.int z)) (by first | (simp [bwV, cz1, cz6, cz8, cz14, cz18, cz20, cz24, cz26, cz27]; done) | (simp [bwV, cz1, cz6, cz8, cz14, cz18, cz20, cz24, cz26, cz27]; intro hq8; exact absurd hq8 (by decide)) | (simp [bwV, inB, cz1, cz6, cz8, cz14, cz18, cz20, cz24, cz26, cz27]; done)), (hI.cI (congrArg bI (by first | (simp [bwR, cz1, cz6, cz8, cz14, cz18, cz20, cz24, cz26, cz27]; done) | (simp [bwR, cz1, cz6, cz8, cz14, cz18, cz20, cz24, cz26, cz27]; intro hq8; exact absurd hq8 (by decide)) | (simp [bwR, inB, cz1, cz6, cz8, cz14, cz18, cz20, cz24, cz26, cz27]; done)))).cD (congrArg bI (by first | (simp [bwD, cz1, cz6, cz8, cz14, cz18, cz20, cz24, cz26, cz27]; done) | (simp [bwD, cz1, cz6, cz8, cz14, cz18, cz20, cz24, cz26, cz27]; intro hq8; exact absurd hq8 (by decide)) | (simp [bwD, inB, cz1, cz6, cz8, cz14, cz18, cz20, cz24, cz26, cz27]; done)))⟩) dX6_behindWord_299
      refine lv_bipush (v := (nI 9)) hx hb dX6_behindWord_292 (by decide +kernel) ?_
      refine lv_goto (tgt := 299) hx hb dX6_behindWord_294 (by decide) ?_
      exact mm_iret hx hb hlocks hr (Nat.le_of_ble_eq_true rfl) (Nat.le_of_ble_eq_true rfl) hM (⟨congrArg (fun z => some (Value.int z)) (by first | (simp [bwV, cz1, cz6, cz8, cz14, cz18, cz20, cz24, cz26, cz27]; done) | (simp [bwV, cz1, cz6, cz8, cz14, cz18, cz20, cz24, cz26, cz27]; intro hq8; exact absurd hq8 (by decide)) | (simp [bwV, inB, cz1, cz6, cz8, cz14, cz18, cz20, cz24, cz26, cz27]; done)), (hI.cI (congrArg bI (by first | (simp [bwR, cz1, cz6, cz8, cz14, cz18, cz20, cz24, cz26, cz27]; done) | (simp [bwR, cz1, cz6, cz8, cz14, cz18, cz20, cz24, cz26, cz27]; intro hq8; exact absurd hq8 (by decide)) | (simp [bwR, inB, cz1, cz6, cz8, cz14, cz18, cz20, cz24, cz26, cz27]; done)))).cD (congrArg bI (by first | (simp [bwD, cz1, cz6, cz8, cz14, cz18, cz20, cz24, cz26, cz27]; done) | (simp [bwD, cz1, cz6, cz8, cz14, cz18, cz20, cz24, cz26, cz27]; intro hq8; exact absurd hq8 (by decide)) | (simp [bwD, inB, cz1, cz6, cz8, cz14, cz18, cz20, cz24, cz26, cz27]; done)))⟩) dX6_behindWord_299
    by_cases cz28 : p = 10
    · refine lv_tableIn (tgt := 300) hx hb dX6_behindWord_48 (by rw [nI_toInt (by omega)]; omega) (by rw [nI_toInt (by omega)]; omega) (by rw [cz28]; rfl) (by decide) ?_
      refine lv_iload_n hx hb dX6_behindWord_300 rfl (lv_at hl 5 rfl) ?_
      refine lv_bipush (v := (nI 8)) hx hb dX6_behindWord_301 (by decide +kernel) ?_
      refine lv_icmp_ne (tgt := 311) hx hb dX6_behindWord_303 (by decide) (fun cz29 => ?_) (fun cz29 => ?_)
      · refine lv_iload_n hx hb dX6_behindWord_311 rfl (lv_at hl 5 rfl) ?_
        refine lv_bipush (v := (nI 9)) hx hb dX6_behindWord_312 (by decide +kernel) ?_
        refine lv_icmp_ne (tgt := 322) hx hb dX6_behindWord_314 (by decide) (fun cz30 => ?_) (fun cz30 => ?_)
        · refine lv_ldc (v := (-100005)) hx hb hown (hts (.constant RX6 28 (-100005)) (List.mem_of_getElem? (i := 2) rfl)) dX6_behindWord_322 ?_
          exact mm_iret hx hb hlocks hr (Nat.le_of_ble_eq_true rfl) (Nat.le_of_ble_eq_true rfl) hM (⟨congrArg (fun z => some (Value.int z)) (by first | (simp [bwV, cz1, cz6, cz8, cz14, cz18, cz20, cz24, cz26, cz28, cz29, cz30]; done) | (simp [bwV, cz1, cz6, cz8, cz14, cz18, cz20, cz24, cz26, cz28, cz29, cz30]; intro hq8; exact absurd hq8 (by decide)) | (simp [bwV, inB, cz1, cz6, cz8, cz14, cz18, cz20, cz24, cz26, cz28, cz29, cz30]; done)), (hI.cI (congrArg bI (by first | (simp [bwR, cz1, cz6, cz8, cz14, cz18, cz20, cz24, cz26, cz28, cz29, cz30]; done) | (simp [bwR, cz1, cz6, cz8, cz14, cz18, cz20, cz24, cz26, cz28, cz29, cz30]; intro hq8; exact absurd hq8 (by decide)) | (simp [bwR, inB, cz1, cz6, cz8, cz14, cz18, cz20, cz24, cz26, cz28, cz29, cz30]; done)))).cD (congrArg bI (by first | (simp [bwD, cz1, cz6, cz8, cz14, cz18, cz20, cz24, cz26, cz28, cz29, cz30]; done) | (simp [bwD, cz1, cz6, cz8, cz14, cz18, cz20, cz24, cz26, cz28, cz29, cz30]; intro hq8; exact absurd hq8 (by decide)) | (simp [bwD, inB, cz1, cz6, cz8, cz14, cz18, cz20, cz24, cz26, cz28, cz29, cz30]; done)))⟩) dX6_behindWord_324
        refine lv_bipush (v := (nI 13)) hx hb dX6_behindWord_317 (by decide +kernel) ?_
        refine lv_goto (tgt := 324) hx hb dX6_behindWord_319 (by decide) ?_
        exact mm_iret hx hb hlocks hr (Nat.le_of_ble_eq_true rfl) (Nat.le_of_ble_eq_true rfl) hM (⟨congrArg (fun z => some (Value.int z)) (by first | (simp [bwV, cz1, cz6, cz8, cz14, cz18, cz20, cz24, cz26, cz28, cz29, cz30]; done) | (simp [bwV, cz1, cz6, cz8, cz14, cz18, cz20, cz24, cz26, cz28, cz29, cz30]; intro hq8; exact absurd hq8 (by decide)) | (simp [bwV, inB, cz1, cz6, cz8, cz14, cz18, cz20, cz24, cz26, cz28, cz29, cz30]; done)), (hI.cI (congrArg bI (by first | (simp [bwR, cz1, cz6, cz8, cz14, cz18, cz20, cz24, cz26, cz28, cz29, cz30]; done) | (simp [bwR, cz1, cz6, cz8, cz14, cz18, cz20, cz24, cz26, cz28, cz29, cz30]; intro hq8; exact absurd hq8 (by decide)) | (simp [bwR, inB, cz1, cz6, cz8, cz14, cz18, cz20, cz24, cz26, cz28, cz29, cz30]; done)))).cD (congrArg bI (by first | (simp [bwD, cz1, cz6, cz8, cz14, cz18, cz20, cz24, cz26, cz28, cz29, cz30]; done) | (simp [bwD, cz1, cz6, cz8, cz14, cz18, cz20, cz24, cz26, cz28, cz29, cz30]; intro hq8; exact absurd hq8 (by decide)) | (simp [bwD, inB, cz1, cz6, cz8, cz14, cz18, cz20, cz24, cz26, cz28, cz29, cz30]; done)))⟩) dX6_behindWord_324
      refine lv_bipush (v := (nI 11)) hx hb dX6_behindWord_306 (by decide +kernel) ?_
      refine lv_goto (tgt := 324) hx hb dX6_behindWord_308 (by decide) ?_
      exact mm_iret hx hb hlocks hr (Nat.le_of_ble_eq_true rfl) (Nat.le_of_ble_eq_true rfl) hM (⟨congrArg (fun z => some (Value.int z)) (by first | (simp [bwV, cz1, cz6, cz8, cz14, cz18, cz20, cz24, cz26, cz28, cz29]; done) | (simp [bwV, cz1, cz6, cz8, cz14, cz18, cz20, cz24, cz26, cz28, cz29]; intro hq8; exact absurd hq8 (by decide)) | (simp [bwV, inB, cz1, cz6, cz8, cz14, cz18, cz20, cz24, cz26, cz28, cz29]; done)), (hI.cI (congrArg bI (by first | (simp [bwR, cz1, cz6, cz8, cz14, cz18, cz20, cz24, cz26, cz28, cz29]; done) | (simp [bwR, cz1, cz6, cz8, cz14, cz18, cz20, cz24, cz26, cz28, cz29]; intro hq8; exact absurd hq8 (by decide)) | (simp [bwR, inB, cz1, cz6, cz8, cz14, cz18, cz20, cz24, cz26, cz28, cz29]; done)))).cD (congrArg bI (by first | (simp [bwD, cz1, cz6, cz8, cz14, cz18, cz20, cz24, cz26, cz28, cz29]; done) | (simp [bwD, cz1, cz6, cz8, cz14, cz18, cz20, cz24, cz26, cz28, cz29]; intro hq8; exact absurd hq8 (by decide)) | (simp [bwD, inB, cz1, cz6, cz8, cz14, cz18, cz20, cz24, cz26, cz28, cz29]; done)))⟩) dX6_behindWord_324
    by_cases cz31 : p = 12
    · refine lv_tableIn (tgt := 325) hx hb dX6_behindWord_48 (by rw [nI_toInt (by omega)]; omega) (by rw [nI_toInt (by omega)]; omega) (by rw [cz31]; rfl) (by decide) ?_
      refine lv_iload_n hx hb dX6_behindWord_325 rfl (lv_at hl 5 rfl) ?_
      refine lv_bipush (v := (nI 9)) hx hb dX6_behindWord_326 (by decide +kernel) ?_
      refine lv_icmp_ne (tgt := 336) hx hb dX6_behindWord_328 (by decide) (fun cz32 => ?_) (fun cz32 => ?_)
      · refine lv_ldc (v := (-100005)) hx hb hown (hts (.constant RX6 28 (-100005)) (List.mem_of_getElem? (i := 2) rfl)) dX6_behindWord_336 ?_
        exact mm_iret hx hb hlocks hr (Nat.le_of_ble_eq_true rfl) (Nat.le_of_ble_eq_true rfl) hM (⟨congrArg (fun z => some (Value.int z)) (by first | (simp [bwV, cz1, cz6, cz8, cz14, cz18, cz20, cz24, cz26, cz28, cz31, cz32]; done) | (simp [bwV, cz1, cz6, cz8, cz14, cz18, cz20, cz24, cz26, cz28, cz31, cz32]; intro hq8; exact absurd hq8 (by decide)) | (simp [bwV, inB, cz1, cz6, cz8, cz14, cz18, cz20, cz24, cz26, cz28, cz31, cz32]; done)), (hI.cI (congrArg bI (by first | (simp [bwR, cz1, cz6, cz8, cz14, cz18, cz20, cz24, cz26, cz28, cz31, cz32]; done) | (simp [bwR, cz1, cz6, cz8, cz14, cz18, cz20, cz24, cz26, cz28, cz31, cz32]; intro hq8; exact absurd hq8 (by decide)) | (simp [bwR, inB, cz1, cz6, cz8, cz14, cz18, cz20, cz24, cz26, cz28, cz31, cz32]; done)))).cD (congrArg bI (by first | (simp [bwD, cz1, cz6, cz8, cz14, cz18, cz20, cz24, cz26, cz28, cz31, cz32]; done) | (simp [bwD, cz1, cz6, cz8, cz14, cz18, cz20, cz24, cz26, cz28, cz31, cz32]; intro hq8; exact absurd hq8 (by decide)) | (simp [bwD, inB, cz1, cz6, cz8, cz14, cz18, cz20, cz24, cz26, cz28, cz31, cz32]; done)))⟩) dX6_behindWord_338
      refine lv_bipush (v := (nI 13)) hx hb dX6_behindWord_331 (by decide +kernel) ?_
      refine lv_goto (tgt := 338) hx hb dX6_behindWord_333 (by decide) ?_
      exact mm_iret hx hb hlocks hr (Nat.le_of_ble_eq_true rfl) (Nat.le_of_ble_eq_true rfl) hM (⟨congrArg (fun z => some (Value.int z)) (by first | (simp [bwV, cz1, cz6, cz8, cz14, cz18, cz20, cz24, cz26, cz28, cz31, cz32]; done) | (simp [bwV, cz1, cz6, cz8, cz14, cz18, cz20, cz24, cz26, cz28, cz31, cz32]; intro hq8; exact absurd hq8 (by decide)) | (simp [bwV, inB, cz1, cz6, cz8, cz14, cz18, cz20, cz24, cz26, cz28, cz31, cz32]; done)), (hI.cI (congrArg bI (by first | (simp [bwR, cz1, cz6, cz8, cz14, cz18, cz20, cz24, cz26, cz28, cz31, cz32]; done) | (simp [bwR, cz1, cz6, cz8, cz14, cz18, cz20, cz24, cz26, cz28, cz31, cz32]; intro hq8; exact absurd hq8 (by decide)) | (simp [bwR, inB, cz1, cz6, cz8, cz14, cz18, cz20, cz24, cz26, cz28, cz31, cz32]; done)))).cD (congrArg bI (by first | (simp [bwD, cz1, cz6, cz8, cz14, cz18, cz20, cz24, cz26, cz28, cz31, cz32]; done) | (simp [bwD, cz1, cz6, cz8, cz14, cz18, cz20, cz24, cz26, cz28, cz31, cz32]; intro hq8; exact absurd hq8 (by decide)) | (simp [bwD, inB, cz1, cz6, cz8, cz14, cz18, cz20, cz24, cz26, cz28, cz31, cz32]; done)))⟩) dX6_behindWord_338
    by_cases cz33 : p = 5
    · refine lv_tableIn (tgt := 339) hx hb dX6_behindWord_48 (by rw [nI_toInt (by omega)]; omega) (by rw [nI_toInt (by omega)]; omega) (by rw [cz33]; rfl) (by decide) ?_
      refine lv_ldc (v := (-100005)) hx hb hown (hts (.constant RX6 28 (-100005)) (List.mem_of_getElem? (i := 2) rfl)) dX6_behindWord_339 ?_
      exact mm_iret hx hb hlocks hr (Nat.le_of_ble_eq_true rfl) (Nat.le_of_ble_eq_true rfl) hM (⟨congrArg (fun z => some (Value.int z)) (by first | (simp [bwV, cz1, cz6, cz8, cz14, cz18, cz20, cz24, cz26, cz28, cz31, cz33]; done) | (simp [bwV, cz1, cz6, cz8, cz14, cz18, cz20, cz24, cz26, cz28, cz31, cz33]; intro hq8; exact absurd hq8 (by decide)) | (simp [bwV, inB, cz1, cz6, cz8, cz14, cz18, cz20, cz24, cz26, cz28, cz31, cz33]; done)), (hI.cI (congrArg bI (by first | (simp [bwR, cz1, cz6, cz8, cz14, cz18, cz20, cz24, cz26, cz28, cz31, cz33]; done) | (simp [bwR, cz1, cz6, cz8, cz14, cz18, cz20, cz24, cz26, cz28, cz31, cz33]; intro hq8; exact absurd hq8 (by decide)) | (simp [bwR, inB, cz1, cz6, cz8, cz14, cz18, cz20, cz24, cz26, cz28, cz31, cz33]; done)))).cD (congrArg bI (by first | (simp [bwD, cz1, cz6, cz8, cz14, cz18, cz20, cz24, cz26, cz28, cz31, cz33]; done) | (simp [bwD, cz1, cz6, cz8, cz14, cz18, cz20, cz24, cz26, cz28, cz31, cz33]; intro hq8; exact absurd hq8 (by decide)) | (simp [bwD, inB, cz1, cz6, cz8, cz14, cz18, cz20, cz24, cz26, cz28, cz31, cz33]; done)))⟩) dX6_behindWord_341
    by_cases cz34 : p = 9
    · refine lv_tableIn (tgt := 339) hx hb dX6_behindWord_48 (by rw [nI_toInt (by omega)]; omega) (by rw [nI_toInt (by omega)]; omega) (by rw [cz34]; rfl) (by decide) ?_
      refine lv_ldc (v := (-100005)) hx hb hown (hts (.constant RX6 28 (-100005)) (List.mem_of_getElem? (i := 2) rfl)) dX6_behindWord_339 ?_
      exact mm_iret hx hb hlocks hr (Nat.le_of_ble_eq_true rfl) (Nat.le_of_ble_eq_true rfl) hM (⟨congrArg (fun z => some (Value.int z)) (by first | (simp [bwV, cz1, cz6, cz8, cz14, cz18, cz20, cz24, cz26, cz28, cz31, cz33, cz34]; done) | (simp [bwV, cz1, cz6, cz8, cz14, cz18, cz20, cz24, cz26, cz28, cz31, cz33, cz34]; intro hq8; exact absurd hq8 (by decide)) | (simp [bwV, inB, cz1, cz6, cz8, cz14, cz18, cz20, cz24, cz26, cz28, cz31, cz33, cz34]; done)), (hI.cI (congrArg bI (by first | (simp [bwR, cz1, cz6, cz8, cz14, cz18, cz20, cz24, cz26, cz28, cz31, cz33, cz34]; done) | (simp [bwR, cz1, cz6, cz8, cz14, cz18, cz20, cz24, cz26, cz28, cz31, cz33, cz34]; intro hq8; exact absurd hq8 (by decide)) | (simp [bwR, inB, cz1, cz6, cz8, cz14, cz18, cz20, cz24, cz26, cz28, cz31, cz33, cz34]; done)))).cD (congrArg bI (by first | (simp [bwD, cz1, cz6, cz8, cz14, cz18, cz20, cz24, cz26, cz28, cz31, cz33, cz34]; done) | (simp [bwD, cz1, cz6, cz8, cz14, cz18, cz20, cz24, cz26, cz28, cz31, cz33, cz34]; intro hq8; exact absurd hq8 (by decide)) | (simp [bwD, inB, cz1, cz6, cz8, cz14, cz18, cz20, cz24, cz26, cz28, cz31, cz33, cz34]; done)))⟩) dX6_behindWord_341
    by_cases cz35 : p = 11
    · refine lv_tableIn (tgt := 339) hx hb dX6_behindWord_48 (by rw [nI_toInt (by omega)]; omega) (by rw [nI_toInt (by omega)]; omega) (by rw [cz35]; rfl) (by decide) ?_
      refine lv_ldc (v := (-100005)) hx hb hown (hts (.constant RX6 28 (-100005)) (List.mem_of_getElem? (i := 2) rfl)) dX6_behindWord_339 ?_
      exact mm_iret hx hb hlocks hr (Nat.le_of_ble_eq_true rfl) (Nat.le_of_ble_eq_true rfl) hM (⟨congrArg (fun z => some (Value.int z)) (by first | (simp [bwV, cz1, cz6, cz8, cz14, cz18, cz20, cz24, cz26, cz28, cz31, cz33, cz34, cz35]; done) | (simp [bwV, cz1, cz6, cz8, cz14, cz18, cz20, cz24, cz26, cz28, cz31, cz33, cz34, cz35]; intro hq8; exact absurd hq8 (by decide)) | (simp [bwV, inB, cz1, cz6, cz8, cz14, cz18, cz20, cz24, cz26, cz28, cz31, cz33, cz34, cz35]; done)), (hI.cI (congrArg bI (by first | (simp [bwR, cz1, cz6, cz8, cz14, cz18, cz20, cz24, cz26, cz28, cz31, cz33, cz34, cz35]; done) | (simp [bwR, cz1, cz6, cz8, cz14, cz18, cz20, cz24, cz26, cz28, cz31, cz33, cz34, cz35]; intro hq8; exact absurd hq8 (by decide)) | (simp [bwR, inB, cz1, cz6, cz8, cz14, cz18, cz20, cz24, cz26, cz28, cz31, cz33, cz34, cz35]; done)))).cD (congrArg bI (by first | (simp [bwD, cz1, cz6, cz8, cz14, cz18, cz20, cz24, cz26, cz28, cz31, cz33, cz34, cz35]; done) | (simp [bwD, cz1, cz6, cz8, cz14, cz18, cz20, cz24, cz26, cz28, cz31, cz33, cz34, cz35]; intro hq8; exact absurd hq8 (by decide)) | (simp [bwD, inB, cz1, cz6, cz8, cz14, cz18, cz20, cz24, cz26, cz28, cz31, cz33, cz34, cz35]; done)))⟩) dX6_behindWord_341
    refine lv_tableOut (tgt := 339) hx hb dX6_behindWord_48 (by rw [nI_toInt (by omega)]; omega) (by decide) ?_
    refine lv_ldc (v := (-100005)) hx hb hown (hts (.constant RX6 28 (-100005)) (List.mem_of_getElem? (i := 2) rfl)) dX6_behindWord_339 ?_
    exact mm_iret hx hb hlocks hr (Nat.le_of_ble_eq_true rfl) (Nat.le_of_ble_eq_true rfl) hM (⟨congrArg (fun z => some (Value.int z)) (by first | (simp [bwV, cz1, cz6, cz8, cz14, cz18, cz20, cz24, cz26, cz28, cz31, cz33, cz34, cz35]; done) | (simp [bwV, cz1, cz6, cz8, cz14, cz18, cz20, cz24, cz26, cz28, cz31, cz33, cz34, cz35]; intro hq8; exact absurd hq8 (by decide)) | (simp [bwV, inB, cz1, cz6, cz8, cz14, cz18, cz20, cz24, cz26, cz28, cz31, cz33, cz34, cz35]; done)), (hI.cI (congrArg bI (by first | (simp [bwR, cz1, cz6, cz8, cz14, cz18, cz20, cz24, cz26, cz28, cz31, cz33, cz34, cz35]; done) | (simp [bwR, cz1, cz6, cz8, cz14, cz18, cz20, cz24, cz26, cz28, cz31, cz33, cz34, cz35]; intro hq8; exact absurd hq8 (by decide)) | (simp [bwR, inB, cz1, cz6, cz8, cz14, cz18, cz20, cz24, cz26, cz28, cz31, cz33, cz34, cz35]; done)))).cD (congrArg bI (by first | (simp [bwD, cz1, cz6, cz8, cz14, cz18, cz20, cz24, cz26, cz28, cz31, cz33, cz34, cz35]; done) | (simp [bwD, cz1, cz6, cz8, cz14, cz18, cz20, cz24, cz26, cz28, cz31, cz33, cz34, cz35]; intro hq8; exact absurd hq8 (by decide)) | (simp [bwD, inB, cz1, cz6, cz8, cz14, cz18, cz20, cz24, cz26, cz28, cz31, cz33, cz34, cz35]; done)))⟩) dX6_behindWord_341
  refine lv_iload_n hx hb dX6_behindWord_29 rfl (lv_at hl 5 rfl) ?_
  refine lv_iconst (v := (nI 5)) hx hb dX6_behindWord_30 (by decide +kernel) ?_
  refine lv_icmp_eq (tgt := 40) hx hb dX6_behindWord_31 (by decide) (fun cz36 => ?_) (fun cz36 => ?_)
  · refine lv_iconst (v := (nI 1)) hx hb dX6_behindWord_40 (by decide +kernel) ?_
    refine lv_goto (tgt := 45) hx hb dX6_behindWord_41 (by decide) ?_
    refine lv_istore (lv' := [(6, .int (nI 1)), (5, .int (bI (inB x 22 25))), (4, .int (bI (inB x 10 15))), (3, .int (bI (inB x 16 21))), (0, .ref o), (1, .int (nI p)), (2, .int x)]) hx hb dX6_behindWord_45 hl (by decide) rfl (fun ls hl => ?_)
    exact joinZ _ ls (bIt (by simp [bndB, cz36])) (lv_sub hl [1, 2, 3, 4, 5, 6, 0] rfl)
  refine lv_iload_n hx hb dX6_behindWord_34 rfl (lv_at hl 5 rfl) ?_
  refine lv_bipush (v := (nI 6)) hx hb dX6_behindWord_35 (by decide +kernel) ?_
  refine lv_icmp_ne (tgt := 44) hx hb dX6_behindWord_37 (by decide) (fun cz37 => ?_) (fun cz37 => ?_)
  · refine lv_iconst (v := (nI 0)) hx hb dX6_behindWord_44 (by decide +kernel) ?_
    refine lv_istore (lv' := [(6, .int (nI 0)), (5, .int (bI (inB x 22 25))), (4, .int (bI (inB x 10 15))), (3, .int (bI (inB x 16 21))), (0, .ref o), (1, .int (nI p)), (2, .int x)]) hx hb dX6_behindWord_45 hl (by decide) rfl (fun ls hl => ?_)
    exact joinZ _ ls (bIf (by simp [bndB, cz36, cz37])) (lv_sub hl [1, 2, 3, 4, 5, 6, 0] rfl)
  refine lv_iconst (v := (nI 1)) hx hb dX6_behindWord_40 (by decide +kernel) ?_
  refine lv_goto (tgt := 45) hx hb dX6_behindWord_41 (by decide) ?_
  refine lv_istore (lv' := [(6, .int (nI 1)), (5, .int (bI (inB x 22 25))), (4, .int (bI (inB x 10 15))), (3, .int (bI (inB x 16 21))), (0, .ref o), (1, .int (nI p)), (2, .int x)]) hx hb dX6_behindWord_45 hl (by decide) rfl (fun ls hl => ?_)
  exact joinZ _ ls (bIt (by simp [bndB, cz36, cz37])) (lv_sub hl [1, 2, 3, 4, 5, 6, 0] rfl)
set_option maxHeartbeats 4000000 in
set_option maxRecDepth 100000 in
theorem c6_behind (l : Launch) (G : mG) {f : mE} {ir wt : Bool} {o : Nat} {a : Nat → Nat} {S P lo hi ou : Nat → Int32} {rc us ab gi wr wo : Int32} (hI : RI G f o a S P lo hi ou rc (bI ir) (bI wt) us ab gi wr wo) (p : Nat) (hp14 : p ≤ 14) (k : Nat) (hk : k < 24) : mC l G yX6_behind wsX6_behind ({ frames := 2, cells := 0, slots := 0, locals := 48 } : Room) f [.ref o, .int (nI p), .int (nI k)] (fun v f1 => v = some (.int (behV ir wt p (S (7 + 1 + k)) (S (7 + 25 + k)))) ∧ RI G f1 o a S P lo hi ou rc (bI (behR ir p (S (7 + 1 + k)) (S (7 + 25 + k)))) (bI (behD wt p (S (7 + 1 + k)) (S (7 + 25 + k)))) us ab gi wr wo) 0 0 := by
  refine mC.of (cc := cX6_behind) (maxL := 3) (ret := (some .int)) (by decide) rfl (Nat.le_of_ble_eq_true rfl) ?_
  intro pgm env s mt args below meth c A ls hx hb hml hr hlocks hown hname hts hK hE hA hM hl
  have hl : lv_has ls 3 [(0, .ref o), (1, .int (nI p)), (2, .int (nI k))] := hl
  refine lv_aload_n hx hb dX6_behind_0 rfl (lv_at hl 0 rfl) ?_
  refine lv_iload_n hx hb dX6_behind_1 rfl (lv_at hl 2 rfl) ?_
  refine mm_V (As := [.int (nI k)]) (rest := []) ⟨hx, hb, hml, hown, hts⟩ (c6_kindAt l G hI k (by omega)) (cwV 1 hts gX6_behind_X6_kindAt rfl rfl rfl (by decide +kernel) ⟨Nat.le_of_ble_eq_true rfl, Nat.le_of_ble_eq_true rfl⟩) hK hE hA hM (mm_recv hK hM (hI.obj) (q := (RX6, TX6, 14)) rfl) rfl hl.1 rfl (Nat.le_of_ble_eq_true rfl) dX6_behind_2 ⟨Nat.le_of_ble_eq_true rfl, Nat.le_of_ble_eq_true rfl⟩ (fun v f1 Hp lcs hp hM => ?_)
  obtain ⟨rfl, hf⟩ := hp; subst hf
  refine lv_if_ne (tgt := 19) hx hb dX6_behind_5 (by decide) (fun cz1 => ?_) (fun cz1 => ?_)
  · refine lv_aload_n hx hb dX6_behind_19 rfl (lv_at hl 0 rfl) ?_
    refine lv_iload_n hx hb dX6_behind_20 rfl (lv_at hl 2 rfl) ?_
    refine mm_V (As := [.int (nI k)]) (rest := []) ⟨hx, hb, hml, hown, hts⟩ (c6_kindAt l G hI k (by omega)) (cwV 1 hts gX6_behind_X6_kindAt rfl rfl rfl (by decide +kernel) ⟨Nat.le_of_ble_eq_true rfl, Nat.le_of_ble_eq_true rfl⟩) hK hE hA hM (mm_recv hK hM (hI.obj) (q := (RX6, TX6, 14)) rfl) rfl hl.1 rfl (Nat.le_of_ble_eq_true rfl) dX6_behind_21 ⟨Nat.le_of_ble_eq_true rfl, Nat.le_of_ble_eq_true rfl⟩ (fun v f1 Hp lcs hp hM => ?_)
    obtain ⟨rfl, hf⟩ := hp; subst hf
    refine lv_iconst (v := (nI 1)) hx hb dX6_behind_24 (by decide +kernel) ?_
    refine lv_icmp_ne (tgt := 59) hx hb dX6_behind_25 (by decide) (fun cz2 => ?_) (fun cz2 => ?_)
    · refine lv_iload_n hx hb dX6_behind_59 rfl (lv_at hl 1 rfl) ?_
      refine lv_iconst (v := (nI 5)) hx hb dX6_behind_60 (by decide +kernel) ?_
      refine ln_icmp_ne p 5 (by omega) (by omega) (tgt := 76) hx hb dX6_behind_61 (by decide) (fun cz3 => ?_) (fun cz3 => ?_)
      · refine lv_iload_n hx hb dX6_behind_76 rfl (lv_at hl 1 rfl) ?_
        refine lv_bipush (v := (nI 11)) hx hb dX6_behind_77 (by decide +kernel) ?_
        refine ln_icmp_ne p 11 (by omega) (by omega) (tgt := 87) hx hb dX6_behind_79 (by decide) (fun cz4 => ?_) (fun cz4 => ?_)
        · refine lv_iload_n hx hb dX6_behind_87 rfl (lv_at hl 1 rfl) ?_
          refine lv_bipush (v := (nI 13)) hx hb dX6_behind_88 (by decide +kernel) ?_
          refine ln_icmp_ne p 13 (by omega) (by omega) (tgt := 98) hx hb dX6_behind_90 (by decide) (fun cz5 => ?_) (fun cz5 => ?_)
          · refine lv_ldc (v := (-100005)) hx hb hown (hts (.constant RX6 28 (-100005)) (List.mem_of_getElem? (i := 2) rfl)) dX6_behind_98 ?_
            exact mm_iret hx hb hlocks hr (Nat.le_of_ble_eq_true rfl) (Nat.le_of_ble_eq_true rfl) hM (⟨congrArg (fun z => some (Value.int z)) (by first | (simp [behV, nI10, cz1, cz2, cz3, cz4, cz5]; done) | (exfalso; omega)), (hI.cI (by first | (simp [behR, nI10, cz1, cz2, cz3, cz4, cz5]; done) | (exfalso; omega))).cD (by first | (simp [behD, nI10, cz1, cz2, cz3, cz4, cz5]; done) | (exfalso; omega))⟩) dX6_behind_100
          refine lv_bipush (v := (nI 14)) hx hb dX6_behind_93 (by decide +kernel) ?_
          refine lv_goto (tgt := 100) hx hb dX6_behind_95 (by decide) ?_
          exact mm_iret hx hb hlocks hr (Nat.le_of_ble_eq_true rfl) (Nat.le_of_ble_eq_true rfl) hM (⟨congrArg (fun z => some (Value.int z)) (by first | (simp [behV, nI10, cz1, cz2, cz3, cz4, cz5]; done) | (exfalso; omega)), (hI.cI (by first | (simp [behR, nI10, cz1, cz2, cz3, cz4, cz5]; done) | (exfalso; omega))).cD (by first | (simp [behD, nI10, cz1, cz2, cz3, cz4, cz5]; done) | (exfalso; omega))⟩) dX6_behind_100
        refine lv_bipush (v := (nI 12)) hx hb dX6_behind_82 (by decide +kernel) ?_
        refine lv_goto (tgt := 100) hx hb dX6_behind_84 (by decide) ?_
        exact mm_iret hx hb hlocks hr (Nat.le_of_ble_eq_true rfl) (Nat.le_of_ble_eq_true rfl) hM (⟨congrArg (fun z => some (Value.int z)) (by first | (simp [behV, nI10, cz1, cz2, cz3, cz4]; done) | (exfalso; omega)), (hI.cI (by first | (simp [behR, nI10, cz1, cz2, cz3, cz4]; done) | (exfalso; omega))).cD (by first | (simp [behD, nI10, cz1, cz2, cz3, cz4]; done) | (exfalso; omega))⟩) dX6_behind_100
      refine lv_aload_n hx hb dX6_behind_64 rfl (lv_at hl 0 rfl) ?_
      refine mm_get (C := RX6) (T := TX6) (N := 14) (k := 5) hx hb hts (fun _ h => List.mem_cons_of_mem _ (List.mem_append_right _ h)) hown hK hM (hI.obj) rfl (by decide) (hts (.fieldLink RX6 78 "SentenceRulesModel" "wantsDate" "Z") (List.mem_of_getElem? (i := 1) rfl)) rfl rfl dX6_behind_65 ?_
      refine lvb_eq (tgt := 76) hx hb dX6_behind_68 (by decide) (fun cz6 => ?_) (fun cz6 => ?_)
      · refine lv_iload_n hx hb dX6_behind_76 rfl (lv_at hl 1 rfl) ?_
        refine lv_bipush (v := (nI 11)) hx hb dX6_behind_77 (by decide +kernel) ?_
        refine ln_icmp_ne p 11 (by omega) (by omega) (tgt := 87) hx hb dX6_behind_79 (by decide) (fun cz7 => ?_) (fun cz7 => ?_)
        · refine lv_iload_n hx hb dX6_behind_87 rfl (lv_at hl 1 rfl) ?_
          refine lv_bipush (v := (nI 13)) hx hb dX6_behind_88 (by decide +kernel) ?_
          refine ln_icmp_ne p 13 (by omega) (by omega) (tgt := 98) hx hb dX6_behind_90 (by decide) (fun cz8 => ?_) (fun cz8 => ?_)
          · refine lv_ldc (v := (-100005)) hx hb hown (hts (.constant RX6 28 (-100005)) (List.mem_of_getElem? (i := 2) rfl)) dX6_behind_98 ?_
            exact mm_iret hx hb hlocks hr (Nat.le_of_ble_eq_true rfl) (Nat.le_of_ble_eq_true rfl) hM (⟨congrArg (fun z => some (Value.int z)) (by first | (simp [behV, nI10, cz1, cz2, cz3, cz6, cz7, cz8]; done) | (exfalso; omega)), (hI.cI (by first | (simp [behR, nI10, cz1, cz2, cz3, cz6, cz7, cz8]; done) | (exfalso; omega))).cD (by first | (simp [behD, nI10, cz1, cz2, cz3, cz6, cz7, cz8]; done) | (exfalso; omega))⟩) dX6_behind_100
          refine lv_bipush (v := (nI 14)) hx hb dX6_behind_93 (by decide +kernel) ?_
          refine lv_goto (tgt := 100) hx hb dX6_behind_95 (by decide) ?_
          exact mm_iret hx hb hlocks hr (Nat.le_of_ble_eq_true rfl) (Nat.le_of_ble_eq_true rfl) hM (⟨congrArg (fun z => some (Value.int z)) (by first | (simp [behV, nI10, cz1, cz2, cz3, cz6, cz7, cz8]; done) | (exfalso; omega)), (hI.cI (by first | (simp [behR, nI10, cz1, cz2, cz3, cz6, cz7, cz8]; done) | (exfalso; omega))).cD (by first | (simp [behD, nI10, cz1, cz2, cz3, cz6, cz7, cz8]; done) | (exfalso; omega))⟩) dX6_behind_100
        refine lv_bipush (v := (nI 12)) hx hb dX6_behind_82 (by decide +kernel) ?_
        refine lv_goto (tgt := 100) hx hb dX6_behind_84 (by decide) ?_
        exact mm_iret hx hb hlocks hr (Nat.le_of_ble_eq_true rfl) (Nat.le_of_ble_eq_true rfl) hM (⟨congrArg (fun z => some (Value.int z)) (by first | (simp [behV, nI10, cz1, cz2, cz3, cz6, cz7]; done) | (exfalso; omega)), (hI.cI (by first | (simp [behR, nI10, cz1, cz2, cz3, cz6, cz7]; done) | (exfalso; omega))).cD (by first | (simp [behD, nI10, cz1, cz2, cz3, cz6, cz7]; done) | (exfalso; omega))⟩) dX6_behind_100
      refine lv_bipush (v := (nI 6)) hx hb dX6_behind_71 (by decide +kernel) ?_
      refine lv_goto (tgt := 100) hx hb dX6_behind_73 (by decide) ?_
      exact mm_iret hx hb hlocks hr (Nat.le_of_ble_eq_true rfl) (Nat.le_of_ble_eq_true rfl) hM (⟨congrArg (fun z => some (Value.int z)) (by first | (simp [behV, nI10, cz1, cz2, cz3, cz6]; done) | (exfalso; omega)), (hI.cI (by first | (simp [behR, nI10, cz1, cz2, cz3, cz6]; done) | (exfalso; omega))).cD (by first | (simp [behD, nI10, cz1, cz2, cz3, cz6]; done) | (exfalso; omega))⟩) dX6_behind_100
    refine lv_iload_n hx hb dX6_behind_28 rfl (lv_at hl 1 rfl) ?_
    refine lv_iconst (v := (nI 5)) hx hb dX6_behind_29 (by decide +kernel) ?_
    refine ln_icmp_ne p 5 (by omega) (by omega) (tgt := 45) hx hb dX6_behind_30 (by decide) (fun cz9 => ?_) (fun cz9 => ?_)
    · refine lv_iload_n hx hb dX6_behind_45 rfl (lv_at hl 1 rfl) ?_
      refine lv_bipush (v := (nI 9)) hx hb dX6_behind_46 (by decide +kernel) ?_
      refine ln_icmp_ne p 9 (by omega) (by omega) (tgt := 56) hx hb dX6_behind_48 (by decide) (fun cz10 => ?_) (fun cz10 => ?_)
      · refine lv_ldc (v := (-100005)) hx hb hown (hts (.constant RX6 28 (-100005)) (List.mem_of_getElem? (i := 2) rfl)) dX6_behind_56 ?_
        exact mm_iret hx hb hlocks hr (Nat.le_of_ble_eq_true rfl) (Nat.le_of_ble_eq_true rfl) hM (⟨congrArg (fun z => some (Value.int z)) (by first | (simp [behV, nI10, cz1, cz2, cz9, cz10]; done) | (exfalso; omega)), (hI.cI (by first | (simp [behR, nI10, cz1, cz2, cz9, cz10]; done) | (exfalso; omega))).cD (by first | (simp [behD, nI10, cz1, cz2, cz9, cz10]; done) | (exfalso; omega))⟩) dX6_behind_58
      refine lv_bipush (v := (nI 10)) hx hb dX6_behind_51 (by decide +kernel) ?_
      refine lv_goto (tgt := 58) hx hb dX6_behind_53 (by decide) ?_
      exact mm_iret hx hb hlocks hr (Nat.le_of_ble_eq_true rfl) (Nat.le_of_ble_eq_true rfl) hM (⟨congrArg (fun z => some (Value.int z)) (by first | (simp [behV, nI10, cz1, cz2, cz9, cz10]; done) | (exfalso; omega)), (hI.cI (by first | (simp [behR, nI10, cz1, cz2, cz9, cz10]; done) | (exfalso; omega))).cD (by first | (simp [behD, nI10, cz1, cz2, cz9, cz10]; done) | (exfalso; omega))⟩) dX6_behind_58
    refine lv_aload_n hx hb dX6_behind_33 rfl (lv_at hl 0 rfl) ?_
    refine mm_get (C := RX6) (T := TX6) (N := 14) (k := 5) hx hb hts (fun _ h => List.mem_cons_of_mem _ (List.mem_append_right _ h)) hown hK hM (hI.obj) rfl (by decide) (hts (.fieldLink RX6 78 "SentenceRulesModel" "wantsDate" "Z") (List.mem_of_getElem? (i := 1) rfl)) rfl rfl dX6_behind_34 ?_
    refine lvb_ne (tgt := 45) hx hb dX6_behind_37 (by decide) (fun cz11 => ?_) (fun cz11 => ?_)
    · refine lv_iload_n hx hb dX6_behind_45 rfl (lv_at hl 1 rfl) ?_
      refine lv_bipush (v := (nI 9)) hx hb dX6_behind_46 (by decide +kernel) ?_
      refine ln_icmp_ne p 9 (by omega) (by omega) (tgt := 56) hx hb dX6_behind_48 (by decide) (fun cz12 => ?_) (fun cz12 => ?_)
      · refine lv_ldc (v := (-100005)) hx hb hown (hts (.constant RX6 28 (-100005)) (List.mem_of_getElem? (i := 2) rfl)) dX6_behind_56 ?_
        exact mm_iret hx hb hlocks hr (Nat.le_of_ble_eq_true rfl) (Nat.le_of_ble_eq_true rfl) hM (⟨congrArg (fun z => some (Value.int z)) (by first | (simp [behV, nI10, cz1, cz2, cz9, cz11, cz12]; done) | (exfalso; omega)), (hI.cI (by first | (simp [behR, nI10, cz1, cz2, cz9, cz11, cz12]; done) | (exfalso; omega))).cD (by first | (simp [behD, nI10, cz1, cz2, cz9, cz11, cz12]; done) | (exfalso; omega))⟩) dX6_behind_58
      refine lv_bipush (v := (nI 10)) hx hb dX6_behind_51 (by decide +kernel) ?_
      refine lv_goto (tgt := 58) hx hb dX6_behind_53 (by decide) ?_
      exact mm_iret hx hb hlocks hr (Nat.le_of_ble_eq_true rfl) (Nat.le_of_ble_eq_true rfl) hM (⟨congrArg (fun z => some (Value.int z)) (by first | (simp [behV, nI10, cz1, cz2, cz9, cz11, cz12]; done) | (exfalso; omega)), (hI.cI (by first | (simp [behR, nI10, cz1, cz2, cz9, cz11, cz12]; done) | (exfalso; omega))).cD (by first | (simp [behD, nI10, cz1, cz2, cz9, cz11, cz12]; done) | (exfalso; omega))⟩) dX6_behind_58
    refine lv_bipush (v := (nI 6)) hx hb dX6_behind_40 (by decide +kernel) ?_
    refine lv_goto (tgt := 58) hx hb dX6_behind_42 (by decide) ?_
    exact mm_iret hx hb hlocks hr (Nat.le_of_ble_eq_true rfl) (Nat.le_of_ble_eq_true rfl) hM (⟨congrArg (fun z => some (Value.int z)) (by first | (simp [behV, nI10, cz1, cz2, cz9, cz11]; done) | (exfalso; omega)), (hI.cI (by first | (simp [behR, nI10, cz1, cz2, cz9, cz11]; done) | (exfalso; omega))).cD (by first | (simp [behD, nI10, cz1, cz2, cz9, cz11]; done) | (exfalso; omega))⟩) dX6_behind_58
  refine lv_aload_n hx hb dX6_behind_8 rfl (lv_at hl 0 rfl) ?_
  refine lv_iload_n hx hb dX6_behind_9 rfl (lv_at hl 1 rfl) ?_
  refine lv_aload_n hx hb dX6_behind_10 rfl (lv_at hl 0 rfl) ?_
  refine lv_iload_n hx hb dX6_behind_11 rfl (lv_at hl 2 rfl) ?_
  refine mm_V (As := [.int (nI k)]) (rest := [.int (nI p), .ref o]) ⟨hx, hb, hml, hown, hts⟩ (c6_valueAt l G hI k (by omega)) (cwV 1 hts gX6_behind_X6_valueAt rfl rfl rfl (by decide +kernel) ⟨Nat.le_of_ble_eq_true rfl, Nat.le_of_ble_eq_true rfl⟩) hK hE hA hM (mm_recv hK hM (hI.obj) (q := (RX6, TX6, 14)) rfl) rfl hl.1 rfl (Nat.le_of_ble_eq_true rfl) dX6_behind_12 ⟨Nat.le_of_ble_eq_true rfl, Nat.le_of_ble_eq_true rfl⟩ (fun v f1 Hp lcs hp hM => ?_)
  obtain ⟨rfl, hf⟩ := hp; subst hf
  refine mm_V (As := [.int (nI p), .int (S (7 + 25 + k))]) (rest := []) ⟨hx, hb, hml, hown, hts⟩ (c6_behindWord l G hI p (by omega) (S (7 + 25 + k))) (cwV 2 hts gX6_behind_X6_behindWord rfl rfl rfl (by decide +kernel) ⟨Nat.le_of_ble_eq_true rfl, Nat.le_of_ble_eq_true rfl⟩) hK hE hA hM (mm_recv hK hM (hI.obj) (q := (RX6, TX6, 14)) rfl) rfl hl.1 rfl (Nat.le_of_ble_eq_true rfl) dX6_behind_15 ⟨Nat.le_of_ble_eq_true rfl, Nat.le_of_ble_eq_true rfl⟩ (fun v gz13 Hp lcs hp hM => ?_)
  obtain ⟨rfl, hI⟩ := hp
  exact mm_iret hx hb hlocks hr (Nat.le_of_ble_eq_true rfl) (Nat.le_of_ble_eq_true rfl) hM (⟨congrArg (fun z => some (Value.int z)) (by first | (simp [behV, nI10, cz1]; done) | (exfalso; omega)), (hI.cI (by first | (simp [behR, nI10, cz1]; done) | (exfalso; omega))).cD (by first | (simp [behD, nI10, cz1]; done) | (exfalso; omega))⟩) dX6_behind_18
set_option maxHeartbeats 4000000 in
set_option maxRecDepth 100000 in
theorem c6_error (l : Launch) (G : mG) {f : mE} {ir wt : Bool} {o : Nat} {a : Nat → Nat} {S P lo hi ou : Nat → Int32} {rc us ab gi wr wo : Int32} (hI : RI G f o a S P lo hi ou rc (bI ir) (bI wt) us ab gi wr wo) {cn : Nat} (hc : S 7 = nI cn) (hc24 : cn ≤ 24) : mC l G yX6_error wsX6_error ({ frames := 3, cells := 0, slots := 0, locals := 70 } : Room) f [.ref o] (fun v f1 => v = some (.int ((errF S cn 0 ir wt 0).1)) ∧ RI G f1 o a S P lo hi ou rc (bI (errF S cn 0 ir wt 0).2.1) (bI (errF S cn 0 ir wt 0).2.2) us ab gi wr wo) 0 0 := by
  refine mC.of (cc := cX6_error) (maxL := 3) (ret := (some .int)) (by decide) rfl (Nat.le_of_ble_eq_true rfl) ?_
  intro pgm env s mt args below meth c A ls hx hb hml hr hlocks hown hname hts hK hE hA hM hl
  have hl : lv_has ls 3 [(0, .ref o)] := hl
  refine lv_iconst (v := (nI 0)) hx hb dX6_error_0 (by decide +kernel) ?_
  refine lv_istore_n (lv' := [(1, .int (nI 0)), (0, .ref o)]) hx hb dX6_error_1 rfl hl (by decide) rfl (fun ls hl => ?_)
  refine lv_iconst (v := (nI 0)) hx hb dX6_error_2 (by decide +kernel) ?_
  refine lv_istore_n (lv' := [(2, .int (nI 0)), (1, .int (nI 0)), (0, .ref o)]) hx hb dX6_error_3 rfl hl (by decide) rfl (fun ls hl => ?_)
  have loopZ : ∀ (fuel : Nat) (k p : Nat) (jr jt : Bool) (fz : mE) (Hp : Heap) (lcs : List Loc) (ls : Array Slot) (hkN : k ≤ cn) (hp14 : p ≤ 14) (hfin : errF S (cn - k) k jr jt p = errF S cn 0 ir wt 0) (hIz : RI G fz o a S P lo hi ou rc (bI (jr)) (bI (jt)) us ab gi wr wo) (hfu : cn - k < fuel) (hM : mM G A s.heap fz Hp lcs) (hl : lv_has ls 3 [(0, .ref o), (1, .int (nI p)), (2, .int (nI k))]), W pgm l env ({ frames := 3, cells := 0, slots := 0, locals := 70 } : Room) s mt args below meth c Hp lcs 0 0 (MQ below (mQc G A (fun v f1 => v = some (.int ((errF S cn 0 ir wt 0).1)) ∧ RI G f1 o a S P lo hi ou rc (bI (errF S cn 0 ir wt 0).2.1) (bI (errF S cn 0 ir wt 0).2.2) us ab gi wr wo)) args s 0 0 A) (F0 mt 4 ls []) := by
    intro fuel
    induction fuel with
    | zero => intro k p jr jt fz Hp lcs ls hkN hp14 hfin hIz hfu; exact absurd hfu (Nat.not_lt_zero _)
    | succ fuel ih =>
      intro k p jr jt fz Hp lcs ls hkN hp14 hfin hIz hfu hM hl
      have hI := hIz
      refine lv_iload_n hx hb dX6_error_4 rfl (lv_at hl 2 rfl) ?_
      refine lv_aload_n hx hb dX6_error_5 rfl (lv_at hl 0 rfl) ?_
      refine mm_get (C := RX6) (T := TX6) (N := 14) (k := 0) hx hb hts (fun _ h => List.mem_cons_of_mem _ (List.mem_append_right _ h)) hown hK hM (hI.obj) rfl (by decide) (hts (.fieldLink RX6 7 "SentenceRulesModel" "now" "[I") (List.mem_of_getElem? (i := 1) rfl)) rfl rfl dX6_error_6 ?_
      refine lv_bipush (v := (nI 7)) hx hb dX6_error_9 (by decide +kernel) ?_
      refine mn_iald hx hb hK hM (hI.now) 7 (by omega) (by decide) dX6_error_11 ?_
      refine mv_top hc ?_
      refine ln_icmp_ge k cn (by omega) (by omega) (tgt := 34) hx hb dX6_error_12 (by decide) (fun cz1 => ?_) (fun cz1 => ?_)
      · refine lv_iload_n hx hb dX6_error_34 rfl (lv_at hl 1 rfl) ?_
        refine lv_bipush (v := (nI 6)) hx hb dX6_error_35 (by decide +kernel) ?_
        refine ln_icmp_ne p 6 (by omega) (by omega) (tgt := 47) hx hb dX6_error_37 (by decide) (fun cz2 => ?_) (fun cz2 => ?_)
        · refine lv_iload_n hx hb dX6_error_47 rfl (lv_at hl 1 rfl) ?_
          refine lv_bipush (v := (nI 10)) hx hb dX6_error_48 (by decide +kernel) ?_
          refine ln_icmp_eq p 10 (by omega) (by omega) (tgt := 65) hx hb dX6_error_50 (by decide) (fun cz3 => ?_) (fun cz3 => ?_)
          · refine lv_iconst (v := (nI 1)) hx hb dX6_error_65 (by decide +kernel) ?_
            refine lv_goto (tgt := 70) hx hb dX6_error_66 (by decide) ?_
            refine lv_istore_n (lv' := [(2, .int (nI 1)), (0, .ref o), (1, .int (nI p))]) hx hb dX6_error_70 rfl hl (by decide) rfl (fun ls hl => ?_)
            refine lv_iload_n hx hb dX6_error_71 rfl (lv_at hl 0 rfl) ?_
            refine lv_if_eq (tgt := 80) hx hb dX6_error_72 (by decide) (fun hq9 => absurd hq9 (by decide)) (fun _ => ?_)
            refine lv_ldc (v := (-100005)) hx hb hown (hts (.constant RX6 28 (-100005)) (List.mem_of_getElem? (i := 3) rfl)) dX6_error_75 ?_
            refine lv_goto (tgt := 87) hx hb dX6_error_77 (by decide) ?_
            exact mm_iret hx hb hlocks hr (Nat.le_of_ble_eq_true rfl) (Nat.le_of_ble_eq_true rfl) hM (⟨congrArg (fun z => some (Value.int z)) (by rw [← hfin, errF_end (by omega : cn ≤ k)]; first | (simp [comB, show k = cn by omega, cz1, cz2, cz3]; done) | (exfalso; omega)), by rw [← hfin, errF_end (by omega : cn ≤ k)]; exact hI⟩) dX6_error_87
          refine lv_iload_n hx hb dX6_error_53 rfl (lv_at hl 1 rfl) ?_
          refine lv_bipush (v := (nI 12)) hx hb dX6_error_54 (by decide +kernel) ?_
          refine ln_icmp_eq p 12 (by omega) (by omega) (tgt := 65) hx hb dX6_error_56 (by decide) (fun cz4 => ?_) (fun cz4 => ?_)
          · refine lv_iconst (v := (nI 1)) hx hb dX6_error_65 (by decide +kernel) ?_
            refine lv_goto (tgt := 70) hx hb dX6_error_66 (by decide) ?_
            refine lv_istore_n (lv' := [(2, .int (nI 1)), (0, .ref o), (1, .int (nI p))]) hx hb dX6_error_70 rfl hl (by decide) rfl (fun ls hl => ?_)
            refine lv_iload_n hx hb dX6_error_71 rfl (lv_at hl 0 rfl) ?_
            refine lv_if_eq (tgt := 80) hx hb dX6_error_72 (by decide) (fun hq9 => absurd hq9 (by decide)) (fun _ => ?_)
            refine lv_ldc (v := (-100005)) hx hb hown (hts (.constant RX6 28 (-100005)) (List.mem_of_getElem? (i := 3) rfl)) dX6_error_75 ?_
            refine lv_goto (tgt := 87) hx hb dX6_error_77 (by decide) ?_
            exact mm_iret hx hb hlocks hr (Nat.le_of_ble_eq_true rfl) (Nat.le_of_ble_eq_true rfl) hM (⟨congrArg (fun z => some (Value.int z)) (by rw [← hfin, errF_end (by omega : cn ≤ k)]; first | (simp [comB, show k = cn by omega, cz1, cz2, cz3, cz4]; done) | (exfalso; omega)), by rw [← hfin, errF_end (by omega : cn ≤ k)]; exact hI⟩) dX6_error_87
          refine lv_iload_n hx hb dX6_error_59 rfl (lv_at hl 1 rfl) ?_
          refine lv_bipush (v := (nI 14)) hx hb dX6_error_60 (by decide +kernel) ?_
          refine ln_icmp_ne p 14 (by omega) (by omega) (tgt := 69) hx hb dX6_error_62 (by decide) (fun cz5 => ?_) (fun cz5 => ?_)
          · refine lv_iconst (v := (nI 0)) hx hb dX6_error_69 (by decide +kernel) ?_
            refine lv_istore_n (lv' := [(2, .int (nI 0)), (0, .ref o), (1, .int (nI p))]) hx hb dX6_error_70 rfl hl (by decide) rfl (fun ls hl => ?_)
            refine lv_iload_n hx hb dX6_error_71 rfl (lv_at hl 0 rfl) ?_
            refine lv_if_eq (tgt := 80) hx hb dX6_error_72 (by decide) (fun _ => ?_) (fun hq9 => absurd hq9 (by decide))
            refine lv_aload_n hx hb dX6_error_80 rfl (lv_at hl 1 rfl) ?_
            refine mm_get (C := RX6) (T := TX6) (N := 14) (k := 0) hx hb hts (fun _ h => List.mem_cons_of_mem _ (List.mem_append_right _ h)) hown hK hM (hI.obj) rfl (by decide) (hts (.fieldLink RX6 7 "SentenceRulesModel" "now" "[I") (List.mem_of_getElem? (i := 1) rfl)) rfl rfl dX6_error_81 ?_
            refine lv_bipush (v := (nI 7)) hx hb dX6_error_84 (by decide +kernel) ?_
            refine mn_iald hx hb hK hM (hI.now) 7 (by omega) (by decide) dX6_error_86 ?_
            refine mv_top hc ?_
            exact mm_iret hx hb hlocks hr (Nat.le_of_ble_eq_true rfl) (Nat.le_of_ble_eq_true rfl) hM (⟨congrArg (fun z => some (Value.int z)) (by rw [← hfin, errF_end (by omega : cn ≤ k)]; first | (simp [comB, show k = cn by omega, cz1, cz2, cz3, cz4, cz5]; done) | (exfalso; omega)), by rw [← hfin, errF_end (by omega : cn ≤ k)]; exact hI⟩) dX6_error_87
          refine lv_iconst (v := (nI 1)) hx hb dX6_error_65 (by decide +kernel) ?_
          refine lv_goto (tgt := 70) hx hb dX6_error_66 (by decide) ?_
          refine lv_istore_n (lv' := [(2, .int (nI 1)), (0, .ref o), (1, .int (nI p))]) hx hb dX6_error_70 rfl hl (by decide) rfl (fun ls hl => ?_)
          refine lv_iload_n hx hb dX6_error_71 rfl (lv_at hl 0 rfl) ?_
          refine lv_if_eq (tgt := 80) hx hb dX6_error_72 (by decide) (fun hq9 => absurd hq9 (by decide)) (fun _ => ?_)
          refine lv_ldc (v := (-100005)) hx hb hown (hts (.constant RX6 28 (-100005)) (List.mem_of_getElem? (i := 3) rfl)) dX6_error_75 ?_
          refine lv_goto (tgt := 87) hx hb dX6_error_77 (by decide) ?_
          exact mm_iret hx hb hlocks hr (Nat.le_of_ble_eq_true rfl) (Nat.le_of_ble_eq_true rfl) hM (⟨congrArg (fun z => some (Value.int z)) (by rw [← hfin, errF_end (by omega : cn ≤ k)]; first | (simp [comB, show k = cn by omega, cz1, cz2, cz3, cz4, cz5]; done) | (exfalso; omega)), by rw [← hfin, errF_end (by omega : cn ≤ k)]; exact hI⟩) dX6_error_87
        refine lv_aload_n hx hb dX6_error_40 rfl (lv_at hl 0 rfl) ?_
        refine mm_get (C := RX6) (T := TX6) (N := 14) (k := 4) hx hb hts (fun _ h => List.mem_cons_of_mem _ (List.mem_append_right _ h)) hown hK hM (hI.obj) rfl (by decide) (hts (.fieldLink RX6 74 "SentenceRulesModel" "isRule" "Z") (List.mem_of_getElem? (i := 2) rfl)) rfl rfl dX6_error_41 ?_
        refine lvb_eq (tgt := 65) hx hb dX6_error_44 (by decide) (fun cz6 => ?_) (fun cz6 => ?_)
        · refine lv_iconst (v := (nI 1)) hx hb dX6_error_65 (by decide +kernel) ?_
          refine lv_goto (tgt := 70) hx hb dX6_error_66 (by decide) ?_
          refine lv_istore_n (lv' := [(2, .int (nI 1)), (0, .ref o), (1, .int (nI p))]) hx hb dX6_error_70 rfl hl (by decide) rfl (fun ls hl => ?_)
          refine lv_iload_n hx hb dX6_error_71 rfl (lv_at hl 0 rfl) ?_
          refine lv_if_eq (tgt := 80) hx hb dX6_error_72 (by decide) (fun hq9 => absurd hq9 (by decide)) (fun _ => ?_)
          refine lv_ldc (v := (-100005)) hx hb hown (hts (.constant RX6 28 (-100005)) (List.mem_of_getElem? (i := 3) rfl)) dX6_error_75 ?_
          refine lv_goto (tgt := 87) hx hb dX6_error_77 (by decide) ?_
          exact mm_iret hx hb hlocks hr (Nat.le_of_ble_eq_true rfl) (Nat.le_of_ble_eq_true rfl) hM (⟨congrArg (fun z => some (Value.int z)) (by rw [← hfin, errF_end (by omega : cn ≤ k)]; first | (simp [comB, show k = cn by omega, cz1, cz2, cz6]; done) | (exfalso; omega)), by rw [← hfin, errF_end (by omega : cn ≤ k)]; exact hI⟩) dX6_error_87
        refine lv_iload_n hx hb dX6_error_47 rfl (lv_at hl 1 rfl) ?_
        refine lv_bipush (v := (nI 10)) hx hb dX6_error_48 (by decide +kernel) ?_
        refine ln_icmp_eq p 10 (by omega) (by omega) (tgt := 65) hx hb dX6_error_50 (by decide) (fun cz7 => ?_) (fun cz7 => ?_)
        · refine lv_iconst (v := (nI 1)) hx hb dX6_error_65 (by decide +kernel) ?_
          refine lv_goto (tgt := 70) hx hb dX6_error_66 (by decide) ?_
          refine lv_istore_n (lv' := [(2, .int (nI 1)), (0, .ref o), (1, .int (nI p))]) hx hb dX6_error_70 rfl hl (by decide) rfl (fun ls hl => ?_)
          refine lv_iload_n hx hb dX6_error_71 rfl (lv_at hl 0 rfl) ?_
          refine lv_if_eq (tgt := 80) hx hb dX6_error_72 (by decide) (fun hq9 => absurd hq9 (by decide)) (fun _ => ?_)
          refine lv_ldc (v := (-100005)) hx hb hown (hts (.constant RX6 28 (-100005)) (List.mem_of_getElem? (i := 3) rfl)) dX6_error_75 ?_
          refine lv_goto (tgt := 87) hx hb dX6_error_77 (by decide) ?_
          exact mm_iret hx hb hlocks hr (Nat.le_of_ble_eq_true rfl) (Nat.le_of_ble_eq_true rfl) hM (⟨congrArg (fun z => some (Value.int z)) (by rw [← hfin, errF_end (by omega : cn ≤ k)]; first | (simp [comB, show k = cn by omega, cz1, cz2, cz6, cz7]; done) | (exfalso; omega)), by rw [← hfin, errF_end (by omega : cn ≤ k)]; exact hI⟩) dX6_error_87
        refine lv_iload_n hx hb dX6_error_53 rfl (lv_at hl 1 rfl) ?_
        refine lv_bipush (v := (nI 12)) hx hb dX6_error_54 (by decide +kernel) ?_
        refine ln_icmp_eq p 12 (by omega) (by omega) (tgt := 65) hx hb dX6_error_56 (by decide) (fun cz8 => ?_) (fun cz8 => ?_)
        · refine lv_iconst (v := (nI 1)) hx hb dX6_error_65 (by decide +kernel) ?_
          refine lv_goto (tgt := 70) hx hb dX6_error_66 (by decide) ?_
          refine lv_istore_n (lv' := [(2, .int (nI 1)), (0, .ref o), (1, .int (nI p))]) hx hb dX6_error_70 rfl hl (by decide) rfl (fun ls hl => ?_)
          refine lv_iload_n hx hb dX6_error_71 rfl (lv_at hl 0 rfl) ?_
          refine lv_if_eq (tgt := 80) hx hb dX6_error_72 (by decide) (fun hq9 => absurd hq9 (by decide)) (fun _ => ?_)
          refine lv_ldc (v := (-100005)) hx hb hown (hts (.constant RX6 28 (-100005)) (List.mem_of_getElem? (i := 3) rfl)) dX6_error_75 ?_
          refine lv_goto (tgt := 87) hx hb dX6_error_77 (by decide) ?_
          exact mm_iret hx hb hlocks hr (Nat.le_of_ble_eq_true rfl) (Nat.le_of_ble_eq_true rfl) hM (⟨congrArg (fun z => some (Value.int z)) (by rw [← hfin, errF_end (by omega : cn ≤ k)]; first | (simp [comB, show k = cn by omega, cz1, cz2, cz6, cz7, cz8]; done) | (exfalso; omega)), by rw [← hfin, errF_end (by omega : cn ≤ k)]; exact hI⟩) dX6_error_87
        refine lv_iload_n hx hb dX6_error_59 rfl (lv_at hl 1 rfl) ?_
        refine lv_bipush (v := (nI 14)) hx hb dX6_error_60 (by decide +kernel) ?_
        refine ln_icmp_ne p 14 (by omega) (by omega) (tgt := 69) hx hb dX6_error_62 (by decide) (fun cz9 => ?_) (fun cz9 => ?_)
        · refine lv_iconst (v := (nI 0)) hx hb dX6_error_69 (by decide +kernel) ?_
          refine lv_istore_n (lv' := [(2, .int (nI 0)), (0, .ref o), (1, .int (nI p))]) hx hb dX6_error_70 rfl hl (by decide) rfl (fun ls hl => ?_)
          refine lv_iload_n hx hb dX6_error_71 rfl (lv_at hl 0 rfl) ?_
          refine lv_if_eq (tgt := 80) hx hb dX6_error_72 (by decide) (fun _ => ?_) (fun hq9 => absurd hq9 (by decide))
          refine lv_aload_n hx hb dX6_error_80 rfl (lv_at hl 1 rfl) ?_
          refine mm_get (C := RX6) (T := TX6) (N := 14) (k := 0) hx hb hts (fun _ h => List.mem_cons_of_mem _ (List.mem_append_right _ h)) hown hK hM (hI.obj) rfl (by decide) (hts (.fieldLink RX6 7 "SentenceRulesModel" "now" "[I") (List.mem_of_getElem? (i := 1) rfl)) rfl rfl dX6_error_81 ?_
          refine lv_bipush (v := (nI 7)) hx hb dX6_error_84 (by decide +kernel) ?_
          refine mn_iald hx hb hK hM (hI.now) 7 (by omega) (by decide) dX6_error_86 ?_
          refine mv_top hc ?_
          exact mm_iret hx hb hlocks hr (Nat.le_of_ble_eq_true rfl) (Nat.le_of_ble_eq_true rfl) hM (⟨congrArg (fun z => some (Value.int z)) (by rw [← hfin, errF_end (by omega : cn ≤ k)]; first | (simp [comB, show k = cn by omega, cz1, cz2, cz6, cz7, cz8, cz9]; done) | (exfalso; omega)), by rw [← hfin, errF_end (by omega : cn ≤ k)]; exact hI⟩) dX6_error_87
        refine lv_iconst (v := (nI 1)) hx hb dX6_error_65 (by decide +kernel) ?_
        refine lv_goto (tgt := 70) hx hb dX6_error_66 (by decide) ?_
        refine lv_istore_n (lv' := [(2, .int (nI 1)), (0, .ref o), (1, .int (nI p))]) hx hb dX6_error_70 rfl hl (by decide) rfl (fun ls hl => ?_)
        refine lv_iload_n hx hb dX6_error_71 rfl (lv_at hl 0 rfl) ?_
        refine lv_if_eq (tgt := 80) hx hb dX6_error_72 (by decide) (fun hq9 => absurd hq9 (by decide)) (fun _ => ?_)
        refine lv_ldc (v := (-100005)) hx hb hown (hts (.constant RX6 28 (-100005)) (List.mem_of_getElem? (i := 3) rfl)) dX6_error_75 ?_
        refine lv_goto (tgt := 87) hx hb dX6_error_77 (by decide) ?_
        exact mm_iret hx hb hlocks hr (Nat.le_of_ble_eq_true rfl) (Nat.le_of_ble_eq_true rfl) hM (⟨congrArg (fun z => some (Value.int z)) (by rw [← hfin, errF_end (by omega : cn ≤ k)]; first | (simp [comB, show k = cn by omega, cz1, cz2, cz6, cz7, cz8, cz9]; done) | (exfalso; omega)), by rw [← hfin, errF_end (by omega : cn ≤ k)]; exact hI⟩) dX6_error_87
      refine lv_aload_n hx hb dX6_error_15 rfl (lv_at hl 0 rfl) ?_
      refine lv_iload_n hx hb dX6_error_16 rfl (lv_at hl 1 rfl) ?_
      refine lv_iload_n hx hb dX6_error_17 rfl (lv_at hl 2 rfl) ?_
      refine mm_V (As := [.int (nI p), .int (nI k)]) (rest := []) ⟨hx, hb, hml, hown, hts⟩ (c6_behind l G hI p (by omega) k (by omega)) (cwV 2 hts gX6_error_X6_behind rfl rfl rfl (by decide +kernel) ⟨Nat.le_of_ble_eq_true rfl, Nat.le_of_ble_eq_true rfl⟩) hK hE hA hM (mm_recv hK hM (hI.obj) (q := (RX6, TX6, 14)) rfl) rfl hl.1 rfl (Nat.le_of_ble_eq_true rfl) dX6_error_18 ⟨Nat.le_of_ble_eq_true rfl, Nat.le_of_ble_eq_true rfl⟩ (fun v gz10 Hp lcs hp hM => ?_)
      obtain ⟨rfl, hI⟩ := hp
      refine lv_istore_n (lv' := [(1, .int (behV jr jt p (S (7 + 1 + k)) (S (7 + 25 + k)))), (0, .ref o), (2, .int (nI k))]) hx hb dX6_error_21 rfl hl (by decide) rfl (fun ls hl => ?_)
      refine lv_iload_n hx hb dX6_error_22 rfl (lv_at hl 0 rfl) ?_
      refine lv_if_ge (tgt := 28) hx hb dX6_error_23 (by decide) (fun cz11 => ?_) (fun cz11 => ?_)
      · obtain ⟨pz, hpz, hpe⟩ := beh_nat cz11
        rw [hpe] at hl
        refine lv_iinc (v := (nI (k + 1))) (lv' := [(2, .int (nI (k + 1))), (1, .int (nI pz)), (0, .ref o)]) hx hb dX6_error_28 hl (k := 2) rfl (nI_add _ _) (by decide) rfl (fun ls hl => ?_)
        refine lv_goto (tgt := 4) hx hb dX6_error_31 (by decide) ?_
        exact ih (k + 1) _ _ _ _ _ _ ls (by omega) hpz (by rw [← hfin]; exact (errF_go cz1 hpe hpz).symm) hI (by omega) hM (lv_sub hl [2, 1, 0] rfl)
      refine lv_iload_n hx hb dX6_error_26 rfl (lv_at hl 2 rfl) ?_
      exact mm_iret hx hb hlocks hr (Nat.le_of_ble_eq_true rfl) (Nat.le_of_ble_eq_true rfl) hM (⟨congrArg (fun z => some (Value.int z)) (by rw [← hfin, errF_bad cz1 (Int32.not_le.mp cz11)]), by rw [← hfin, errF_bad cz1 (Int32.not_le.mp cz11)]; exact hI⟩) dX6_error_27
  exact loopZ (cn + 1) 0 0 ir wt _ _ _ ls (Nat.zero_le _) (by omega) rfl hI (by omega) hM (lv_sub hl [2, 1, 0] rfl)
set_option maxHeartbeats 4000000 in
set_option maxRecDepth 100000 in
theorem c6_syntaxError (l : Launch) (G : mG) {f : mE} {ir wt : Bool} {o : Nat} {a : Nat → Nat} {S P lo hi ou : Nat → Int32} {rc us ab gi wr wo : Int32} (hI : RI G f o a S P lo hi ou rc (bI ir) (bI wt) us ab gi wr wo) {cn : Nat} (hc : S 7 = nI cn) (hc24 : cn ≤ 24) : mC l G yX6_syntaxError wsX6_syntaxError ({ frames := 4, cells := 0, slots := 0, locals := 92 } : Room) f [.ref o] (fun v f1 => v = some (.int ((errF S cn 0 ir wt 0).1)) ∧ RI G f1 o a S P lo hi ou rc (bI (errF S cn 0 ir wt 0).2.1) (bI (errF S cn 0 ir wt 0).2.2) us ab gi wr wo) 0 0 := by
  refine mC.of (cc := cX6_syntaxError) (maxL := 1) (ret := (some .int)) (by decide) rfl (Nat.le_of_ble_eq_true rfl) ?_
  intro pgm env s mt args below meth c A ls hx hb hml hr hlocks hown hname hts hK hE hA hM hl
  have hl : lv_has ls 1 [(0, .ref o)] := hl
  refine lv_aload_n hx hb dX6_syntaxError_0 rfl (lv_at hl 0 rfl) ?_
  refine mm_V (As := []) (rest := []) ⟨hx, hb, hml, hown, hts⟩ (c6_error l G hI hc hc24) (cwV 0 hts gX6_syntaxError_X6_error rfl rfl rfl (by decide +kernel) ⟨Nat.le_of_ble_eq_true rfl, Nat.le_of_ble_eq_true rfl⟩) hK hE hA hM (mm_recv hK hM (hI.obj) (q := (RX6, TX6, 14)) rfl) rfl hl.1 rfl (Nat.le_of_ble_eq_true rfl) dX6_syntaxError_1 ⟨Nat.le_of_ble_eq_true rfl, Nat.le_of_ble_eq_true rfl⟩ (fun v f9 Hp lcs hp hM => ?_)
  obtain ⟨rfl, hI⟩ := hp
  exact mm_iret hx hb hlocks hr (Nat.le_of_ble_eq_true rfl) (Nat.le_of_ble_eq_true rfl) hM (⟨rfl, hI⟩) dX6_syntaxError_4
