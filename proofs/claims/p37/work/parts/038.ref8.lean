def bndB (x : Int32) : Bool := decide (x = nI 5) || decide (x = nI 6)
def bwV (ir : Bool) (p : Nat) (x : Int32) : Int32 :=
  if p = 0 then (if inB x 16 21 = true then nI 1 else if x = 0 then nI 2 else if inB x 22 25 = true then nI 8 else -100005)
  else if p = 1 then (if x = nI 3 then nI 2 else -100005)
  else if p = 2 then (if inB x 16 21 = true then nI 6 else if inB x 10 15 = true then nI 3 else -100005)
  else if p = 3 then (if x = nI 7 then nI 4 else if x = nI 4 then nI 5 else if bndB x = true then nI 5 else -100005)
  else if p = 4 then (if bndB x = true then nI 5 else -100005)
  else if p = 6 then (if x = nI 1 then nI 2 else if x = nI 2 ∧ ir = true then nI 7 else -100005)
  else if p = 7 then (if inB x 22 25 = true then nI 8 else -100005)
  else if p = 8 then (if x = nI 4 then nI 9 else -100005)
  else if p = 10 then (if x = nI 8 then nI 11 else if x = nI 9 then nI 13 else -100005)
  else if p = 12 then (if x = nI 9 then nI 13 else -100005)
  else -100005
def bwR (ir : Bool) (p : Nat) (x : Int32) : Bool := if p = 0 then decide (x = 0) else ir
def bwD (wt : Bool) (p : Nat) (x : Int32) : Bool := if p = 2 then !decide (x ≤ nI 13) else wt
def behV (ir wt : Bool) (p : Nat) (kd x : Int32) : Int32 :=
  if kd = 0 then bwV ir p x
  else if kd = nI 1 then (if p = 5 ∧ wt = false then nI 6 else if p = 9 then nI 10 else -100005)
  else (if p = 5 ∧ wt = true then nI 6 else if p = 11 then nI 12 else if p = 13 then nI 14 else -100005)
def behR (ir : Bool) (p : Nat) (kd x : Int32) : Bool := if kd = 0 then bwR ir p x else ir
def behD (wt : Bool) (p : Nat) (kd x : Int32) : Bool := if kd = 0 then bwD wt p x else wt
theorem nI10 : ¬ nI 1 = 0 := by decide
def placeL : List Int32 := [nI 1, nI 2, nI 3, nI 4, nI 5, nI 6, nI 7, nI 8, nI 9, nI 10, nI 11, nI 12, nI 13, nI 14, -100005]
theorem ite_mem {p : Prop} [Decidable p] {x y : Int32} {L : List Int32} (h : x ∈ L) (h2 : y ∈ L) : (if p then x else y) ∈ L := by split <;> assumption
theorem behV_mem (ir wt : Bool) (p : Nat) (kd x : Int32) : behV ir wt p kd x ∈ placeL := by
  unfold behV bwV
  repeat' (first | decide | apply ite_mem)
theorem beh_nat {ir wt : Bool} {p : Nat} {kd x : Int32} (h : 0 ≤ behV ir wt p kd x) : ∃ q, q ≤ 14 ∧ behV ir wt p kd x = nI q := by
  have key : ∀ z : Int32, z ∈ placeL → 0 ≤ z → ∃ q, q ≤ 14 ∧ z = nI q := by
    intro z hz h0
    simp only [placeL, List.mem_cons, List.not_mem_nil, or_false] at hz
    rcases hz with rfl | rfl | rfl | rfl | rfl | rfl | rfl | rfl | rfl | rfl | rfl | rfl | rfl | rfl | rfl
    · exact ⟨1, by omega, rfl⟩
    · exact ⟨2, by omega, rfl⟩
    · exact ⟨3, by omega, rfl⟩
    · exact ⟨4, by omega, rfl⟩
    · exact ⟨5, by omega, rfl⟩
    · exact ⟨6, by omega, rfl⟩
    · exact ⟨7, by omega, rfl⟩
    · exact ⟨8, by omega, rfl⟩
    · exact ⟨9, by omega, rfl⟩
    · exact ⟨10, by omega, rfl⟩
    · exact ⟨11, by omega, rfl⟩
    · exact ⟨12, by omega, rfl⟩
    · exact ⟨13, by omega, rfl⟩
    · exact ⟨14, by omega, rfl⟩
    · exact absurd h0 (by decide)
  exact key _ (behV_mem ir wt p kd x) h
def comB (ir : Bool) (p : Nat) : Bool := decide (p = 6) && !ir || decide (p = 10) || decide (p = 12) || decide (p = 14)
def errF (S : Nat → Int32) : Nat → Nat → Bool → Bool → Nat → Int32 × Bool × Bool
  | 0, k, ir, wt, p => (if comB ir p = true then -100005 else nI k, ir, wt)
  | m + 1, k, ir, wt, p =>
    if behV ir wt p (S (7 + 1 + k)) (S (7 + 25 + k)) < 0 then (nI k, behR ir p (S (7 + 1 + k)) (S (7 + 25 + k)), behD wt p (S (7 + 1 + k)) (S (7 + 25 + k)))
    else errF S m (k + 1) (behR ir p (S (7 + 1 + k)) (S (7 + 25 + k))) (behD wt p (S (7 + 1 + k)) (S (7 + 25 + k))) (behV ir wt p (S (7 + 1 + k)) (S (7 + 25 + k))).toNatClampNeg
theorem errF_bad {S : Nat → Int32} {c k p : Nat} {ir wt : Bool} (hk : k < c) (h : behV ir wt p (S (7 + 1 + k)) (S (7 + 25 + k)) < 0) : errF S (c - k) k ir wt p = (nI k, behR ir p (S (7 + 1 + k)) (S (7 + 25 + k)), behD wt p (S (7 + 1 + k)) (S (7 + 25 + k))) := by
  rw [show c - k = (c - (k + 1)) + 1 by omega, errF, if_pos h]
theorem errF_go {S : Nat → Int32} {c k p q : Nat} {ir wt : Bool} (hk : k < c) (h : behV ir wt p (S (7 + 1 + k)) (S (7 + 25 + k)) = nI q) (hq : q ≤ 14) : errF S (c - k) k ir wt p = errF S (c - (k + 1)) (k + 1) (behR ir p (S (7 + 1 + k)) (S (7 + 25 + k))) (behD wt p (S (7 + 1 + k)) (S (7 + 25 + k))) q := by
  rw [show c - k = (c - (k + 1)) + 1 by omega, errF, if_neg (by rw [h]; exact nI_pos (by omega)), h, nI_clamp (by omega)]
theorem errF_end {S : Nat → Int32} {c k p : Nat} {ir wt : Bool} (hk : c ≤ k) : errF S (c - k) k ir wt p = (if comB ir p = true then -100005 else nI k, ir, wt) := by
  rw [show c - k = 0 by omega, errF]
