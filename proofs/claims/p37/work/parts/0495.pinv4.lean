/-! what is read agrees, step by step -/
theorem ab_sub {x : Int32} (h : inB x 16 21 = true) : nI 10 + x - nI 16 = x - nI 6 ∧ ¬ x - nI 6 < nI 10 := by
  obtain ⟨i, h1, h2, rfl⟩ := inB_nat2 (L := 16) (K := 21) (by decide) (by decide) h
  have e : i = 16 ∨ i = 17 ∨ i = 18 ∨ i = 19 ∨ i = 20 ∨ i = 21 := by omega
  rcases e with rfl | rfl | rfl | rfl | rfl | rfl <;> decide
theorem RIv.step {S : Nat → Int32} {cn k p t q : Nat} {ab gv us cp : Int32} {ir ng : Bool} {lo hi : Nat → Int32} (h : RIv S cn k ab gv us p ir t ng cp lo hi) (hk : k < cn) (ht : t < 6) (hT : TR p (S (7 + 1 + k)) (S (7 + 25 + k)) ir t q) :
    RIv S cn (k + 1) (paA p (cdF (S (7 + 1 + k)) (S (7 + 25 + k))) ab) (paG p (S (7 + 1 + k)) (S (7 + 25 + k)) gv) (paU p (cdF (S (7 + 1 + k)) (S (7 + 25 + k))) us) q (paI p (cdF (S (7 + 1 + k)) (S (7 + 25 + k))) ir) (paT p (cdF (S (7 + 1 + k)) (S (7 + 25 + k))) t) (paN p (cdF (S (7 + 1 + k)) (S (7 + 25 + k))) ng) (paC p (cdF (S (7 + 1 + k)) (S (7 + 25 + k))) cp) (paLo p (S (7 + 1 + k)) (S (7 + 25 + k)) cp ng t lo) (paHi p (S (7 + 1 + k)) (S (7 + 25 + k)) cp ng t hi) := by
  intro lo0 hi0 ab0
  obtain ⟨L, H, ja, gi, kb, hj, hc⟩ := h lo0 hi0 ab0
  rcases hT with ⟨rfl, hkd, hx, rfl⟩ | ⟨rfl, hkd, hx0, hx, rfl⟩ | ⟨rfl, hkd, hx0, hx1, hx, rfl⟩ | ⟨rfl, hkd, hx, rfl⟩ | ⟨rfl, hkd, hx, rfl⟩ | ⟨rfl, hkd, hx0, hx, rfl⟩ | ⟨rfl, hkd, hx, rfl⟩ | ⟨rfl, hkd, hx, rfl⟩ | ⟨rfl, hkd, hx, rfl⟩ | ⟨rfl, hkd, hx, rfl⟩ | ⟨rfl, hkd, rfl⟩ | ⟨rfl, hkd, hx, rfl⟩ | ⟨rfl, hkd, hx, hir, rfl⟩ | ⟨rfl, hkd, hx, rfl⟩ | ⟨rfl, hkd, hx, rfl⟩ | ⟨rfl, hkd, rfl⟩ | ⟨rfl, hkd, hx, rfl⟩ | ⟨rfl, hkd, hx, rfl⟩ | ⟨rfl, hkd, rfl⟩ | ⟨rfl, hkd, hx, rfl⟩ | ⟨rfl, hkd, rfl⟩
  -- if
  · have ec := cd_0 (x := S (7 + 25 + k)) hkd
    rcases hc with ⟨_, rfl, rfl, rfl, rfl, rfl⟩ | ⟨z, _⟩ | ⟨z, _⟩
    · have hneg : ¬ (inB (S (7 + 25 + 0)) 16 21 = true ∧ S (7 + 1 + 0) = 0) := fun z => by rw [hx] at z; exact absurd z.1 (by decide)
      refine ⟨_, _, rs0A S ab0, -100005, 1, hj, Or.inr (Or.inr ⟨by omega, fun m hm => ?_, Or.inl ⟨Or.inl rfl, rfl⟩, fun _ => rfl, fun z => absurd z (by omega), fun _ z => ?_⟩)⟩
      · rw [rsAll, rs0K_2 hneg hx]; exact rsF_st hm (by omega)
      · have e : paI 0 (cdF (S (7 + 1 + 0)) (S (7 + 25 + 0))) true = true := by
          show affI _ true = true
          rw [ec, affI, if_pos hx]
        rw [e] at z; cases z
    · exact absurd z (by decide)
    · exact absurd z (by decide)
  -- a defined word ahead
  · have ec := cd_0 (x := S (7 + 25 + k)) hkd
    rcases hc with ⟨_, rfl, rfl, rfl, rfl, rfl⟩ | ⟨z, _⟩ | ⟨z, _⟩
    · refine ⟨_, _, ja, gi, kb, hj, Or.inr (Or.inl ⟨rfl, rfl, rfl, ?_, rfl, rfl, hx, hkd, ?_⟩)⟩
      · show affI _ true = false
        rw [ec, affI, if_neg hx0, if_pos hx]
      · show affA _ ab = _
        rw [ec, affA, if_neg hx0, if_pos hx]; exact (ab_sub hx).1
    · exact absurd z (by decide)
    · exact absurd z (by decide)
  -- a result ahead
  · have ec := cd_0 (x := S (7 + 25 + k)) hkd
    rcases hc with ⟨_, rfl, rfl, rfl, rfl, rfl⟩ | ⟨z, _⟩ | ⟨z, _⟩
    · refine ⟨_, _, rs0A S ab0, -100005, 0, hj, Or.inr (Or.inr ⟨by omega, fun m hm => ?_, Or.inr (Or.inr (Or.inr (Or.inr (Or.inr (Or.inl ⟨rfl, rfl, hx, ?_⟩))))), fun _ => rfl, fun z => absurd z (by omega), fun z => absurd z (by omega)⟩)⟩
      · rw [rsAll, rs0K_3 (fun z => hx1 z.1) hx0]; exact rsF_st hm (by omega)
      · show affA _ ab = _
        rw [ec, affA, if_neg hx0, if_neg hx1, afrA, if_pos hx]
    · exact absurd z (by decide)
    · exact absurd z (by decide)
  -- means
  · rcases hc with ⟨z, _⟩ | ⟨_, rfl, rfl, rfl, rfl, rfl, h16, hk0, rfl⟩ | ⟨z, _⟩
    · exact absurd z (by decide)
    · refine ⟨_, _, rs0A S ab0, -100005, 2, hj, Or.inr (Or.inr ⟨by omega, fun m hm => ?_, Or.inl ⟨Or.inl rfl, rfl⟩, fun _ => rfl, fun z => absurd z (by omega), fun _ _ => ⟨rs0A_1 h16 hk0, (ab_sub h16).2⟩⟩)⟩
      rw [rsAll, rs0K_1 h16 hk0]; exact rsF_st hm (by omega)
    · exact absurd z (by decide)
  -- a word used
  · have ec := cd_0 (x := S (7 + 25 + k)) hkd
    rcases hc with ⟨z, _⟩ | ⟨z, _⟩ | ⟨_, hat, hpc, g1, g2, g3⟩
    · exact absurd z (by decide)
    · exact absurd z (by decide)
    · have e : kb = k := by unfold PCr at hpc; omega
      subst e
      have eu : paU 2 (cdF (S (7 + 1 + kb)) (S (7 + 25 + kb))) us = us ||| (nI 1 <<< ((S (7 + 25 + kb) - nI 16) &&& 31)) := by
        show afsU _ us = _
        rw [ec, afsU, if_pos hx]
      exact ⟨L, H, ja, gi, kb + 1, hj, Or.inr (Or.inr ⟨by omega, by rw [eu]; exact rAt_16 hk hx hat, Or.inl ⟨Or.inr (Or.inl rfl), rfl⟩, fun _ => g1 (by omega), fun z => absurd z (by omega), fun _ z => g3 (by omega) z⟩)⟩
  -- a fact
  · have ec := cd_0 (x := S (7 + 25 + k)) hkd
    rcases hc with ⟨z, _⟩ | ⟨z, _⟩ | ⟨_, hat, hpc, g1, g2, g3⟩
    · exact absurd z (by decide)
    · exact absurd z (by decide)
    · have e : kb = k := by unfold PCr at hpc; omega
      subst e
      have eu : paU 2 (cdF (S (7 + 1 + kb)) (S (7 + 25 + kb))) us = us := by
        show afsU _ us = _
        rw [ec, afsU, if_neg hx0]
      refine ⟨L, H, ja, gi, kb, hj, Or.inr (Or.inr ⟨by omega, by rw [eu]; exact hat, Or.inr (Or.inl ⟨rfl, rfl, ?_, ?_⟩), fun _ => g1 (by omega), fun z => absurd z (by omega), fun _ z => g3 (by omega) z⟩)⟩
      · rw [ec, paT, if_pos rfl, if_neg hx0, if_pos hx]; exact (fact_sub hx).2.2
      · show afsN _ ng = false
        rw [ec, afsN, if_neg hx0, if_pos hx]
  -- is
  · have ec := cd_0 (x := S (7 + 25 + k)) hkd
    rcases hc with ⟨z, _⟩ | ⟨z, _⟩ | ⟨_, hat, hpc, g1, g2, g3⟩
    · exact absurd z (by decide)
    · exact absurd z (by decide)
    · have e : kb + 1 = k ∧ S (7 + 25 + kb) = nI (10 + t) ∧ ng = false := by
        rcases hpc with z | z | z | z | z | z | z | z | z
        · omega
        · exact z.2
        all_goals exact absurd z.1 (by decide)
      obtain ⟨rfl, hv, rfl⟩ := e
      refine ⟨L, H, ja, gi, kb, hj, Or.inr (Or.inr ⟨by omega, hat, Or.inr (Or.inr (Or.inr (Or.inl ⟨rfl, ?_, rfl, hv, ?_, Or.inl ?_⟩))), fun _ => g1 (by omega), fun z => absurd z (by omega), fun _ z => g3 (by omega) z⟩)⟩
      · show afcN _ false = false
        rw [ec, afcN, if_pos hx]
      · show _ = afcC _ cp
        rw [ec, afcC, if_pos hx]; exact hx
      · show afcC _ cp = _
        rw [ec, afcC, if_pos hx]
  -- not
  · have ec := cd_0 (x := S (7 + 25 + k)) hkd
    rcases hc with ⟨z, _⟩ | ⟨z, _⟩ | ⟨_, hat, hpc, g1, g2, g3⟩
    · exact absurd z (by decide)
    · exact absurd z (by decide)
    · have e : kb + 1 = k ∧ S (7 + 25 + kb) = nI (10 + t) ∧ ng = false := by
        rcases hpc with z | z | z | z | z | z | z | z | z
        · omega
        · exact z.2
        all_goals exact absurd z.1 (by decide)
      obtain ⟨rfl, hv, rfl⟩ := e
      refine ⟨L, H, ja, gi, kb, hj, Or.inr (Or.inr ⟨by omega, hat, Or.inr (Or.inr (Or.inl ⟨rfl, rfl, hv, hx, ?_⟩)), fun _ => g1 (by omega), fun z => absurd z (by omega), fun _ z => g3 (by omega) z⟩)⟩
      show afcN _ false = true
      rw [ec, afcN, if_neg (by rw [hx]; decide), if_pos hx]
  -- over, under
  · have ec := cd_0 (x := S (7 + 25 + k)) hkd
    rcases hc with ⟨z, _⟩ | ⟨z, _⟩ | ⟨_, hat, hpc, g1, g2, g3⟩
    · exact absurd z (by decide)
    · exact absurd z (by decide)
    · have e : kb + 1 = k ∧ S (7 + 25 + kb) = nI (10 + t) ∧ ng = false := by
        rcases hpc with z | z | z | z | z | z | z | z | z
        · omega
        · exact z.2
        all_goals exact absurd z.1 (by decide)
      obtain ⟨rfl, hv, rfl⟩ := e
      have n4 : ¬ S (7 + 25 + (kb + 1)) = nI 4 := fun z => by rw [z] at hx; revert hx; decide
      have n7 : ¬ S (7 + 25 + (kb + 1)) = nI 7 := fun z => by rw [z] at hx; revert hx; decide
      have eC : paC 3 (cdF (S (7 + 1 + (kb + 1))) (S (7 + 25 + (kb + 1)))) cp = S (7 + 25 + (kb + 1)) := by
        show afcC _ cp = _
        rw [ec, afcC, if_neg n4, if_neg n7, afoC]
        rcases hx with z | z
        · rw [if_pos z]
        · rw [if_neg (by rw [z]; decide), if_pos z]
      refine ⟨L, H, ja, gi, kb, hj, Or.inr (Or.inr ⟨by omega, hat, Or.inr (Or.inr (Or.inr (Or.inl ⟨rfl, ?_, rfl, hv, eC.symm, Or.inr (by rw [eC]; exact hx)⟩))), fun _ => g1 (by omega), fun z => absurd z (by omega), fun _ z => g3 (by omega) z⟩)⟩
      show afcN _ false = false
      rw [ec, afcN, if_neg n4, if_neg n7]
  -- not over, not under
  · have ec := cd_0 (x := S (7 + 25 + k)) hkd
    rcases hc with ⟨z, _⟩ | ⟨z, _⟩ | ⟨_, hat, hpc, g1, g2, g3⟩
    · exact absurd z (by decide)
    · exact absurd z (by decide)
    · have e : kb + 2 = k ∧ S (7 + 25 + kb) = nI (10 + t) ∧ S (7 + 25 + (kb + 1)) = nI 7 ∧ ng = true := by
        rcases hpc with z | z | z | z | z | z | z | z | z
        · omega
        · exact absurd z.1 (by decide)
        · exact z.2
        all_goals exact absurd z.1 (by decide)
      obtain ⟨rfl, hv, hv2, rfl⟩ := e
      have eC : paC 4 (cdF (S (7 + 1 + (kb + 2))) (S (7 + 25 + (kb + 2)))) cp = S (7 + 25 + (kb + 2)) := by
        show afoC _ cp = _
        rw [ec, afoC]
        rcases hx with z | z
        · rw [if_pos z]
        · rw [if_neg (by rw [z]; decide), if_pos z]
      exact ⟨L, H, ja, gi, kb, hj, Or.inr (Or.inr ⟨by omega, hat, Or.inr (Or.inr (Or.inr (Or.inr (Or.inl ⟨rfl, rfl, rfl, hv, hv2, eC.symm, by rw [eC]; exact hx⟩)))), fun _ => g1 (by omega), fun z => absurd z (by omega), fun _ z => g3 (by omega) z⟩)⟩
  -- the condition's value
  · rcases hc with ⟨z, _⟩ | ⟨z, _⟩ | ⟨_, hat, hpc, g1, g2, g3⟩
    · exact absurd z (by decide)
    · exact absurd z (by decide)
    · have eLo : paLo 5 (S (7 + 1 + k)) (S (7 + 25 + k)) cp ng t lo = afvLo cp ng t (S (7 + 25 + k)) lo := by rw [paLo, if_pos ⟨rfl, hkd⟩]
      have eHi : paHi 5 (S (7 + 1 + k)) (S (7 + 25 + k)) cp ng t hi = afvHi cp ng t (S (7 + 25 + k)) hi := by rw [paHi, if_pos ⟨rfl, hkd⟩]
      rw [eLo, eHi]
      have e : (ng = false ∧ kb + 2 = k ∧ S (7 + 25 + kb) = nI (10 + t) ∧ S (7 + 25 + (kb + 1)) = cp ∧ (cp = nI 4 ∨ cp = nI 5 ∨ cp = nI 6)) ∨ (ng = true ∧ kb + 3 = k ∧ S (7 + 25 + kb) = nI (10 + t) ∧ S (7 + 25 + (kb + 1)) = nI 7 ∧ S (7 + 25 + (kb + 2)) = cp ∧ (cp = nI 5 ∨ cp = nI 6)) := by
        rcases hpc with z | z | z | z | z | z | z | z | z
        · omega
        · exact absurd z.1 (by decide)
        · exact absurd z.1 (by decide)
        · exact Or.inl z.2
        · exact Or.inr z.2
        all_goals exact absurd z.1 (by decide)
      rcases e with ⟨rfl, rfl, hv, hv1, hcp⟩ | ⟨rfl, rfl, hv, hv1, hv2, hcp⟩
      · have n7 : nfN S kb = false := by
          rw [nfN, hv1]
          rcases hcp with rfl | rfl | rfl <;> decide
        have eK : nfK S kb = kb + 1 := by rw [nfK, n7]; rfl
        have eN : nfLo S t kb L = nfLoP false cp (S (7 + 25 + (kb + 2))) t L := by rw [nfLo, n7, nfH, nfV, eK, hv1]
        have eM : nfHi S t kb H = nfHiP false cp (S (7 + 25 + (kb + 2))) t H := by rw [nfHi, n7, nfH, nfV, eK, hv1]
        have hat2 := rAt_10 ht (by omega) hv hat
        rw [eK] at hat2
        exact ⟨_, _, ja, gi, kb + 1 + 2, fun j h7 => ⟨(afv_lo (by omega) (fun j h => (hj j h).1) hcp (fun z => by cases z) h7).trans (by rw [eN]), (afv_hi (by omega) (fun j h => (hj j h).2) hcp (fun z => by cases z) h7).trans (by rw [eM])⟩, Or.inr (Or.inr ⟨by omega, hat2, Or.inl ⟨Or.inr (Or.inl rfl), by omega⟩, fun _ => g1 (by omega), fun z => absurd z (by omega), fun _ z => g3 (by omega) z⟩)⟩
      · have n7 : nfN S kb = true := by rw [nfN, hv1]; rfl
        have eK : nfK S kb = kb + 2 := by rw [nfK, n7]; rfl
        have eN : nfLo S t kb L = nfLoP true cp (S (7 + 25 + (kb + 3))) t L := by rw [nfLo, n7, nfH, nfV, eK, hv2]
        have eM : nfHi S t kb H = nfHiP true cp (S (7 + 25 + (kb + 3))) t H := by rw [nfHi, n7, nfH, nfV, eK, hv2]
        have hat2 := rAt_10 ht (by omega) hv hat
        rw [eK] at hat2
        exact ⟨_, _, ja, gi, kb + 2 + 2, fun j h7 => ⟨(afv_lo (by omega) (fun j h => (hj j h).1) (Or.inr hcp) (fun _ z => by rw [z] at hcp; revert hcp; decide) h7).trans (by rw [eN]), (afv_hi (by omega) (fun j h => (hj j h).2) (Or.inr hcp) (fun _ z => by rw [z] at hcp; revert hcp; decide) h7).trans (by rw [eM])⟩, Or.inr (Or.inr ⟨by omega, hat2, Or.inl ⟨Or.inr (Or.inl rfl), by omega⟩, fun _ => g1 (by omega), fun z => absurd z (by omega), fun _ z => g3 (by omega) z⟩)⟩
  -- and
  · rcases hc with ⟨z, _⟩ | ⟨z, _⟩ | ⟨_, hat, hpc, g1, g2, g3⟩
    · exact absurd z (by decide)
    · exact absurd z (by decide)
    · have e : kb = k := by unfold PCr at hpc; omega
      subst e
      exact ⟨L, H, ja, gi, kb + 1, hj, Or.inr (Or.inr ⟨by omega, rAt_e hk (Or.inl hx) hat, Or.inl ⟨Or.inl rfl, rfl⟩, fun _ => g1 (by omega), fun z => absurd z (by omega), fun _ z => g3 (by omega) z⟩)⟩
  -- then
  · rcases hc with ⟨z, _⟩ | ⟨z, _⟩ | ⟨_, hat, hpc, g1, g2, g3⟩
    · exact absurd z (by decide)
    · exact absurd z (by decide)
    · have e : kb = k := by unfold PCr at hpc; omega
      subst e
      exact ⟨L, H, ja, gi, kb + 1, hj, Or.inr (Or.inr ⟨by omega, rAt_e hk (Or.inr hx) hat, Or.inl ⟨Or.inr (Or.inr (Or.inl rfl)), rfl⟩, fun _ => g1 (by omega), fun z => absurd z (by omega), fun _ z => g3 (by omega) z⟩)⟩
  -- the result
  · have ec := cd_0 (x := S (7 + 25 + k)) hkd
    rcases hc with ⟨z, _⟩ | ⟨z, _⟩ | ⟨_, hat, hpc, g1, g2, g3⟩
    · exact absurd z (by decide)
    · exact absurd z (by decide)
    · have e : kb = k := by unfold PCr at hpc; omega
      subst e
      refine ⟨L, H, ja, gi, kb, hj, Or.inr (Or.inr ⟨by omega, hat, Or.inr (Or.inr (Or.inr (Or.inr (Or.inr (Or.inl ⟨rfl, rfl, hx, ?_⟩))))), fun _ => g1 (by omega), fun z => absurd z (by omega), fun z => absurd z (by omega)⟩)⟩
      show afrA _ ab = _
      rw [ec, afrA, if_pos hx]
  -- is, behind the result
  · rcases hc with ⟨z, _⟩ | ⟨z, _⟩ | ⟨_, hat, hpc, g1, g2, g3⟩
    · exact absurd z (by decide)
    · exact absurd z (by decide)
    · have e : kb + 1 = k ∧ inB (S (7 + 25 + kb)) 22 25 = true ∧ ab = S (7 + 25 + kb) - nI 22 := by
        rcases hpc with z | z | z | z | z | z | z | z | z
        · omega
        case inr.inr.inr.inr.inr.inl => exact z.2
        all_goals exact absurd z.1 (by decide)
      obtain ⟨rfl, hv, hab⟩ := e
      exact ⟨L, H, ja, gi, kb, hj, Or.inr (Or.inr ⟨by omega, hat, Or.inr (Or.inr (Or.inr (Or.inr (Or.inr (Or.inr (Or.inl ⟨rfl, rfl, hv, hab⟩)))))), fun _ => g1 (by omega), fun z => absurd z (by omega), fun z => absurd z (by omega)⟩)⟩
  -- the number given
  · rcases hc with ⟨z, _⟩ | ⟨z, _⟩ | ⟨_, hat, hpc, g1, g2, g3⟩
    · exact absurd z (by decide)
    · exact absurd z (by decide)
    · have e : kb + 2 = k ∧ inB (S (7 + 25 + kb)) 22 25 = true ∧ ab = S (7 + 25 + kb) - nI 22 := by
        rcases hpc with z | z | z | z | z | z | z | z | z
        · omega
        case inr.inr.inr.inr.inr.inr.inl => exact z.2
        all_goals exact absurd z.1 (by decide)
      obtain ⟨rfl, hv, rfl⟩ := e
      have eG : paG 9 (S (7 + 1 + (kb + 2))) (S (7 + 25 + (kb + 2))) gv = S (7 + 25 + (kb + 2)) := by rw [paG, if_pos ⟨rfl, hkd⟩]
      exact ⟨L, H, _, _, kb + 3, hj, Or.inr (Or.inr ⟨by omega, rAt_22 (by omega) hv hat, Or.inl ⟨Or.inr (Or.inr (Or.inr (Or.inl rfl))), rfl⟩, fun z => absurd z (by omega), fun _ => ⟨eG.symm, rfl, (in22_x hv).2.2⟩, fun z => absurd z (by omega)⟩)⟩
  -- from
  · rcases hc with ⟨z, _⟩ | ⟨z, _⟩ | ⟨_, hat, hpc, g1, g2, g3⟩
    · exact absurd z (by decide)
    · exact absurd z (by decide)
    · have e : kb = k := by unfold PCr at hpc; omega
      subst e
      exact ⟨L, H, ja, gi, kb, hj, Or.inr (Or.inr ⟨by omega, hat, Or.inr (Or.inr (Or.inr (Or.inr (Or.inr (Or.inr (Or.inr (Or.inl ⟨rfl, rfl, hx⟩))))))), fun z => absurd z (by omega), fun _ => g2 (by omega), fun z => absurd z (by omega)⟩)⟩
  -- until
  · rcases hc with ⟨z, _⟩ | ⟨z, _⟩ | ⟨_, hat, hpc, g1, g2, g3⟩
    · exact absurd z (by decide)
    · exact absurd z (by decide)
    · have e : kb = k := by unfold PCr at hpc; omega
      subst e
      exact ⟨L, H, ja, gi, kb, hj, Or.inr (Or.inr ⟨by omega, hat, Or.inr (Or.inr (Or.inr (Or.inr (Or.inr (Or.inr (Or.inr (Or.inr ⟨rfl, rfl, hx⟩))))))), fun z => absurd z (by omega), fun _ => g2 (by omega), fun z => absurd z (by omega)⟩)⟩
  -- from's date
  · rcases hc with ⟨z, _⟩ | ⟨z, _⟩ | ⟨_, hat, hpc, g1, g2, g3⟩
    · exact absurd z (by decide)
    · exact absurd z (by decide)
    · have e : kb + 1 = k ∧ S (7 + 25 + kb) = nI 8 := by
        rcases hpc with z | z | z | z | z | z | z | z | z
        · omega
        case inr.inr.inr.inr.inr.inr.inr.inl => exact z.2
        all_goals exact absurd z.1 (by decide)
      obtain ⟨rfl, hv⟩ := e
      have eLo : paLo 11 (S (7 + 1 + (kb + 1))) (S (7 + 25 + (kb + 1))) cp ng t lo = upd lo 6 (mx (lo 6) (S (7 + 25 + (kb + 1)))) := by rw [paLo, if_neg (fun z => absurd z.1 (by decide)), if_pos ⟨rfl, hkd⟩]
      rw [eLo]
      exact ⟨_, H, ja, gi, kb + 2, fun j h7 => ⟨by rw [atl_mx, ← (hj 6 (by omega)).1]; exact upd_eq (hj j h7).1, (hj j h7).2⟩, Or.inr (Or.inr ⟨by omega, rAt_8 (by omega) hv hat, Or.inl ⟨Or.inr (Or.inr (Or.inr (Or.inr (Or.inl rfl)))), rfl⟩, fun z => absurd z (by omega), fun _ => g2 (by omega), fun z => absurd z (by omega)⟩)⟩
  -- until, behind from's date
  · rcases hc with ⟨z, _⟩ | ⟨z, _⟩ | ⟨_, hat, hpc, g1, g2, g3⟩
    · exact absurd z (by decide)
    · exact absurd z (by decide)
    · have e : kb = k := by unfold PCr at hpc; omega
      subst e
      exact ⟨L, H, ja, gi, kb, hj, Or.inr (Or.inr ⟨by omega, hat, Or.inr (Or.inr (Or.inr (Or.inr (Or.inr (Or.inr (Or.inr (Or.inr ⟨rfl, rfl, hx⟩))))))), fun z => absurd z (by omega), fun _ => g2 (by omega), fun z => absurd z (by omega)⟩)⟩
  -- until's date
  · rcases hc with ⟨z, _⟩ | ⟨z, _⟩ | ⟨_, hat, hpc, g1, g2, g3⟩
    · exact absurd z (by decide)
    · exact absurd z (by decide)
    · have e : kb + 1 = k ∧ S (7 + 25 + kb) = nI 9 := by
        rcases hpc with z | z | z | z | z | z | z | z | z
        · omega
        case inr.inr.inr.inr.inr.inr.inr.inr => exact z.2
        all_goals exact absurd z.1 (by decide)
      obtain ⟨rfl, hv⟩ := e
      have eHi : paHi 13 (S (7 + 1 + (kb + 1))) (S (7 + 25 + (kb + 1))) cp ng t hi = upd hi 6 (mn (hi 6) (S (7 + 25 + (kb + 1)))) := by rw [paHi, if_neg (fun z => absurd z.1 (by decide)), if_pos ⟨rfl, hkd⟩]
      rw [eHi]
      exact ⟨L, _, ja, gi, kb + 2, fun j h7 => ⟨(hj j h7).1, by rw [atm_mn, ← (hj 6 (by omega)).2]; exact upd_eq (hj j h7).2⟩, Or.inr (Or.inr ⟨by omega, rAt_9 (by omega) hv hat, Or.inl ⟨Or.inr (Or.inr (Or.inr (Or.inr (Or.inr rfl)))), rfl⟩, fun z => absurd z (by omega), fun _ => g2 (by omega), fun z => absurd z (by omega)⟩)⟩
/-- what the reader holds at the end of a sentence without an error -/
def FRel (S : Nat → Int32) (cn : Nat) (lo0 hi0 : Nat → Int32) (ab0 : Int32) (ab gv us : Int32) (lo hi : Nat → Int32) : Prop :=
  (∀ j, j < 7 → (rsAll S 0 cn lo0 hi0 ab0).1 j = lo j ∧ (rsAll S 0 cn lo0 hi0 ab0).2.1 j = hi j) ∧ (rsAll S 0 cn lo0 hi0 ab0).2.2.1 = us ∧ (rsAll S 0 cn lo0 hi0 ab0).2.2.2.1 = ab ∧ (rsAll S 0 cn lo0 hi0 ab0).2.2.2.2 = if ab < nI 10 then gv else -100005
theorem RIv.fin {S : Nat → Int32} {cn k p t : Nat} {ab gv us cp : Int32} {ir ng : Bool} {lo hi : Nat → Int32} (h : RIv S cn k ab gv us p ir t ng cp lo hi) (hk : k = cn) (hc : comB ir p = true) (lo0 hi0 : Nat → Int32) (ab0 : Int32) : FRel S cn lo0 hi0 ab0 ab gv us lo hi := by
  subst hk
  obtain ⟨L, H, ja, gi, kb, hj, hz⟩ := h lo0 hi0 ab0
  have hp : (p = 6 ∧ ir = false) ∨ p = 10 ∨ p = 12 ∨ p = 14 := by
    unfold comB at hc
    simp only [Bool.or_eq_true, Bool.and_eq_true, decide_eq_true_eq, Bool.not_eq_true'] at hc
    rcases hc with ((z | z) | z) | z
    · exact Or.inl z
    · exact Or.inr (Or.inl z)
    · exact Or.inr (Or.inr (Or.inl z))
    · exact Or.inr (Or.inr (Or.inr z))
  rcases hz with ⟨z, _⟩ | ⟨z, _⟩ | ⟨_, hat, hpc, g1, g2, g3⟩
  · omega
  · omega
  · have e : kb = k := by unfold PCr at hpc; omega
    subst e
    have hZ := hat 1 (by omega)
    rw [rsF_end (Nat.le_refl _)] at hZ
    unfold FRel
    rw [← hZ]
    refine ⟨fun j h7 => ⟨(hj j h7).1.symm, (hj j h7).2.symm⟩, rfl, ?_, ?_⟩
    · rcases hp with z | z
      · exact (g3 (by omega) z.2).1
      · exact (g2 (by omega)).2.1
    · rcases hp with z | z
      · rw [if_neg (g3 (by omega) z.2).2]; exact g1 (by omega)
      · rw [if_pos (g2 (by omega)).2.2]; exact (g2 (by omega)).1

