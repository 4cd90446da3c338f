/-! THE LAW's own methods: two books alike -/
set_option maxHeartbeats 4000000 in
set_option maxRecDepth 100000 in
theorem l_areAlike (l : Launch) (G : mG) {f h : mE} {o q : Nat} {S P P2 : Nat → Int32} {rc rc2 n cn : Nat} (hI : CI G f o S P rc) (hJ : CI G h q S P2 rc2) (hv : VSn S n cn) (hap : mAp f h) : mC l G yL_areAlike wsL_areAlike ({ frames := 6, cells := 0, slots := 0, locals := 145 } : Room) (fun a => (f a).or (h a)) [.ref o, .ref q] (fun v f1 => v = some (.int (nI 1))) 0 0 := by
  refine mC.of (cc := cL_areAlike) (maxL := 4) (ret := (some .boolean)) (by decide) rfl (Nat.le_of_ble_eq_true rfl) ?_
  intro pgm env s mt args below meth c A ls hx hb hml hr hlocks hown hname hts hK hE hA hM hl
  have hl : lv_has ls 4 [(0, .ref o), (1, .ref q)] := hl
  obtain ⟨vso, ho⟩ := hI.obj
  obtain ⟨vsq, hoq⟩ := hJ.obj
  have hn16 := hv.2.1
  obtain ⟨hf8, hh⟩ := hM.1.apart hap rfl
  have hM : mM G A s.heap f s.heap [] := ⟨hf8, hM.2⟩
  refine lv_aload_n hx hb dL_areAlike_0 rfl (lv_at hl 0 rfl) ?_
  refine mm_V2 (As := []) (rest := []) ⟨hx, hb, hml, hown, hts⟩ (p_sentences l G hI hv) (cwV 0 hts gL_areAlike_X5_sentences rfl rfl rfl (by decide +kernel) ⟨Nat.le_of_ble_eq_true rfl, Nat.le_of_ble_eq_true rfl⟩) hK hE hA hM hh hap (mm_recv hK hM ho (q := (RX5, TX5, 7)) rfl) rfl hl.1 rfl (Nat.le_of_ble_eq_true rfl) dL_areAlike_1 ⟨Nat.le_of_ble_eq_true rfl, Nat.le_of_ble_eq_true rfl⟩ (fun v f Hp lcs hp hM hh hap => ?_)
  obtain ⟨rfl, hI⟩ := hp
  obtain ⟨vso, ho⟩ := hI.obj
  refine lv_aload_n hx hb dL_areAlike_4 rfl (lv_at hl 1 rfl) ?_
  refine mm_V2 (As := []) (rest := [.int (nI n)]) ⟨hx, hb, hml, hown, hts⟩ (p_sentences l G hJ hv) (cwV 0 hts gL_areAlike_X5_sentences rfl rfl rfl (by decide +kernel) ⟨Nat.le_of_ble_eq_true rfl, Nat.le_of_ble_eq_true rfl⟩) hK hE hA (show mM G A s.heap h Hp _ from ⟨hh, hM.2⟩) hM.1 hap.symm (mm_recv hK (show mM G A s.heap h Hp _ from ⟨hh, hM.2⟩) hoq (q := (RX5, TX5, 7)) rfl) rfl hl.1 rfl (Nat.le_of_ble_eq_true rfl) dL_areAlike_5 ⟨Nat.le_of_ble_eq_true rfl, Nat.le_of_ble_eq_true rfl⟩ (fun v h Hp lcs hp hM hh hap => ?_)
  obtain ⟨rfl, hJ⟩ := hp
  obtain ⟨vsq, hoq⟩ := hJ.obj
  have hM8 := hM
  have hM : mM G A s.heap f Hp _ := ⟨hh, hM8.2⟩
  have hh := hM8.1
  have hap := hap.symm
  refine ln_icmp_ne n n (by omega) (by omega) (tgt := 15) hx hb dL_areAlike_8 (by decide) (fun hq9 => absurd hq9 (not_not_intro rfl)) (fun _ => ?_)
  refine lv_iconst (v := (nI 1)) hx hb dL_areAlike_11 (by decide +kernel) ?_
  refine lv_goto (tgt := 16) hx hb dL_areAlike_12 (by decide) ?_
  refine lv_istore_n (lv' := [(2, .int (nI 1)), (0, .ref o), (1, .ref q)]) hx hb dL_areAlike_16 rfl hl (by decide) rfl (fun ls hl => ?_)
  refine lv_iconst (v := (nI 0)) hx hb dL_areAlike_17 (by decide +kernel) ?_
  refine lv_istore_n (lv' := [(3, .int (nI 0)), (2, .int (nI 1)), (0, .ref o), (1, .ref q)]) hx hb dL_areAlike_18 rfl hl (by decide) rfl (fun ls hl => ?_)
  have loopX : ∀ (fuel : Nat) (i : Nat) (f h : mE) (Hp : Heap) (lcs : List Loc) (ls : Array Slot) (hiB : i ≤ 4) (hI : CI G f o S P rc) (hJ : CI G h q S P2 rc2) (hh : mD G A h Hp) (hap : mAp f h) (hfu : 4 - i < fuel) (hM : mM G A s.heap f Hp lcs) (hl : lv_has ls 4 [(0, .ref o), (1, .ref q), (2, .int (nI 1)), (3, .int (nI i))]), W pgm l env ({ frames := 6, cells := 0, slots := 0, locals := 145 } : Room) s mt args below meth c Hp lcs 0 0 (MQ below (mQc G A (fun v f1 => v = some (.int (nI 1)))) args s 0 0 A) (F0 mt 19 ls []) := by
    intro fuel
    induction fuel with
    | zero => intro i f h Hp lcs ls hiB hI hJ hh hap hfu; exact absurd hfu (Nat.not_lt_zero _)
    | succ fuel ih =>
      intro i f h Hp lcs ls hiB hI hJ hh hap hfu hM hl
      obtain ⟨vso, ho⟩ := hI.obj
      obtain ⟨vsq, hoq⟩ := hJ.obj
      refine lv_iload_n hx hb dL_areAlike_19 rfl (lv_at hl 3 rfl) ?_
      refine lv_iconst (v := (nI 4)) hx hb dL_areAlike_20 (by decide +kernel) ?_
      refine ln_icmp_ge i 4 (by omega) (by omega) (tgt := 66) hx hb dL_areAlike_21 (by decide) (fun cz1 => ?_) (fun cz1 => ?_)
      · refine lv_iconst (v := (nI 0)) hx hb dL_areAlike_66 (by decide +kernel) ?_
        refine lv_istore_n (lv' := [(3, .int (nI 0)), (0, .ref o), (1, .ref q), (2, .int (nI 1))]) hx hb dL_areAlike_67 rfl hl (by decide) rfl (fun ls hl => ?_)
        have loopY : ∀ (fuelB : Nat) (i : Nat) (f h : mE) (Hp : Heap) (lcs : List Loc) (ls : Array Slot) (hiB : i ≤ 6) (hI : CI G f o S P rc) (hJ : CI G h q S P2 rc2) (hh : mD G A h Hp) (hap : mAp f h) (hfuB : 6 - i < fuelB) (hM : mM G A s.heap f Hp lcs) (hl : lv_has ls 4 [(0, .ref o), (1, .ref q), (2, .int (nI 1)), (3, .int (nI i))]), W pgm l env ({ frames := 6, cells := 0, slots := 0, locals := 145 } : Room) s mt args below meth c Hp lcs 0 0 (MQ below (mQc G A (fun v f1 => v = some (.int (nI 1)))) args s 0 0 A) (F0 mt 68 ls []) := by
          intro fuelB
          induction fuelB with
          | zero => intro i f h Hp lcs ls hiB hI hJ hh hap hfuB; exact absurd hfuB (Nat.not_lt_zero _)
          | succ fuelB ihB =>
            intro i f h Hp lcs ls hiB hI hJ hh hap hfuB hM hl
            obtain ⟨vso, ho⟩ := hI.obj
            obtain ⟨vsq, hoq⟩ := hJ.obj
            refine lv_iload_n hx hb dL_areAlike_68 rfl (lv_at hl 3 rfl) ?_
            refine lv_bipush (v := (nI 6)) hx hb dL_areAlike_69 (by decide +kernel) ?_
            refine ln_icmp_ge i 6 (by omega) (by omega) (tgt := 116) hx hb dL_areAlike_71 (by decide) (fun cz2 => ?_) (fun cz2 => ?_)
            · refine lv_iconst (v := (nI 0)) hx hb dL_areAlike_116 (by decide +kernel) ?_
              refine lv_istore_n (lv' := [(3, .int (nI 0)), (0, .ref o), (1, .ref q), (2, .int (nI 1))]) hx hb dL_areAlike_117 rfl hl (by decide) rfl (fun ls hl => ?_)
              have loopZ : ∀ (fuelC : Nat) (i : Nat) (f h : mE) (Hp : Heap) (lcs : List Loc) (ls : Array Slot) (hiB : i ≤ n) (hI : CI G f o S P rc) (hJ : CI G h q S P2 rc2) (hh : mD G A h Hp) (hap : mAp f h) (hfuC : n - i < fuelC) (hM : mM G A s.heap f Hp lcs) (hl : lv_has ls 4 [(0, .ref o), (1, .ref q), (2, .int (nI 1)), (3, .int (nI i))]), W pgm l env ({ frames := 6, cells := 0, slots := 0, locals := 145 } : Room) s mt args below meth c Hp lcs 0 0 (MQ below (mQc G A (fun v f1 => v = some (.int (nI 1)))) args s 0 0 A) (F0 mt 118 ls []) := by
                intro fuelC
                induction fuelC with
                | zero => intro i f h Hp lcs ls hiB hI hJ hh hap hfuC; exact absurd hfuC (Nat.not_lt_zero _)
                | succ fuelC ihC =>
                  intro i f h Hp lcs ls hiB hI hJ hh hap hfuC hM hl
                  obtain ⟨vso, ho⟩ := hI.obj
                  obtain ⟨vsq, hoq⟩ := hJ.obj
                  refine lv_iload_n hx hb dL_areAlike_118 rfl (lv_at hl 3 rfl) ?_
                  refine lv_aload_n hx hb dL_areAlike_119 rfl (lv_at hl 0 rfl) ?_
                  refine mm_V2 (As := []) (rest := [.int (nI i)]) ⟨hx, hb, hml, hown, hts⟩ (p_sentences l G hI hv) (cwV 0 hts gL_areAlike_X5_sentences rfl rfl rfl (by decide +kernel) ⟨Nat.le_of_ble_eq_true rfl, Nat.le_of_ble_eq_true rfl⟩) hK hE hA hM hh hap (mm_recv hK hM ho (q := (RX5, TX5, 7)) rfl) rfl hl.1 rfl (Nat.le_of_ble_eq_true rfl) dL_areAlike_120 ⟨Nat.le_of_ble_eq_true rfl, Nat.le_of_ble_eq_true rfl⟩ (fun v f Hp lcs hp hM hh hap => ?_)
                  obtain ⟨rfl, hI⟩ := hp
                  obtain ⟨vso, ho⟩ := hI.obj
                  refine ln_icmp_ge i n (by omega) (by omega) (tgt := 181) hx hb dL_areAlike_123 (by decide) (fun cz3 => ?_) (fun cz3 => ?_)
                  · refine lv_iload_n hx hb dL_areAlike_181 rfl (lv_at hl 2 rfl) ?_
                    exact mm_zret hx hb hlocks hr (by first | rfl | exact bI_nar _) (Nat.le_of_ble_eq_true rfl) (Nat.le_of_ble_eq_true rfl) hM (rfl) dL_areAlike_182
                  refine lv_iload_n hx hb dL_areAlike_126 rfl (lv_at hl 2 rfl) ?_
                  refine lv_if_eq (tgt := 181) hx hb dL_areAlike_127 (by decide) (fun hq9 => absurd hq9 (by decide)) (fun _ => ?_)
                  refine lv_aload_n hx hb dL_areAlike_130 rfl (lv_at hl 0 rfl) ?_
                  refine lv_iload_n hx hb dL_areAlike_131 rfl (lv_at hl 3 rfl) ?_
                  refine mm_V2 (As := [.int (nI i)]) (rest := []) ⟨hx, hb, hml, hown, hts⟩ (p_length l G hI hv (nI i)) (cwV 1 hts gL_areAlike_X5_length rfl rfl rfl (by decide +kernel) ⟨Nat.le_of_ble_eq_true rfl, Nat.le_of_ble_eq_true rfl⟩) hK hE hA hM hh hap (mm_recv hK hM ho (q := (RX5, TX5, 7)) rfl) rfl hl.1 rfl (Nat.le_of_ble_eq_true rfl) dL_areAlike_132 ⟨Nat.le_of_ble_eq_true rfl, Nat.le_of_ble_eq_true rfl⟩ (fun v f Hp lcs hp hM hh hap => ?_)
                  obtain ⟨rfl, hI⟩ := hp
                  obtain ⟨vso, ho⟩ := hI.obj
                  refine lv_aload_n hx hb dL_areAlike_135 rfl (lv_at hl 1 rfl) ?_
                  refine lv_iload_n hx hb dL_areAlike_136 rfl (lv_at hl 3 rfl) ?_
                  refine mm_V2 (As := [.int (nI i)]) (rest := [.int (tolI S (nI i) (fun j => nI ((senL S j (ctN S j)).length + 1)))]) ⟨hx, hb, hml, hown, hts⟩ (p_length l G hJ hv (nI i)) (cwV 1 hts gL_areAlike_X5_length rfl rfl rfl (by decide +kernel) ⟨Nat.le_of_ble_eq_true rfl, Nat.le_of_ble_eq_true rfl⟩) hK hE hA (show mM G A s.heap h Hp _ from ⟨hh, hM.2⟩) hM.1 hap.symm (mm_recv hK (show mM G A s.heap h Hp _ from ⟨hh, hM.2⟩) hoq (q := (RX5, TX5, 7)) rfl) rfl hl.1 rfl (Nat.le_of_ble_eq_true rfl) dL_areAlike_137 ⟨Nat.le_of_ble_eq_true rfl, Nat.le_of_ble_eq_true rfl⟩ (fun v h Hp lcs hp hM hh hap => ?_)
                  obtain ⟨rfl, hJ⟩ := hp
                  obtain ⟨vsq, hoq⟩ := hJ.obj
                  have hM8 := hM
                  have hM : mM G A s.heap f Hp _ := ⟨hh, hM8.2⟩
                  have hh := hM8.1
                  have hap := hap.symm
                  refine lv_icmp_ne (tgt := 173) hx hb dL_areAlike_140 (by decide) (fun hq9 => absurd hq9 (not_not_intro rfl)) (fun _ => ?_)
                  refine lv_aload_n hx hb dL_areAlike_143 rfl (lv_at hl 0 rfl) ?_
                  refine lv_iload_n hx hb dL_areAlike_144 rfl (lv_at hl 3 rfl) ?_
                  refine mm_V2 (As := [.int (nI i)]) (rest := []) ⟨hx, hb, hml, hown, hts⟩ (p_uses l G hI hv (k := i) (by omega)) (cwV 1 hts gL_areAlike_X5_uses rfl rfl rfl (by decide +kernel) ⟨Nat.le_of_ble_eq_true rfl, Nat.le_of_ble_eq_true rfl⟩) hK hE hA hM hh hap (mm_recv hK hM ho (q := (RX5, TX5, 7)) rfl) rfl hl.1 rfl (Nat.le_of_ble_eq_true rfl) dL_areAlike_145 ⟨Nat.le_of_ble_eq_true rfl, Nat.le_of_ble_eq_true rfl⟩ (fun v f Hp lcs hp hM hh hap => ?_)
                  obtain ⟨rfl, hI⟩ := hp
                  obtain ⟨vso, ho⟩ := hI.obj
                  refine lv_aload_n hx hb dL_areAlike_148 rfl (lv_at hl 1 rfl) ?_
                  refine lv_iload_n hx hb dL_areAlike_149 rfl (lv_at hl 3 rfl) ?_
                  refine mm_V2 (As := [.int (nI i)]) (rest := [.int (S (57 + 66 * i + 51))]) ⟨hx, hb, hml, hown, hts⟩ (p_uses l G hJ hv (k := i) (by omega)) (cwV 1 hts gL_areAlike_X5_uses rfl rfl rfl (by decide +kernel) ⟨Nat.le_of_ble_eq_true rfl, Nat.le_of_ble_eq_true rfl⟩) hK hE hA (show mM G A s.heap h Hp _ from ⟨hh, hM.2⟩) hM.1 hap.symm (mm_recv hK (show mM G A s.heap h Hp _ from ⟨hh, hM.2⟩) hoq (q := (RX5, TX5, 7)) rfl) rfl hl.1 rfl (Nat.le_of_ble_eq_true rfl) dL_areAlike_150 ⟨Nat.le_of_ble_eq_true rfl, Nat.le_of_ble_eq_true rfl⟩ (fun v h Hp lcs hp hM hh hap => ?_)
                  obtain ⟨rfl, hJ⟩ := hp
                  obtain ⟨vsq, hoq⟩ := hJ.obj
                  have hM8 := hM
                  have hM : mM G A s.heap f Hp _ := ⟨hh, hM8.2⟩
                  have hh := hM8.1
                  have hap := hap.symm
                  refine lv_icmp_ne (tgt := 173) hx hb dL_areAlike_153 (by decide) (fun hq9 => absurd hq9 (not_not_intro rfl)) (fun _ => ?_)
                  refine lv_aload_n hx hb dL_areAlike_156 rfl (lv_at hl 0 rfl) ?_
                  refine lv_iload_n hx hb dL_areAlike_157 rfl (lv_at hl 3 rfl) ?_
                  refine mm_V2 (As := [.int (nI i)]) (rest := []) ⟨hx, hb, hml, hown, hts⟩ (p_sharpness l G hI hv (k := i) (by omega)) (cwV 1 hts gL_areAlike_X5_sharpness rfl rfl rfl (by decide +kernel) ⟨Nat.le_of_ble_eq_true rfl, Nat.le_of_ble_eq_true rfl⟩) hK hE hA hM hh hap (mm_recv hK hM ho (q := (RX5, TX5, 7)) rfl) rfl hl.1 rfl (Nat.le_of_ble_eq_true rfl) dL_areAlike_158 ⟨Nat.le_of_ble_eq_true rfl, Nat.le_of_ble_eq_true rfl⟩ (fun v f Hp lcs hp hM hh hap => ?_)
                  obtain ⟨rfl, hI⟩ := hp
                  obtain ⟨vso, ho⟩ := hI.obj
                  refine lv_aload_n hx hb dL_areAlike_161 rfl (lv_at hl 1 rfl) ?_
                  refine lv_iload_n hx hb dL_areAlike_162 rfl (lv_at hl 3 rfl) ?_
                  refine mm_V2 (As := [.int (nI i)]) (rest := [.int (nI (shaN S i))]) ⟨hx, hb, hml, hown, hts⟩ (p_sharpness l G hJ hv (k := i) (by omega)) (cwV 1 hts gL_areAlike_X5_sharpness rfl rfl rfl (by decide +kernel) ⟨Nat.le_of_ble_eq_true rfl, Nat.le_of_ble_eq_true rfl⟩) hK hE hA (show mM G A s.heap h Hp _ from ⟨hh, hM.2⟩) hM.1 hap.symm (mm_recv hK (show mM G A s.heap h Hp _ from ⟨hh, hM.2⟩) hoq (q := (RX5, TX5, 7)) rfl) rfl hl.1 rfl (Nat.le_of_ble_eq_true rfl) dL_areAlike_163 ⟨Nat.le_of_ble_eq_true rfl, Nat.le_of_ble_eq_true rfl⟩ (fun v h Hp lcs hp hM hh hap => ?_)
                  obtain ⟨rfl, hJ⟩ := hp
                  obtain ⟨vsq, hoq⟩ := hJ.obj
                  have hM8 := hM
                  have hM : mM G A s.heap f Hp _ := ⟨hh, hM8.2⟩
                  have hh := hM8.1
                  have hap := hap.symm
                  refine lv_icmp_ne (tgt := 173) hx hb dL_areAlike_166 (by decide) (fun hq9 => absurd hq9 (not_not_intro rfl)) (fun _ => ?_)
                  refine lv_iconst (v := (nI 1)) hx hb dL_areAlike_169 (by decide +kernel) ?_
                  refine lv_goto (tgt := 174) hx hb dL_areAlike_170 (by decide) ?_
                  refine lv_istore_n (lv' := [(2, .int (nI 1)), (0, .ref o), (1, .ref q), (3, .int (nI i))]) hx hb dL_areAlike_174 rfl hl (by decide) rfl (fun ls hl => ?_)
                  refine lv_iinc (v := (nI (i + 1))) (lv' := [(3, .int (nI (i + 1))), (2, .int (nI 1)), (0, .ref o), (1, .ref q)]) hx hb dL_areAlike_175 hl (k := 3) rfl (nI_add _ _) (by decide) rfl (fun ls hl => ?_)
                  refine lv_goto (tgt := 118) hx hb dL_areAlike_178 (by decide) ?_
                  exact ihC (i + 1) _ _ _ _ ls (by omega) hI hJ hh hap (by omega) hM (lv_sub hl [2, 3, 1, 0] rfl)
              exact loopZ (n + 1) 0 _ _ _ _ ls (Nat.zero_le _) hI hJ hh hap (by omega) hM (lv_sub hl [1, 2, 3, 0] rfl)
            refine lv_iload_n hx hb dL_areAlike_74 rfl (lv_at hl 2 rfl) ?_
            refine lv_if_eq (tgt := 108) hx hb dL_areAlike_75 (by decide) (fun hq9 => absurd hq9 (by decide)) (fun _ => ?_)
            refine lv_aload_n hx hb dL_areAlike_78 rfl (lv_at hl 0 rfl) ?_
            refine lv_iload_n hx hb dL_areAlike_79 rfl (lv_at hl 3 rfl) ?_
            refine mm_V2 (As := [.int (nI i)]) (rest := []) ⟨hx, hb, hml, hown, hts⟩ (p_definition l G hI hv (nI i)) (cwV 1 hts gL_areAlike_X5_definition rfl rfl rfl (by decide +kernel) ⟨Nat.le_of_ble_eq_true rfl, Nat.le_of_ble_eq_true rfl⟩) hK hE hA hM hh hap (mm_recv hK hM ho (q := (RX5, TX5, 7)) rfl) rfl hl.1 rfl (Nat.le_of_ble_eq_true rfl) dL_areAlike_80 ⟨Nat.le_of_ble_eq_true rfl, Nat.le_of_ble_eq_true rfl⟩ (fun v f Hp lcs hp hM hh hap => ?_)
            obtain ⟨rfl, hI⟩ := hp
            obtain ⟨vso, ho⟩ := hI.obj
            refine lv_aload_n hx hb dL_areAlike_83 rfl (lv_at hl 1 rfl) ?_
            refine lv_iload_n hx hb dL_areAlike_84 rfl (lv_at hl 3 rfl) ?_
            refine mm_V2 (As := [.int (nI i)]) (rest := [.int (if inB (nI i) 0 5 = true then defI S n (nI i) else -100002)]) ⟨hx, hb, hml, hown, hts⟩ (p_definition l G hJ hv (nI i)) (cwV 1 hts gL_areAlike_X5_definition rfl rfl rfl (by decide +kernel) ⟨Nat.le_of_ble_eq_true rfl, Nat.le_of_ble_eq_true rfl⟩) hK hE hA (show mM G A s.heap h Hp _ from ⟨hh, hM.2⟩) hM.1 hap.symm (mm_recv hK (show mM G A s.heap h Hp _ from ⟨hh, hM.2⟩) hoq (q := (RX5, TX5, 7)) rfl) rfl hl.1 rfl (Nat.le_of_ble_eq_true rfl) dL_areAlike_85 ⟨Nat.le_of_ble_eq_true rfl, Nat.le_of_ble_eq_true rfl⟩ (fun v h Hp lcs hp hM hh hap => ?_)
            obtain ⟨rfl, hJ⟩ := hp
            obtain ⟨vsq, hoq⟩ := hJ.obj
            have hM8 := hM
            have hM : mM G A s.heap f Hp _ := ⟨hh, hM8.2⟩
            have hh := hM8.1
            have hap := hap.symm
            refine lv_icmp_ne (tgt := 108) hx hb dL_areAlike_88 (by decide) (fun hq9 => absurd hq9 (not_not_intro rfl)) (fun _ => ?_)
            refine lv_aload_n hx hb dL_areAlike_91 rfl (lv_at hl 0 rfl) ?_
            refine lv_iload_n hx hb dL_areAlike_92 rfl (lv_at hl 3 rfl) ?_
            refine mm_V2 (As := [.int (nI i)]) (rest := []) ⟨hx, hb, hml, hown, hts⟩ (p_holds l G hI hv (nI i)) (cwV 1 hts gL_areAlike_X5_holds rfl rfl rfl (by decide +kernel) ⟨Nat.le_of_ble_eq_true rfl, Nat.le_of_ble_eq_true rfl⟩) hK hE hA hM hh hap (mm_recv hK hM ho (q := (RX5, TX5, 7)) rfl) rfl hl.1 rfl (Nat.le_of_ble_eq_true rfl) dL_areAlike_93 ⟨Nat.le_of_ble_eq_true rfl, Nat.le_of_ble_eq_true rfl⟩ (fun v f Hp lcs hp hM hh hap => ?_)
            obtain ⟨rfl, hI⟩ := hp
            obtain ⟨vso, ho⟩ := hI.obj
            refine lv_aload_n hx hb dL_areAlike_96 rfl (lv_at hl 1 rfl) ?_
            refine lv_iload_n hx hb dL_areAlike_97 rfl (lv_at hl 3 rfl) ?_
            refine mm_V2 (As := [.int (nI i)]) (rest := [.int (a6_holds S n (nI i))]) ⟨hx, hb, hml, hown, hts⟩ (p_holds l G hJ hv (nI i)) (cwV 1 hts gL_areAlike_X5_holds rfl rfl rfl (by decide +kernel) ⟨Nat.le_of_ble_eq_true rfl, Nat.le_of_ble_eq_true rfl⟩) hK hE hA (show mM G A s.heap h Hp _ from ⟨hh, hM.2⟩) hM.1 hap.symm (mm_recv hK (show mM G A s.heap h Hp _ from ⟨hh, hM.2⟩) hoq (q := (RX5, TX5, 7)) rfl) rfl hl.1 rfl (Nat.le_of_ble_eq_true rfl) dL_areAlike_98 ⟨Nat.le_of_ble_eq_true rfl, Nat.le_of_ble_eq_true rfl⟩ (fun v h Hp lcs hp hM hh hap => ?_)
            obtain ⟨rfl, hJ⟩ := hp
            obtain ⟨vsq, hoq⟩ := hJ.obj
            have hM8 := hM
            have hM : mM G A s.heap f Hp _ := ⟨hh, hM8.2⟩
            have hh := hM8.1
            have hap := hap.symm
            refine lv_icmp_ne (tgt := 108) hx hb dL_areAlike_101 (by decide) (fun hq9 => absurd hq9 (not_not_intro rfl)) (fun _ => ?_)
            refine lv_iconst (v := (nI 1)) hx hb dL_areAlike_104 (by decide +kernel) ?_
            refine lv_goto (tgt := 109) hx hb dL_areAlike_105 (by decide) ?_
            refine lv_istore_n (lv' := [(2, .int (nI 1)), (0, .ref o), (1, .ref q), (3, .int (nI i))]) hx hb dL_areAlike_109 rfl hl (by decide) rfl (fun ls hl => ?_)
            refine lv_iinc (v := (nI (i + 1))) (lv' := [(3, .int (nI (i + 1))), (2, .int (nI 1)), (0, .ref o), (1, .ref q)]) hx hb dL_areAlike_110 hl (k := 3) rfl (nI_add _ _) (by decide) rfl (fun ls hl => ?_)
            refine lv_goto (tgt := 68) hx hb dL_areAlike_113 (by decide) ?_
            exact ihB (i + 1) _ _ _ _ ls (by omega) hI hJ hh hap (by omega) hM (lv_sub hl [2, 3, 1, 0] rfl)
        exact loopY (6 + 1) 0 _ _ _ _ ls (Nat.zero_le _) hI hJ hh hap (by omega) hM (lv_sub hl [1, 2, 3, 0] rfl)
      refine lv_iload_n hx hb dL_areAlike_24 rfl (lv_at hl 2 rfl) ?_
      refine lv_if_eq (tgt := 58) hx hb dL_areAlike_25 (by decide) (fun hq9 => absurd hq9 (by decide)) (fun _ => ?_)
      refine lv_aload_n hx hb dL_areAlike_28 rfl (lv_at hl 0 rfl) ?_
      refine lv_iload_n hx hb dL_areAlike_29 rfl (lv_at hl 3 rfl) ?_
      refine mm_V2 (As := [.int (nI i)]) (rest := []) ⟨hx, hb, hml, hown, hts⟩ (p_answer l G hI hv (r := i) (by omega)) (cwV 1 hts gL_areAlike_X5_answer rfl rfl rfl (by decide +kernel) ⟨Nat.le_of_ble_eq_true rfl, Nat.le_of_ble_eq_true rfl⟩) hK hE hA hM hh hap (mm_recv hK hM ho (q := (RX5, TX5, 7)) rfl) rfl hl.1 rfl (Nat.le_of_ble_eq_true rfl) dL_areAlike_30 ⟨Nat.le_of_ble_eq_true rfl, Nat.le_of_ble_eq_true rfl⟩ (fun v f Hp lcs hp hM hh hap => ?_)
      obtain ⟨rfl, hI⟩ := hp
      obtain ⟨vso, ho⟩ := hI.obj
      refine lv_aload_n hx hb dL_areAlike_33 rfl (lv_at hl 1 rfl) ?_
      refine lv_iload_n hx hb dL_areAlike_34 rfl (lv_at hl 3 rfl) ?_
      refine mm_V2 (As := [.int (nI i)]) (rest := [.int (ansI S (-100005) n (nI i))]) ⟨hx, hb, hml, hown, hts⟩ (p_answer l G hJ hv (r := i) (by omega)) (cwV 1 hts gL_areAlike_X5_answer rfl rfl rfl (by decide +kernel) ⟨Nat.le_of_ble_eq_true rfl, Nat.le_of_ble_eq_true rfl⟩) hK hE hA (show mM G A s.heap h Hp _ from ⟨hh, hM.2⟩) hM.1 hap.symm (mm_recv hK (show mM G A s.heap h Hp _ from ⟨hh, hM.2⟩) hoq (q := (RX5, TX5, 7)) rfl) rfl hl.1 rfl (Nat.le_of_ble_eq_true rfl) dL_areAlike_35 ⟨Nat.le_of_ble_eq_true rfl, Nat.le_of_ble_eq_true rfl⟩ (fun v h Hp lcs hp hM hh hap => ?_)
      obtain ⟨rfl, hJ⟩ := hp
      obtain ⟨vsq, hoq⟩ := hJ.obj
      have hM8 := hM
      have hM : mM G A s.heap f Hp _ := ⟨hh, hM8.2⟩
      have hh := hM8.1
      have hap := hap.symm
      refine lv_icmp_ne (tgt := 58) hx hb dL_areAlike_38 (by decide) (fun hq9 => absurd hq9 (not_not_intro rfl)) (fun _ => ?_)
      refine lv_aload_n hx hb dL_areAlike_41 rfl (lv_at hl 0 rfl) ?_
      refine lv_iload_n hx hb dL_areAlike_42 rfl (lv_at hl 3 rfl) ?_
      refine mm_V2 (As := [.int (nI i)]) (rest := []) ⟨hx, hb, hml, hown, hts⟩ (p_overridden l G hI hv (r := i) (by omega)) (cwV 1 hts gL_areAlike_X5_overridden rfl rfl rfl (by decide +kernel) ⟨Nat.le_of_ble_eq_true rfl, Nat.le_of_ble_eq_true rfl⟩) hK hE hA hM hh hap (mm_recv hK hM ho (q := (RX5, TX5, 7)) rfl) rfl hl.1 rfl (Nat.le_of_ble_eq_true rfl) dL_areAlike_43 ⟨Nat.le_of_ble_eq_true rfl, Nat.le_of_ble_eq_true rfl⟩ (fun v f Hp lcs hp hM hh hap => ?_)
      obtain ⟨rfl, hI⟩ := hp
      obtain ⟨vso, ho⟩ := hI.obj
      refine lv_aload_n hx hb dL_areAlike_46 rfl (lv_at hl 1 rfl) ?_
      refine lv_iload_n hx hb dL_areAlike_47 rfl (lv_at hl 3 rfl) ?_
      refine mm_V2 (As := [.int (nI i)]) (rest := [.int (nI (cntN (fun k => appB S (-100005) k (nI i) && !reaB S (-100005) n k (nI i)) n))]) ⟨hx, hb, hml, hown, hts⟩ (p_overridden l G hJ hv (r := i) (by omega)) (cwV 1 hts gL_areAlike_X5_overridden rfl rfl rfl (by decide +kernel) ⟨Nat.le_of_ble_eq_true rfl, Nat.le_of_ble_eq_true rfl⟩) hK hE hA (show mM G A s.heap h Hp _ from ⟨hh, hM.2⟩) hM.1 hap.symm (mm_recv hK (show mM G A s.heap h Hp _ from ⟨hh, hM.2⟩) hoq (q := (RX5, TX5, 7)) rfl) rfl hl.1 rfl (Nat.le_of_ble_eq_true rfl) dL_areAlike_48 ⟨Nat.le_of_ble_eq_true rfl, Nat.le_of_ble_eq_true rfl⟩ (fun v h Hp lcs hp hM hh hap => ?_)
      obtain ⟨rfl, hJ⟩ := hp
      obtain ⟨vsq, hoq⟩ := hJ.obj
      have hM8 := hM
      have hM : mM G A s.heap f Hp _ := ⟨hh, hM8.2⟩
      have hh := hM8.1
      have hap := hap.symm
      refine lv_icmp_ne (tgt := 58) hx hb dL_areAlike_51 (by decide) (fun hq9 => absurd hq9 (not_not_intro rfl)) (fun _ => ?_)
      refine lv_iconst (v := (nI 1)) hx hb dL_areAlike_54 (by decide +kernel) ?_
      refine lv_goto (tgt := 59) hx hb dL_areAlike_55 (by decide) ?_
      refine lv_istore_n (lv' := [(2, .int (nI 1)), (0, .ref o), (1, .ref q), (3, .int (nI i))]) hx hb dL_areAlike_59 rfl hl (by decide) rfl (fun ls hl => ?_)
      refine lv_iinc (v := (nI (i + 1))) (lv' := [(3, .int (nI (i + 1))), (2, .int (nI 1)), (0, .ref o), (1, .ref q)]) hx hb dL_areAlike_60 hl (k := 3) rfl (nI_add _ _) (by decide) rfl (fun ls hl => ?_)
      refine lv_goto (tgt := 19) hx hb dL_areAlike_63 (by decide) ?_
      exact ih (i + 1) _ _ _ _ ls (by omega) hI hJ hh hap (by omega) hM (lv_sub hl [2, 3, 1, 0] rfl)
  exact loopX (4 + 1) 0 _ _ _ _ ls (Nat.zero_le _) hI hJ hh hap (by omega) hM (lv_sub hl [2, 3, 1, 0] rfl)
