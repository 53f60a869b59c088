/-! class InterruptInn: a text is carried out -/

def q_X2_numberBetweenB_5 (S : Sv) (fr : Nat) (en : Nat) (j : Nat) (σ : Int32) : Int32 :=
  let v1 : Int32 := σ
  let x3 : Int32 := p_X2_signAt S (nI (fr + j))
  ((10 * v1) + x3) - 48
def p_X2_numberBetweenB (S : Sv) (fr : Nat) (en : Nat) : Int32 :=
  let v1 : Int32 := (itN (q_X2_numberBetweenB_5 S fr en) (en - fr) (0))
  (v1 : Int32)
set_option maxHeartbeats 4000000 in
set_option maxRecDepth 100000 in
theorem c_X2_numberBetweenB (l : Launch) (E : mE) (μ : Mu) (S : Sv) (xf : Int32) (fr : Nat) (exf : xf = nI fr) (xe : Int32) (en : Nat) (exe : xe = nI en) (hp : Bn (S 5 1) 80) (hch : ∀ j, j < 80 → narrow .char (.int (S 6 j)) = .int (S 6 j)) (hfe : fr ≤ en + 1) (he : en ≤ 80) : CtI l E yX2_numberBetween cX2_numberBetween 5 (some .int) 2 43 [.ref (ea E 11 5), .int xf, .int xe] (fo μ 11 S) (fun x μ' => x = p_X2_numberBetweenB S fr en ∧ μ' = (fo μ 11 S)) := by
  subst exf
  subst exe
  refine jMet (by decide +kernel) (Nat.le_of_ble_eq_true rfl) ?_
  intro p e s m below meth c ls F hT hr0 hlk hW hl
  have F : CallFix p m c cX2_numberBetween 5 s _ TB RX2 := F
  have hl : lv_has ls 5 [(0, .ref (ea E 11 5)), (1, .int (nI fr)), (2, .int (nI en))] := hl
  refine lv_iconst (v := 0) F.1 F.2.1 dX2_numberBetween_0 (by decide) ?_
  refine lv_istore_n (lv' := [(3, .int 0), (0, .ref (ea E 11 5)), (1, .int (nI fr)), (2, .int (nI en))]) F.1 F.2.1 dX2_numberBetween_1 rfl hl (by decide) rfl (fun ls hl => ?_)
  refine lv_iload_n F.1 F.2.1 dX2_numberBetween_2 rfl (lv_at hl 2 rfl) ?_
  refine lv_istore (lv' := [(4, .int (nI fr)), (3, .int 0), (0, .ref (ea E 11 5)), (1, .int (nI fr)), (2, .int (nI en))]) F.1 F.2.1 dX2_numberBetween_3 hl (by decide) rfl (fun ls hl => ?_)
  have hL2 : ∀ (fu j : Nat) (v1 : Int32) (H : Heap) (locs : List Loc) (ls : Array Slot), j + fu = en - fr → (v1) = itN (q_X2_numberBetweenB_5 S fr en) j (0) → Wd E s H locs (fo μ 11 S) → lv_has ls 5 [(4, .int (nI (fr + j))), (3, .int v1), (0, .ref (ea E 11 5)), (1, .int (nI fr)), (2, .int (nI en))] → W p l e (rmO 2 43) s m ([.ref (ea E 11 5), .int (nI fr), .int (nI en)] : List Value).toArray below meth c H locs 0 0 (MQ below (va_Qi (fun x μ' => x = p_X2_numberBetweenB S fr en ∧ μ' = (fo μ 11 S)) (fun μ' t => MB E μ' t.heap) (AA E)) ([.ref (ea E 11 5), .int (nI fr), .int (nI en)] : List Value).toArray s 0 0 (AA E)) (F0 m 5 ls []) := by
    intro fu
    induction fu with
    | zero =>
      intro j v1 H locs ls hj hs  hW hl
      obtain rfl : j = en - fr := by omega
      have ev1 := hs
      refine lv_iload F.1 F.2.1 dX2_numberBetween_5 (lv_at hl 0 rfl) ?_
      refine lv_iload_n F.1 F.2.1 dX2_numberBetween_7 rfl (lv_at hl 4 rfl) ?_
      refine lv_icmp_ge (tgt := 32) F.1 F.2.1 dX2_numberBetween_8 (by decide) (fun h3 => ?_) (fun h3 => ?_)
      · refine lv_iload_n F.1 F.2.1 dX2_numberBetween_32 rfl (lv_at hl 1 rfl) ?_
        have hq : (v1 : Int32) = p_X2_numberBetweenB S fr en := by
          subst ev1
          exact (rfl).symm
        exact jri F hr0 hlk hW rfl dX2_numberBetween_33 ⟨hq, rfl⟩
      · exact absurd (c_le rfl rfl (by omega) (by omega)) h3
    | succ fu ih =>
      intro j v1 H locs ls hj hs  hW hl
      refine lv_iload F.1 F.2.1 dX2_numberBetween_5 (lv_at hl 0 rfl) ?_
      refine lv_iload_n F.1 F.2.1 dX2_numberBetween_7 rfl (lv_at hl 4 rfl) ?_
      refine lv_icmp_ge (tgt := 32) F.1 F.2.1 dX2_numberBetween_8 (by decide) (fun h2 => ?_) (fun h2 => ?_)
      · exact absurd h2 (c_nle rfl rfl (by omega) (by omega))
      · refine lv_bipush (v := 10) F.1 F.2.1 dX2_numberBetween_11 (by decide) ?_
        refine lv_iload_n F.1 F.2.1 dX2_numberBetween_13 rfl (lv_at hl 1 rfl) ?_
        refine lv_imul F.1 F.2.1 dX2_numberBetween_14 ?_
        refine lv_aload_n F.1 F.2.1 dX2_numberBetween_15 rfl (lv_at hl 2 rfl) ?_
        refine lv_iload F.1 F.2.1 dX2_numberBetween_16 (lv_at hl 0 rfl) ?_
        refine jcip (jrunV (As := [.int (nI (fr + j))]) (rest := [.int (10 * v1)]) F hT hW yc_X2_signAt yv_X2_signAt ml_X2_45 oH5 (by decide) rfl (c_X2_signAt l E μ S (nI (fr + j)) (by first | assumption | omega) (by first | assumption | omega)) rfl hl.1 ⟨Nat.le_of_ble_eq_true rfl, Nat.le_of_ble_eq_true rfl⟩ rfl (Nat.le_of_ble_eq_true rfl) ⟨Nat.le_refl _, Nat.le_refl _⟩ dX2_numberBetween_18) hW (fun x3 H locs ex3 hW => ?_)
        refine lv_iadd F.1 F.2.1 dX2_numberBetween_21 ?_
        refine lv_bipush (v := 48) F.1 F.2.1 dX2_numberBetween_22 (by decide) ?_
        refine lv_isub F.1 F.2.1 dX2_numberBetween_24 ?_
        refine lv_istore_n (lv' := [(3, .int (((10 * v1) + x3) - 48)), (4, .int (nI (fr + j))), (0, .ref (ea E 11 5)), (1, .int (nI fr)), (2, .int (nI en))]) F.1 F.2.1 dX2_numberBetween_25 rfl hl (by decide) rfl (fun ls hl => ?_)
        refine lv_iinc (v := nI (fr + j + 1)) (lv' := [(4, .int (nI (fr + j + 1))), (3, .int (((10 * v1) + x3) - 48)), (0, .ref (ea E 11 5)), (1, .int (nI fr)), (2, .int (nI en))]) F.1 F.2.1 dX2_numberBetween_26 hl (k := 1) rfl (ia rfl rfl) (by decide) rfl (fun ls hl => ?_)
        refine lv_goto (tgt := 5) F.1 F.2.1 dX2_numberBetween_29 (by decide) ?_
        subst ex3
        exact ih (j + 1) _ _ _ _ (by omega) (by rw [itN_s, ← hs]; exact (rfl).symm) hW (lv_sub hl [0, 1, 2, 3, 4] rfl)
  exact hL2 (en - fr) 0 0 _ _ _ (by omega) rfl hW (lv_sub hl [0, 1, 2, 3, 4] rfl)

def p_X6_obey (μ : Mu) (sa : Nat) (en : Nat) : Int32 × Mu :=
  let x1 : Int32 := p_X2_signAt (μ 11) ((nI sa) + 1)
  let x2 : Int32 := p_X2_signAt (μ 11) (nI sa)
  if x2 = 104 then
    let x3 : Int32 := p_X2_signAt (μ 11) ((nI sa) + 2)
    let x4 : Int32 := (p_X3_holdLine (μ 0) (x1 - 65) (x3 - 48) 1).1
    let S5 : Mu := fo μ 0 (p_X3_holdLine (μ 0) (x1 - 65) (x3 - 48) 1).2
    ((x4 : Int32), S5)
  else
    if x2 = 105 then
      let x6 : Int32 := p_X2_numberBetweenB (μ 11) (sa + 1) en
      let x7 : Int32 := (p_X3_passTicks (μ 0) x6).1
      let S8 : Mu := fo μ 0 (p_X3_passTicks (μ 0) x6).2
      ((x7 : Int32), S8)
    else
      if x2 = 106 then
        let x9 : Int32 := p_X2_numberBetweenB (μ 11) (sa + 1) en
        let x10 : Int32 := (p_X3_passTicks (μ 0) x9).1
        let S11 : Mu := fo μ 0 (p_X3_passTicks (μ 0) x9).2
        ((x10 : Int32), S11)
      else
        if x2 = 107 then
          let x12 : Int32 := p_X2_numberBetweenB (μ 11) (sa + 1) en
          let x13 : Int32 := (p_X3_passTicks (μ 0) x12).1
          let S14 : Mu := fo μ 0 (p_X3_passTicks (μ 0) x12).2
          ((x13 : Int32), S14)
        else
          if x2 = 108 then
            let x15 : Int32 := p_X2_signAt (μ 11) ((nI sa) + 2)
            let x16 : Int32 := (p_X3_holdLine (μ 0) (x1 - 65) (x15 - 48) 0).1
            let S17 : Mu := fo μ 0 (p_X3_holdLine (μ 0) (x1 - 65) (x15 - 48) 0).2
            ((x16 : Int32), S17)
          else
            if x2 = 109 then
              let x18 : Int32 := (p_X3_maskLine (μ 0) (x1 - 65) 1).1
              let S19 : Mu := fo μ 0 (p_X3_maskLine (μ 0) (x1 - 65) 1).2
              ((x18 : Int32), S19)
            else
              if x2 = 110 then
                let x20 : Int32 := (p_X3_maskLine (μ 0) (x1 - 65) 0).1
                let S21 : Mu := fo μ 0 (p_X3_maskLine (μ 0) (x1 - 65) 0).2
                ((x20 : Int32), S21)
              else
                if x2 = 111 then
                  let x22 : Int32 := p_X2_numberBetweenB (μ 11) (sa + 1) en
                  let x23 : Int32 := (p_X3_passTicks (μ 0) x22).1
                  let S24 : Mu := fo μ 0 (p_X3_passTicks (μ 0) x22).2
                  ((x23 : Int32), S24)
                else
                  if x2 = 112 then
                    let x25 : Int32 := p_X2_numberBetweenB (μ 11) (sa + 1) en
                    let x26 : Int32 := (p_X3_passTicks (μ 0) x25).1
                    let S27 : Mu := fo μ 0 (p_X3_passTicks (μ 0) x25).2
                    ((x26 : Int32), S27)
                  else
                    if x2 = 113 then
                      let x28 : Int32 := p_X2_numberBetweenB (μ 11) (sa + 1) en
                      let x29 : Int32 := (p_X3_passTicks (μ 0) x28).1
                      let S30 : Mu := fo μ 0 (p_X3_passTicks (μ 0) x28).2
                      ((x29 : Int32), S30)
                    else
                      if x2 = 114 then
                        let x31 : Int32 := p_X2_numberBetweenB (μ 11) (sa + 1) en
                        let x32 : Int32 := (p_X3_passTicks (μ 0) x31).1
                        let S33 : Mu := fo μ 0 (p_X3_passTicks (μ 0) x31).2
                        ((x32 : Int32), S33)
                      else
                        if x2 = 115 then
                          let x34 : Int32 := p_X2_numberBetweenB (μ 11) (sa + 1) en
                          let x35 : Int32 := (p_X3_passTicks (μ 0) x34).1
                          let S36 : Mu := fo μ 0 (p_X3_passTicks (μ 0) x34).2
                          ((x35 : Int32), S36)
                        else
                          if x2 = 116 then
                            let x37 : Int32 := p_X2_numberBetweenB (μ 11) (sa + 1) en
                            let x38 : Int32 := (p_X3_passTicks (μ 0) x37).1
                            let S39 : Mu := fo μ 0 (p_X3_passTicks (μ 0) x37).2
                            ((x38 : Int32), S39)
                          else
                            if x2 = 117 then
                              let x40 : Int32 := (p_X3_raiseLine (μ 0) (x1 - 65)).1
                              let S41 : Mu := fo μ 0 (p_X3_raiseLine (μ 0) (x1 - 65)).2
                              ((x40 : Int32), S41)
                            else
                              let x42 : Int32 := p_X2_numberBetweenB (μ 11) (sa + 1) en
                              let x43 : Int32 := (p_X3_passTicks (μ 0) x42).1
                              let S44 : Mu := fo μ 0 (p_X3_passTicks (μ 0) x42).2
                              ((x43 : Int32), S44)

set_option maxHeartbeats 4000000 in
set_option maxRecDepth 100000 in
theorem c_X6_obey (l : Launch) (E : mE) (μ : Mu) (xs : Int32) (sa : Nat) (exs : xs = nI sa) (xe : Int32) (en : Nat) (exe : xe = nI en) (wf0 : Wf (μ 0)) (hp : Bn (μ 11 5 1) 80) (hch : ∀ j, j < 80 → narrow .char (.int (μ 11 6 j)) = .int (μ 11 6 j)) (hse : sa ≤ en) (hen : en ≤ 80) : CtI l E yX6_obey cX6_obey 4 (some .int) 5 115 [.ref (ea E 11 0), .int xs, .int xe] μ (fun x μ' => x = (p_X6_obey μ sa en).1 ∧ μ' = (p_X6_obey μ sa en).2) := by
  subst exs
  subst exe
  refine jMet (by decide +kernel) (Nat.le_of_ble_eq_true rfl) ?_
  intro p e s m below meth c ls F hT hr0 hlk hW hl
  have F : CallFix p m c cX6_obey 4 s _ TB RX6 := F
  have hl : lv_has ls 4 [(0, .ref (ea E 11 0)), (1, .int (nI sa)), (2, .int (nI en))] := hl
  refine lv_aload_n F.1 F.2.1 dX6_obey_0 rfl (lv_at hl 0 rfl) ?_
  refine jgetR F hT hW fw_X6_37 oH0 (by decide) rfl dX6_obey_1 ?_
  refine lv_iload_n F.1 F.2.1 dX6_obey_4 rfl (lv_at hl 1 rfl) ?_
  refine lv_iconst (v := 1) F.1 F.2.1 dX6_obey_5 (by decide) ?_
  refine lv_iadd F.1 F.2.1 dX6_obey_6 ?_
  refine jcipM (jrunV (As := [.int ((nI sa) + 1)]) (rest := []) F hT (hW.foc 11) yc_X2_signAt yv_X2_signAt ml_X6_155 oH5 (by decide) rfl (c_X2_signAt l E μ (μ 11) ((nI sa) + 1) hp hch) rfl hl.1 ⟨Nat.le_of_ble_eq_true rfl, Nat.le_of_ble_eq_true rfl⟩ rfl (Nat.le_of_ble_eq_true rfl) ⟨Nat.le_refl _, Nat.le_refl _⟩ dX6_obey_7) hW (fun x1 H locs ex1 hW => ?_)
  refine lv_bipush (v := 65) F.1 F.2.1 dX6_obey_10 (by decide) ?_
  refine lv_isub F.1 F.2.1 dX6_obey_12 ?_
  refine lv_istore_n (lv' := [(3, .int (x1 - 65)), (0, .ref (ea E 11 0)), (1, .int (nI sa)), (2, .int (nI en))]) F.1 F.2.1 dX6_obey_13 rfl hl (by decide) rfl (fun ls hl => ?_)
  refine lv_aload_n F.1 F.2.1 dX6_obey_14 rfl (lv_at hl 1 rfl) ?_
  refine jgetR F hT hW fw_X6_37 oH0 (by decide) rfl dX6_obey_15 ?_
  refine lv_iload_n F.1 F.2.1 dX6_obey_18 rfl (lv_at hl 2 rfl) ?_
  refine jcipM (jrunV (As := [.int (nI sa)]) (rest := []) F hT (hW.foc 11) yc_X2_signAt yv_X2_signAt ml_X6_155 oH5 (by decide) rfl (c_X2_signAt l E μ (μ 11) (nI sa) hp hch) rfl hl.1 ⟨Nat.le_of_ble_eq_true rfl, Nat.le_of_ble_eq_true rfl⟩ rfl (Nat.le_of_ble_eq_true rfl) ⟨Nat.le_refl _, Nat.le_refl _⟩ dX6_obey_19) hW (fun x2 H locs ex2 hW => ?_)
  rcases Decidable.em (x2 = 104) with hk22_0 | hk22_0
  · refine lv_tableIn (off := 79) (tgt := 101) F.1 F.2.1 dX6_obey_22 (by rw [hk22_0]; decide) (by rw [hk22_0]; decide) (by rw [hk22_0]; rfl) (by decide) ?_
    refine lv_aload_n F.1 F.2.1 dX6_obey_101 rfl (lv_at hl 1 rfl) ?_
    refine jgetR F hT hW fw_X6_10 oH0 (by decide) rfl dX6_obey_102 ?_
    refine lv_iload_n F.1 F.2.1 dX6_obey_105 rfl (lv_at hl 0 rfl) ?_
    refine lv_aload_n F.1 F.2.1 dX6_obey_106 rfl (lv_at hl 1 rfl) ?_
    refine jgetR F hT hW fw_X6_37 oH0 (by decide) rfl dX6_obey_107 ?_
    refine lv_iload_n F.1 F.2.1 dX6_obey_110 rfl (lv_at hl 2 rfl) ?_
    refine lv_iconst (v := 2) F.1 F.2.1 dX6_obey_111 (by decide) ?_
    refine lv_iadd F.1 F.2.1 dX6_obey_112 ?_
    refine jcipM (jrunV (As := [.int ((nI sa) + 2)]) (rest := [.int (x1 - 65), .ref (ea E 0 0)]) F hT (hW.foc 11) yc_X2_signAt yv_X2_signAt ml_X6_155 oH5 (by decide) rfl (c_X2_signAt l E μ (μ 11) ((nI sa) + 2) hp hch) rfl hl.1 ⟨Nat.le_of_ble_eq_true rfl, Nat.le_of_ble_eq_true rfl⟩ rfl (Nat.le_of_ble_eq_true rfl) ⟨Nat.le_refl _, Nat.le_refl _⟩ dX6_obey_113) hW (fun x3 H locs ex3 hW => ?_)
    refine lv_bipush (v := 48) F.1 F.2.1 dX6_obey_116 (by decide) ?_
    refine lv_isub F.1 F.2.1 dX6_obey_118 ?_
    refine lv_iconst (v := 1) F.1 F.2.1 dX6_obey_119 (by decide) ?_
    refine jcifM (jrunV (As := [.int (x1 - 65), .int (x3 - 48), .int 1]) (rest := []) F hT (hW.foc 0) yc_X3_holdLine yv_X3_holdLine ml_X6_67 (oSrv (by decide)) (by decide) rfl (c_X3_holdLine l E μ 0 (by decide) (μ 0) (x1 - 65) (x3 - 48) 1 wf0.1) rfl hl.1 ⟨Nat.le_of_ble_eq_true rfl, Nat.le_of_ble_eq_true rfl⟩ rfl (Nat.le_of_ble_eq_true rfl) ⟨Nat.le_refl _, Nat.le_refl _⟩ dX6_obey_120) hW (fun x4 S5 H locs ex4 eS5 hW => ?_)
    have hq : ((x4 : Int32), S5) = p_X6_obey μ sa en := by
      subst eS5
      subst ex4
      subst ex3
      subst ex2
      subst ex1
      exact (if_pos hk22_0).symm
    exact jri F hr0 hlk hW rfl dX6_obey_123 ⟨congrArg Prod.fst hq, congrArg Prod.snd hq⟩
  · rcases Decidable.em (x2 = 105) with hk22_1 | hk22_1
    · refine lv_tableIn (off := 145) (tgt := 167) F.1 F.2.1 dX6_obey_22 (by rw [hk22_1]; decide) (by rw [hk22_1]; decide) (by rw [hk22_1]; rfl) (by decide) ?_
      refine lv_aload_n F.1 F.2.1 dX6_obey_167 rfl (lv_at hl 1 rfl) ?_
      refine jgetR F hT hW fw_X6_10 oH0 (by decide) rfl dX6_obey_168 ?_
      refine lv_aload_n F.1 F.2.1 dX6_obey_171 rfl (lv_at hl 1 rfl) ?_
      refine jgetR F hT hW fw_X6_37 oH0 (by decide) rfl dX6_obey_172 ?_
      refine lv_iload_n F.1 F.2.1 dX6_obey_175 rfl (lv_at hl 2 rfl) ?_
      refine lv_iconst (v := 1) F.1 F.2.1 dX6_obey_176 (by decide) ?_
      refine lv_iadd F.1 F.2.1 dX6_obey_177 ?_
      refine lv_iload_n F.1 F.2.1 dX6_obey_178 rfl (lv_at hl 3 rfl) ?_
      refine jcipM (jrunV (As := [.int ((nI sa) + 1), .int (nI en)]) (rest := [.ref (ea E 0 0)]) F hT (hW.foc 11) yc_X2_numberBetween yv_X2_numberBetween ml_X6_159 oH5 (by decide) rfl (c_X2_numberBetweenB l E μ (μ 11) ((nI sa) + 1) (sa + 1) (ia rfl (lI 1)) (nI en) en rfl hp hch (by first | assumption | omega) (by first | assumption | omega)) rfl hl.1 ⟨Nat.le_of_ble_eq_true rfl, Nat.le_of_ble_eq_true rfl⟩ rfl (Nat.le_of_ble_eq_true rfl) ⟨Nat.le_refl _, Nat.le_refl _⟩ dX6_obey_179) hW (fun x6 H locs ex6 hW => ?_)
      refine jcifM (jrunV (As := [.int x6]) (rest := []) F hT (hW.foc 0) yc_X3_passTicks yv_X3_passTicks ml_X6_76 (oSrv (by decide)) (by decide) rfl (c_X3_passTicks l E μ 0 (by decide) (μ 0) x6 wf0) rfl hl.1 ⟨Nat.le_of_ble_eq_true rfl, Nat.le_of_ble_eq_true rfl⟩ rfl (Nat.le_of_ble_eq_true rfl) ⟨Nat.le_refl _, Nat.le_refl _⟩ dX6_obey_182) hW (fun x7 S8 H locs ex7 eS8 hW => ?_)
      have hq : ((x7 : Int32), S8) = p_X6_obey μ sa en := by
        subst eS8
        subst ex7
        subst ex6
        subst ex2
        subst ex1
        exact ((if_neg hk22_0).trans (if_pos hk22_1)).symm
      exact jri F hr0 hlk hW rfl dX6_obey_185 ⟨congrArg Prod.fst hq, congrArg Prod.snd hq⟩
    · rcases Decidable.em (x2 = 106) with hk22_2 | hk22_2
      · refine lv_tableIn (off := 145) (tgt := 167) F.1 F.2.1 dX6_obey_22 (by rw [hk22_2]; decide) (by rw [hk22_2]; decide) (by rw [hk22_2]; rfl) (by decide) ?_
        refine lv_aload_n F.1 F.2.1 dX6_obey_167 rfl (lv_at hl 1 rfl) ?_
        refine jgetR F hT hW fw_X6_10 oH0 (by decide) rfl dX6_obey_168 ?_
        refine lv_aload_n F.1 F.2.1 dX6_obey_171 rfl (lv_at hl 1 rfl) ?_
        refine jgetR F hT hW fw_X6_37 oH0 (by decide) rfl dX6_obey_172 ?_
        refine lv_iload_n F.1 F.2.1 dX6_obey_175 rfl (lv_at hl 2 rfl) ?_
        refine lv_iconst (v := 1) F.1 F.2.1 dX6_obey_176 (by decide) ?_
        refine lv_iadd F.1 F.2.1 dX6_obey_177 ?_
        refine lv_iload_n F.1 F.2.1 dX6_obey_178 rfl (lv_at hl 3 rfl) ?_
        refine jcipM (jrunV (As := [.int ((nI sa) + 1), .int (nI en)]) (rest := [.ref (ea E 0 0)]) F hT (hW.foc 11) yc_X2_numberBetween yv_X2_numberBetween ml_X6_159 oH5 (by decide) rfl (c_X2_numberBetweenB l E μ (μ 11) ((nI sa) + 1) (sa + 1) (ia rfl (lI 1)) (nI en) en rfl hp hch (by first | assumption | omega) (by first | assumption | omega)) rfl hl.1 ⟨Nat.le_of_ble_eq_true rfl, Nat.le_of_ble_eq_true rfl⟩ rfl (Nat.le_of_ble_eq_true rfl) ⟨Nat.le_refl _, Nat.le_refl _⟩ dX6_obey_179) hW (fun x9 H locs ex9 hW => ?_)
        refine jcifM (jrunV (As := [.int x9]) (rest := []) F hT (hW.foc 0) yc_X3_passTicks yv_X3_passTicks ml_X6_76 (oSrv (by decide)) (by decide) rfl (c_X3_passTicks l E μ 0 (by decide) (μ 0) x9 wf0) rfl hl.1 ⟨Nat.le_of_ble_eq_true rfl, Nat.le_of_ble_eq_true rfl⟩ rfl (Nat.le_of_ble_eq_true rfl) ⟨Nat.le_refl _, Nat.le_refl _⟩ dX6_obey_182) hW (fun x10 S11 H locs ex10 eS11 hW => ?_)
        have hq : ((x10 : Int32), S11) = p_X6_obey μ sa en := by
          subst eS11
          subst ex10
          subst ex9
          subst ex2
          subst ex1
          exact ((if_neg hk22_0).trans ((if_neg hk22_1).trans (if_pos hk22_2))).symm
        exact jri F hr0 hlk hW rfl dX6_obey_185 ⟨congrArg Prod.fst hq, congrArg Prod.snd hq⟩
      · rcases Decidable.em (x2 = 107) with hk22_3 | hk22_3
        · refine lv_tableIn (off := 145) (tgt := 167) F.1 F.2.1 dX6_obey_22 (by rw [hk22_3]; decide) (by rw [hk22_3]; decide) (by rw [hk22_3]; rfl) (by decide) ?_
          refine lv_aload_n F.1 F.2.1 dX6_obey_167 rfl (lv_at hl 1 rfl) ?_
          refine jgetR F hT hW fw_X6_10 oH0 (by decide) rfl dX6_obey_168 ?_
          refine lv_aload_n F.1 F.2.1 dX6_obey_171 rfl (lv_at hl 1 rfl) ?_
          refine jgetR F hT hW fw_X6_37 oH0 (by decide) rfl dX6_obey_172 ?_
          refine lv_iload_n F.1 F.2.1 dX6_obey_175 rfl (lv_at hl 2 rfl) ?_
          refine lv_iconst (v := 1) F.1 F.2.1 dX6_obey_176 (by decide) ?_
          refine lv_iadd F.1 F.2.1 dX6_obey_177 ?_
          refine lv_iload_n F.1 F.2.1 dX6_obey_178 rfl (lv_at hl 3 rfl) ?_
          refine jcipM (jrunV (As := [.int ((nI sa) + 1), .int (nI en)]) (rest := [.ref (ea E 0 0)]) F hT (hW.foc 11) yc_X2_numberBetween yv_X2_numberBetween ml_X6_159 oH5 (by decide) rfl (c_X2_numberBetweenB l E μ (μ 11) ((nI sa) + 1) (sa + 1) (ia rfl (lI 1)) (nI en) en rfl hp hch (by first | assumption | omega) (by first | assumption | omega)) rfl hl.1 ⟨Nat.le_of_ble_eq_true rfl, Nat.le_of_ble_eq_true rfl⟩ rfl (Nat.le_of_ble_eq_true rfl) ⟨Nat.le_refl _, Nat.le_refl _⟩ dX6_obey_179) hW (fun x12 H locs ex12 hW => ?_)
          refine jcifM (jrunV (As := [.int x12]) (rest := []) F hT (hW.foc 0) yc_X3_passTicks yv_X3_passTicks ml_X6_76 (oSrv (by decide)) (by decide) rfl (c_X3_passTicks l E μ 0 (by decide) (μ 0) x12 wf0) rfl hl.1 ⟨Nat.le_of_ble_eq_true rfl, Nat.le_of_ble_eq_true rfl⟩ rfl (Nat.le_of_ble_eq_true rfl) ⟨Nat.le_refl _, Nat.le_refl _⟩ dX6_obey_182) hW (fun x13 S14 H locs ex13 eS14 hW => ?_)
          have hq : ((x13 : Int32), S14) = p_X6_obey μ sa en := by
            subst eS14
            subst ex13
            subst ex12
            subst ex2
            subst ex1
            exact ((if_neg hk22_0).trans ((if_neg hk22_1).trans ((if_neg hk22_2).trans (if_pos hk22_3)))).symm
          exact jri F hr0 hlk hW rfl dX6_obey_185 ⟨congrArg Prod.fst hq, congrArg Prod.snd hq⟩
        · rcases Decidable.em (x2 = 108) with hk22_4 | hk22_4
          · refine lv_tableIn (off := 102) (tgt := 124) F.1 F.2.1 dX6_obey_22 (by rw [hk22_4]; decide) (by rw [hk22_4]; decide) (by rw [hk22_4]; rfl) (by decide) ?_
            refine lv_aload_n F.1 F.2.1 dX6_obey_124 rfl (lv_at hl 1 rfl) ?_
            refine jgetR F hT hW fw_X6_10 oH0 (by decide) rfl dX6_obey_125 ?_
            refine lv_iload_n F.1 F.2.1 dX6_obey_128 rfl (lv_at hl 0 rfl) ?_
            refine lv_aload_n F.1 F.2.1 dX6_obey_129 rfl (lv_at hl 1 rfl) ?_
            refine jgetR F hT hW fw_X6_37 oH0 (by decide) rfl dX6_obey_130 ?_
            refine lv_iload_n F.1 F.2.1 dX6_obey_133 rfl (lv_at hl 2 rfl) ?_
            refine lv_iconst (v := 2) F.1 F.2.1 dX6_obey_134 (by decide) ?_
            refine lv_iadd F.1 F.2.1 dX6_obey_135 ?_
            refine jcipM (jrunV (As := [.int ((nI sa) + 2)]) (rest := [.int (x1 - 65), .ref (ea E 0 0)]) F hT (hW.foc 11) yc_X2_signAt yv_X2_signAt ml_X6_155 oH5 (by decide) rfl (c_X2_signAt l E μ (μ 11) ((nI sa) + 2) hp hch) rfl hl.1 ⟨Nat.le_of_ble_eq_true rfl, Nat.le_of_ble_eq_true rfl⟩ rfl (Nat.le_of_ble_eq_true rfl) ⟨Nat.le_refl _, Nat.le_refl _⟩ dX6_obey_136) hW (fun x15 H locs ex15 hW => ?_)
            refine lv_bipush (v := 48) F.1 F.2.1 dX6_obey_139 (by decide) ?_
            refine lv_isub F.1 F.2.1 dX6_obey_141 ?_
            refine lv_iconst (v := 0) F.1 F.2.1 dX6_obey_142 (by decide) ?_
            refine jcifM (jrunV (As := [.int (x1 - 65), .int (x15 - 48), .int 0]) (rest := []) F hT (hW.foc 0) yc_X3_holdLine yv_X3_holdLine ml_X6_67 (oSrv (by decide)) (by decide) rfl (c_X3_holdLine l E μ 0 (by decide) (μ 0) (x1 - 65) (x15 - 48) 0 wf0.1) rfl hl.1 ⟨Nat.le_of_ble_eq_true rfl, Nat.le_of_ble_eq_true rfl⟩ rfl (Nat.le_of_ble_eq_true rfl) ⟨Nat.le_refl _, Nat.le_refl _⟩ dX6_obey_143) hW (fun x16 S17 H locs ex16 eS17 hW => ?_)
            have hq : ((x16 : Int32), S17) = p_X6_obey μ sa en := by
              subst eS17
              subst ex16
              subst ex15
              subst ex2
              subst ex1
              exact ((if_neg hk22_0).trans ((if_neg hk22_1).trans ((if_neg hk22_2).trans ((if_neg hk22_3).trans (if_pos hk22_4))))).symm
            exact jri F hr0 hlk hW rfl dX6_obey_146 ⟨congrArg Prod.fst hq, congrArg Prod.snd hq⟩
          · rcases Decidable.em (x2 = 109) with hk22_5 | hk22_5
            · refine lv_tableIn (off := 125) (tgt := 147) F.1 F.2.1 dX6_obey_22 (by rw [hk22_5]; decide) (by rw [hk22_5]; decide) (by rw [hk22_5]; rfl) (by decide) ?_
              refine lv_aload_n F.1 F.2.1 dX6_obey_147 rfl (lv_at hl 1 rfl) ?_
              refine jgetR F hT hW fw_X6_10 oH0 (by decide) rfl dX6_obey_148 ?_
              refine lv_iload_n F.1 F.2.1 dX6_obey_151 rfl (lv_at hl 0 rfl) ?_
              refine lv_iconst (v := 1) F.1 F.2.1 dX6_obey_152 (by decide) ?_
              refine jcifM (jrunV (As := [.int (x1 - 65), .int 1]) (rest := []) F hT (hW.foc 0) yc_X3_maskLine yv_X3_maskLine ml_X6_70 (oSrv (by decide)) (by decide) rfl (c_X3_maskLine l E μ 0 (by decide) (μ 0) (x1 - 65) 1 wf0.1) rfl hl.1 ⟨Nat.le_of_ble_eq_true rfl, Nat.le_of_ble_eq_true rfl⟩ rfl (Nat.le_of_ble_eq_true rfl) ⟨Nat.le_refl _, Nat.le_refl _⟩ dX6_obey_153) hW (fun x18 S19 H locs ex18 eS19 hW => ?_)
              have hq : ((x18 : Int32), S19) = p_X6_obey μ sa en := by
                subst eS19
                subst ex18
                subst ex2
                subst ex1
                exact ((if_neg hk22_0).trans ((if_neg hk22_1).trans ((if_neg hk22_2).trans ((if_neg hk22_3).trans ((if_neg hk22_4).trans (if_pos hk22_5)))))).symm
              exact jri F hr0 hlk hW rfl dX6_obey_156 ⟨congrArg Prod.fst hq, congrArg Prod.snd hq⟩
            · rcases Decidable.em (x2 = 110) with hk22_6 | hk22_6
              · refine lv_tableIn (off := 135) (tgt := 157) F.1 F.2.1 dX6_obey_22 (by rw [hk22_6]; decide) (by rw [hk22_6]; decide) (by rw [hk22_6]; rfl) (by decide) ?_
                refine lv_aload_n F.1 F.2.1 dX6_obey_157 rfl (lv_at hl 1 rfl) ?_
                refine jgetR F hT hW fw_X6_10 oH0 (by decide) rfl dX6_obey_158 ?_
                refine lv_iload_n F.1 F.2.1 dX6_obey_161 rfl (lv_at hl 0 rfl) ?_
                refine lv_iconst (v := 0) F.1 F.2.1 dX6_obey_162 (by decide) ?_
                refine jcifM (jrunV (As := [.int (x1 - 65), .int 0]) (rest := []) F hT (hW.foc 0) yc_X3_maskLine yv_X3_maskLine ml_X6_70 (oSrv (by decide)) (by decide) rfl (c_X3_maskLine l E μ 0 (by decide) (μ 0) (x1 - 65) 0 wf0.1) rfl hl.1 ⟨Nat.le_of_ble_eq_true rfl, Nat.le_of_ble_eq_true rfl⟩ rfl (Nat.le_of_ble_eq_true rfl) ⟨Nat.le_refl _, Nat.le_refl _⟩ dX6_obey_163) hW (fun x20 S21 H locs ex20 eS21 hW => ?_)
                have hq : ((x20 : Int32), S21) = p_X6_obey μ sa en := by
                  subst eS21
                  subst ex20
                  subst ex2
                  subst ex1
                  exact ((if_neg hk22_0).trans ((if_neg hk22_1).trans ((if_neg hk22_2).trans ((if_neg hk22_3).trans ((if_neg hk22_4).trans ((if_neg hk22_5).trans (if_pos hk22_6))))))).symm
                exact jri F hr0 hlk hW rfl dX6_obey_166 ⟨congrArg Prod.fst hq, congrArg Prod.snd hq⟩
              · rcases Decidable.em (x2 = 111) with hk22_7 | hk22_7
                · refine lv_tableIn (off := 145) (tgt := 167) F.1 F.2.1 dX6_obey_22 (by rw [hk22_7]; decide) (by rw [hk22_7]; decide) (by rw [hk22_7]; rfl) (by decide) ?_
                  refine lv_aload_n F.1 F.2.1 dX6_obey_167 rfl (lv_at hl 1 rfl) ?_
                  refine jgetR F hT hW fw_X6_10 oH0 (by decide) rfl dX6_obey_168 ?_
                  refine lv_aload_n F.1 F.2.1 dX6_obey_171 rfl (lv_at hl 1 rfl) ?_
                  refine jgetR F hT hW fw_X6_37 oH0 (by decide) rfl dX6_obey_172 ?_
                  refine lv_iload_n F.1 F.2.1 dX6_obey_175 rfl (lv_at hl 2 rfl) ?_
                  refine lv_iconst (v := 1) F.1 F.2.1 dX6_obey_176 (by decide) ?_
                  refine lv_iadd F.1 F.2.1 dX6_obey_177 ?_
                  refine lv_iload_n F.1 F.2.1 dX6_obey_178 rfl (lv_at hl 3 rfl) ?_
                  refine jcipM (jrunV (As := [.int ((nI sa) + 1), .int (nI en)]) (rest := [.ref (ea E 0 0)]) F hT (hW.foc 11) yc_X2_numberBetween yv_X2_numberBetween ml_X6_159 oH5 (by decide) rfl (c_X2_numberBetweenB l E μ (μ 11) ((nI sa) + 1) (sa + 1) (ia rfl (lI 1)) (nI en) en rfl hp hch (by first | assumption | omega) (by first | assumption | omega)) rfl hl.1 ⟨Nat.le_of_ble_eq_true rfl, Nat.le_of_ble_eq_true rfl⟩ rfl (Nat.le_of_ble_eq_true rfl) ⟨Nat.le_refl _, Nat.le_refl _⟩ dX6_obey_179) hW (fun x22 H locs ex22 hW => ?_)
                  refine jcifM (jrunV (As := [.int x22]) (rest := []) F hT (hW.foc 0) yc_X3_passTicks yv_X3_passTicks ml_X6_76 (oSrv (by decide)) (by decide) rfl (c_X3_passTicks l E μ 0 (by decide) (μ 0) x22 wf0) rfl hl.1 ⟨Nat.le_of_ble_eq_true rfl, Nat.le_of_ble_eq_true rfl⟩ rfl (Nat.le_of_ble_eq_true rfl) ⟨Nat.le_refl _, Nat.le_refl _⟩ dX6_obey_182) hW (fun x23 S24 H locs ex23 eS24 hW => ?_)
                  have hq : ((x23 : Int32), S24) = p_X6_obey μ sa en := by
                    subst eS24
                    subst ex23
                    subst ex22
                    subst ex2
                    subst ex1
                    exact ((if_neg hk22_0).trans ((if_neg hk22_1).trans ((if_neg hk22_2).trans ((if_neg hk22_3).trans ((if_neg hk22_4).trans ((if_neg hk22_5).trans ((if_neg hk22_6).trans (if_pos hk22_7)))))))).symm
                  exact jri F hr0 hlk hW rfl dX6_obey_185 ⟨congrArg Prod.fst hq, congrArg Prod.snd hq⟩
                · rcases Decidable.em (x2 = 112) with hk22_8 | hk22_8
                  · refine lv_tableIn (off := 145) (tgt := 167) F.1 F.2.1 dX6_obey_22 (by rw [hk22_8]; decide) (by rw [hk22_8]; decide) (by rw [hk22_8]; rfl) (by decide) ?_
                    refine lv_aload_n F.1 F.2.1 dX6_obey_167 rfl (lv_at hl 1 rfl) ?_
                    refine jgetR F hT hW fw_X6_10 oH0 (by decide) rfl dX6_obey_168 ?_
                    refine lv_aload_n F.1 F.2.1 dX6_obey_171 rfl (lv_at hl 1 rfl) ?_
                    refine jgetR F hT hW fw_X6_37 oH0 (by decide) rfl dX6_obey_172 ?_
                    refine lv_iload_n F.1 F.2.1 dX6_obey_175 rfl (lv_at hl 2 rfl) ?_
                    refine lv_iconst (v := 1) F.1 F.2.1 dX6_obey_176 (by decide) ?_
                    refine lv_iadd F.1 F.2.1 dX6_obey_177 ?_
                    refine lv_iload_n F.1 F.2.1 dX6_obey_178 rfl (lv_at hl 3 rfl) ?_
                    refine jcipM (jrunV (As := [.int ((nI sa) + 1), .int (nI en)]) (rest := [.ref (ea E 0 0)]) F hT (hW.foc 11) yc_X2_numberBetween yv_X2_numberBetween ml_X6_159 oH5 (by decide) rfl (c_X2_numberBetweenB l E μ (μ 11) ((nI sa) + 1) (sa + 1) (ia rfl (lI 1)) (nI en) en rfl hp hch (by first | assumption | omega) (by first | assumption | omega)) rfl hl.1 ⟨Nat.le_of_ble_eq_true rfl, Nat.le_of_ble_eq_true rfl⟩ rfl (Nat.le_of_ble_eq_true rfl) ⟨Nat.le_refl _, Nat.le_refl _⟩ dX6_obey_179) hW (fun x25 H locs ex25 hW => ?_)
                    refine jcifM (jrunV (As := [.int x25]) (rest := []) F hT (hW.foc 0) yc_X3_passTicks yv_X3_passTicks ml_X6_76 (oSrv (by decide)) (by decide) rfl (c_X3_passTicks l E μ 0 (by decide) (μ 0) x25 wf0) rfl hl.1 ⟨Nat.le_of_ble_eq_true rfl, Nat.le_of_ble_eq_true rfl⟩ rfl (Nat.le_of_ble_eq_true rfl) ⟨Nat.le_refl _, Nat.le_refl _⟩ dX6_obey_182) hW (fun x26 S27 H locs ex26 eS27 hW => ?_)
                    have hq : ((x26 : Int32), S27) = p_X6_obey μ sa en := by
                      subst eS27
                      subst ex26
                      subst ex25
                      subst ex2
                      subst ex1
                      exact ((if_neg hk22_0).trans ((if_neg hk22_1).trans ((if_neg hk22_2).trans ((if_neg hk22_3).trans ((if_neg hk22_4).trans ((if_neg hk22_5).trans ((if_neg hk22_6).trans ((if_neg hk22_7).trans (if_pos hk22_8))))))))).symm
                    exact jri F hr0 hlk hW rfl dX6_obey_185 ⟨congrArg Prod.fst hq, congrArg Prod.snd hq⟩
                  · rcases Decidable.em (x2 = 113) with hk22_9 | hk22_9
                    · refine lv_tableIn (off := 145) (tgt := 167) F.1 F.2.1 dX6_obey_22 (by rw [hk22_9]; decide) (by rw [hk22_9]; decide) (by rw [hk22_9]; rfl) (by decide) ?_
                      refine lv_aload_n F.1 F.2.1 dX6_obey_167 rfl (lv_at hl 1 rfl) ?_
                      refine jgetR F hT hW fw_X6_10 oH0 (by decide) rfl dX6_obey_168 ?_
                      refine lv_aload_n F.1 F.2.1 dX6_obey_171 rfl (lv_at hl 1 rfl) ?_
                      refine jgetR F hT hW fw_X6_37 oH0 (by decide) rfl dX6_obey_172 ?_
                      refine lv_iload_n F.1 F.2.1 dX6_obey_175 rfl (lv_at hl 2 rfl) ?_
                      refine lv_iconst (v := 1) F.1 F.2.1 dX6_obey_176 (by decide) ?_
                      refine lv_iadd F.1 F.2.1 dX6_obey_177 ?_
                      refine lv_iload_n F.1 F.2.1 dX6_obey_178 rfl (lv_at hl 3 rfl) ?_
                      refine jcipM (jrunV (As := [.int ((nI sa) + 1), .int (nI en)]) (rest := [.ref (ea E 0 0)]) F hT (hW.foc 11) yc_X2_numberBetween yv_X2_numberBetween ml_X6_159 oH5 (by decide) rfl (c_X2_numberBetweenB l E μ (μ 11) ((nI sa) + 1) (sa + 1) (ia rfl (lI 1)) (nI en) en rfl hp hch (by first | assumption | omega) (by first | assumption | omega)) rfl hl.1 ⟨Nat.le_of_ble_eq_true rfl, Nat.le_of_ble_eq_true rfl⟩ rfl (Nat.le_of_ble_eq_true rfl) ⟨Nat.le_refl _, Nat.le_refl _⟩ dX6_obey_179) hW (fun x28 H locs ex28 hW => ?_)
                      refine jcifM (jrunV (As := [.int x28]) (rest := []) F hT (hW.foc 0) yc_X3_passTicks yv_X3_passTicks ml_X6_76 (oSrv (by decide)) (by decide) rfl (c_X3_passTicks l E μ 0 (by decide) (μ 0) x28 wf0) rfl hl.1 ⟨Nat.le_of_ble_eq_true rfl, Nat.le_of_ble_eq_true rfl⟩ rfl (Nat.le_of_ble_eq_true rfl) ⟨Nat.le_refl _, Nat.le_refl _⟩ dX6_obey_182) hW (fun x29 S30 H locs ex29 eS30 hW => ?_)
                      have hq : ((x29 : Int32), S30) = p_X6_obey μ sa en := by
                        subst eS30
                        subst ex29
                        subst ex28
                        subst ex2
                        subst ex1
                        exact ((if_neg hk22_0).trans ((if_neg hk22_1).trans ((if_neg hk22_2).trans ((if_neg hk22_3).trans ((if_neg hk22_4).trans ((if_neg hk22_5).trans ((if_neg hk22_6).trans ((if_neg hk22_7).trans ((if_neg hk22_8).trans (if_pos hk22_9)))))))))).symm
                      exact jri F hr0 hlk hW rfl dX6_obey_185 ⟨congrArg Prod.fst hq, congrArg Prod.snd hq⟩
                    · rcases Decidable.em (x2 = 114) with hk22_10 | hk22_10
                      · refine lv_tableIn (off := 145) (tgt := 167) F.1 F.2.1 dX6_obey_22 (by rw [hk22_10]; decide) (by rw [hk22_10]; decide) (by rw [hk22_10]; rfl) (by decide) ?_
                        refine lv_aload_n F.1 F.2.1 dX6_obey_167 rfl (lv_at hl 1 rfl) ?_
                        refine jgetR F hT hW fw_X6_10 oH0 (by decide) rfl dX6_obey_168 ?_
                        refine lv_aload_n F.1 F.2.1 dX6_obey_171 rfl (lv_at hl 1 rfl) ?_
                        refine jgetR F hT hW fw_X6_37 oH0 (by decide) rfl dX6_obey_172 ?_
                        refine lv_iload_n F.1 F.2.1 dX6_obey_175 rfl (lv_at hl 2 rfl) ?_
                        refine lv_iconst (v := 1) F.1 F.2.1 dX6_obey_176 (by decide) ?_
                        refine lv_iadd F.1 F.2.1 dX6_obey_177 ?_
                        refine lv_iload_n F.1 F.2.1 dX6_obey_178 rfl (lv_at hl 3 rfl) ?_
                        refine jcipM (jrunV (As := [.int ((nI sa) + 1), .int (nI en)]) (rest := [.ref (ea E 0 0)]) F hT (hW.foc 11) yc_X2_numberBetween yv_X2_numberBetween ml_X6_159 oH5 (by decide) rfl (c_X2_numberBetweenB l E μ (μ 11) ((nI sa) + 1) (sa + 1) (ia rfl (lI 1)) (nI en) en rfl hp hch (by first | assumption | omega) (by first | assumption | omega)) rfl hl.1 ⟨Nat.le_of_ble_eq_true rfl, Nat.le_of_ble_eq_true rfl⟩ rfl (Nat.le_of_ble_eq_true rfl) ⟨Nat.le_refl _, Nat.le_refl _⟩ dX6_obey_179) hW (fun x31 H locs ex31 hW => ?_)
                        refine jcifM (jrunV (As := [.int x31]) (rest := []) F hT (hW.foc 0) yc_X3_passTicks yv_X3_passTicks ml_X6_76 (oSrv (by decide)) (by decide) rfl (c_X3_passTicks l E μ 0 (by decide) (μ 0) x31 wf0) rfl hl.1 ⟨Nat.le_of_ble_eq_true rfl, Nat.le_of_ble_eq_true rfl⟩ rfl (Nat.le_of_ble_eq_true rfl) ⟨Nat.le_refl _, Nat.le_refl _⟩ dX6_obey_182) hW (fun x32 S33 H locs ex32 eS33 hW => ?_)
                        have hq : ((x32 : Int32), S33) = p_X6_obey μ sa en := by
                          subst eS33
                          subst ex32
                          subst ex31
                          subst ex2
                          subst ex1
                          exact ((if_neg hk22_0).trans ((if_neg hk22_1).trans ((if_neg hk22_2).trans ((if_neg hk22_3).trans ((if_neg hk22_4).trans ((if_neg hk22_5).trans ((if_neg hk22_6).trans ((if_neg hk22_7).trans ((if_neg hk22_8).trans ((if_neg hk22_9).trans (if_pos hk22_10))))))))))).symm
                        exact jri F hr0 hlk hW rfl dX6_obey_185 ⟨congrArg Prod.fst hq, congrArg Prod.snd hq⟩
                      · rcases Decidable.em (x2 = 115) with hk22_11 | hk22_11
                        · refine lv_tableIn (off := 145) (tgt := 167) F.1 F.2.1 dX6_obey_22 (by rw [hk22_11]; decide) (by rw [hk22_11]; decide) (by rw [hk22_11]; rfl) (by decide) ?_
                          refine lv_aload_n F.1 F.2.1 dX6_obey_167 rfl (lv_at hl 1 rfl) ?_
                          refine jgetR F hT hW fw_X6_10 oH0 (by decide) rfl dX6_obey_168 ?_
                          refine lv_aload_n F.1 F.2.1 dX6_obey_171 rfl (lv_at hl 1 rfl) ?_
                          refine jgetR F hT hW fw_X6_37 oH0 (by decide) rfl dX6_obey_172 ?_
                          refine lv_iload_n F.1 F.2.1 dX6_obey_175 rfl (lv_at hl 2 rfl) ?_
                          refine lv_iconst (v := 1) F.1 F.2.1 dX6_obey_176 (by decide) ?_
                          refine lv_iadd F.1 F.2.1 dX6_obey_177 ?_
                          refine lv_iload_n F.1 F.2.1 dX6_obey_178 rfl (lv_at hl 3 rfl) ?_
                          refine jcipM (jrunV (As := [.int ((nI sa) + 1), .int (nI en)]) (rest := [.ref (ea E 0 0)]) F hT (hW.foc 11) yc_X2_numberBetween yv_X2_numberBetween ml_X6_159 oH5 (by decide) rfl (c_X2_numberBetweenB l E μ (μ 11) ((nI sa) + 1) (sa + 1) (ia rfl (lI 1)) (nI en) en rfl hp hch (by first | assumption | omega) (by first | assumption | omega)) rfl hl.1 ⟨Nat.le_of_ble_eq_true rfl, Nat.le_of_ble_eq_true rfl⟩ rfl (Nat.le_of_ble_eq_true rfl) ⟨Nat.le_refl _, Nat.le_refl _⟩ dX6_obey_179) hW (fun x34 H locs ex34 hW => ?_)
                          refine jcifM (jrunV (As := [.int x34]) (rest := []) F hT (hW.foc 0) yc_X3_passTicks yv_X3_passTicks ml_X6_76 (oSrv (by decide)) (by decide) rfl (c_X3_passTicks l E μ 0 (by decide) (μ 0) x34 wf0) rfl hl.1 ⟨Nat.le_of_ble_eq_true rfl, Nat.le_of_ble_eq_true rfl⟩ rfl (Nat.le_of_ble_eq_true rfl) ⟨Nat.le_refl _, Nat.le_refl _⟩ dX6_obey_182) hW (fun x35 S36 H locs ex35 eS36 hW => ?_)
                          have hq : ((x35 : Int32), S36) = p_X6_obey μ sa en := by
                            subst eS36
                            subst ex35
                            subst ex34
                            subst ex2
                            subst ex1
                            exact ((if_neg hk22_0).trans ((if_neg hk22_1).trans ((if_neg hk22_2).trans ((if_neg hk22_3).trans ((if_neg hk22_4).trans ((if_neg hk22_5).trans ((if_neg hk22_6).trans ((if_neg hk22_7).trans ((if_neg hk22_8).trans ((if_neg hk22_9).trans ((if_neg hk22_10).trans (if_pos hk22_11)))))))))))).symm
                          exact jri F hr0 hlk hW rfl dX6_obey_185 ⟨congrArg Prod.fst hq, congrArg Prod.snd hq⟩
                        · rcases Decidable.em (x2 = 116) with hk22_12 | hk22_12
                          · refine lv_tableIn (off := 145) (tgt := 167) F.1 F.2.1 dX6_obey_22 (by rw [hk22_12]; decide) (by rw [hk22_12]; decide) (by rw [hk22_12]; rfl) (by decide) ?_
                            refine lv_aload_n F.1 F.2.1 dX6_obey_167 rfl (lv_at hl 1 rfl) ?_
                            refine jgetR F hT hW fw_X6_10 oH0 (by decide) rfl dX6_obey_168 ?_
                            refine lv_aload_n F.1 F.2.1 dX6_obey_171 rfl (lv_at hl 1 rfl) ?_
                            refine jgetR F hT hW fw_X6_37 oH0 (by decide) rfl dX6_obey_172 ?_
                            refine lv_iload_n F.1 F.2.1 dX6_obey_175 rfl (lv_at hl 2 rfl) ?_
                            refine lv_iconst (v := 1) F.1 F.2.1 dX6_obey_176 (by decide) ?_
                            refine lv_iadd F.1 F.2.1 dX6_obey_177 ?_
                            refine lv_iload_n F.1 F.2.1 dX6_obey_178 rfl (lv_at hl 3 rfl) ?_
                            refine jcipM (jrunV (As := [.int ((nI sa) + 1), .int (nI en)]) (rest := [.ref (ea E 0 0)]) F hT (hW.foc 11) yc_X2_numberBetween yv_X2_numberBetween ml_X6_159 oH5 (by decide) rfl (c_X2_numberBetweenB l E μ (μ 11) ((nI sa) + 1) (sa + 1) (ia rfl (lI 1)) (nI en) en rfl hp hch (by first | assumption | omega) (by first | assumption | omega)) rfl hl.1 ⟨Nat.le_of_ble_eq_true rfl, Nat.le_of_ble_eq_true rfl⟩ rfl (Nat.le_of_ble_eq_true rfl) ⟨Nat.le_refl _, Nat.le_refl _⟩ dX6_obey_179) hW (fun x37 H locs ex37 hW => ?_)
                            refine jcifM (jrunV (As := [.int x37]) (rest := []) F hT (hW.foc 0) yc_X3_passTicks yv_X3_passTicks ml_X6_76 (oSrv (by decide)) (by decide) rfl (c_X3_passTicks l E μ 0 (by decide) (μ 0) x37 wf0) rfl hl.1 ⟨Nat.le_of_ble_eq_true rfl, Nat.le_of_ble_eq_true rfl⟩ rfl (Nat.le_of_ble_eq_true rfl) ⟨Nat.le_refl _, Nat.le_refl _⟩ dX6_obey_182) hW (fun x38 S39 H locs ex38 eS39 hW => ?_)
                            have hq : ((x38 : Int32), S39) = p_X6_obey μ sa en := by
                              subst eS39
                              subst ex38
                              subst ex37
                              subst ex2
                              subst ex1
                              exact ((if_neg hk22_0).trans ((if_neg hk22_1).trans ((if_neg hk22_2).trans ((if_neg hk22_3).trans ((if_neg hk22_4).trans ((if_neg hk22_5).trans ((if_neg hk22_6).trans ((if_neg hk22_7).trans ((if_neg hk22_8).trans ((if_neg hk22_9).trans ((if_neg hk22_10).trans ((if_neg hk22_11).trans (if_pos hk22_12))))))))))))).symm
                            exact jri F hr0 hlk hW rfl dX6_obey_185 ⟨congrArg Prod.fst hq, congrArg Prod.snd hq⟩
                          · rcases Decidable.em (x2 = 117) with hk22_13 | hk22_13
                            · refine lv_tableIn (off := 70) (tgt := 92) F.1 F.2.1 dX6_obey_22 (by rw [hk22_13]; decide) (by rw [hk22_13]; decide) (by rw [hk22_13]; rfl) (by decide) ?_
                              refine lv_aload_n F.1 F.2.1 dX6_obey_92 rfl (lv_at hl 1 rfl) ?_
                              refine jgetR F hT hW fw_X6_10 oH0 (by decide) rfl dX6_obey_93 ?_
                              refine lv_iload_n F.1 F.2.1 dX6_obey_96 rfl (lv_at hl 0 rfl) ?_
                              refine jcifM (jrunV (As := [.int (x1 - 65)]) (rest := []) F hT (hW.foc 0) yc_X3_raiseLine yv_X3_raiseLine ml_X6_64 (oSrv (by decide)) (by decide) rfl (c_X3_raiseLine l E μ 0 (by decide) (μ 0) (x1 - 65) wf0.1) rfl hl.1 ⟨Nat.le_of_ble_eq_true rfl, Nat.le_of_ble_eq_true rfl⟩ rfl (Nat.le_of_ble_eq_true rfl) ⟨Nat.le_refl _, Nat.le_refl _⟩ dX6_obey_97) hW (fun x40 S41 H locs ex40 eS41 hW => ?_)
                              have hq : ((x40 : Int32), S41) = p_X6_obey μ sa en := by
                                subst eS41
                                subst ex40
                                subst ex2
                                subst ex1
                                exact ((if_neg hk22_0).trans ((if_neg hk22_1).trans ((if_neg hk22_2).trans ((if_neg hk22_3).trans ((if_neg hk22_4).trans ((if_neg hk22_5).trans ((if_neg hk22_6).trans ((if_neg hk22_7).trans ((if_neg hk22_8).trans ((if_neg hk22_9).trans ((if_neg hk22_10).trans ((if_neg hk22_11).trans ((if_neg hk22_12).trans (if_pos hk22_13)))))))))))))).symm
                              exact jri F hr0 hlk hW rfl dX6_obey_100 ⟨congrArg Prod.fst hq, congrArg Prod.snd hq⟩
                            · refine lv_tableOut (tgt := 167) F.1 F.2.1 dX6_obey_22 (by have := lv_neT (a := 104) hk22_0 rfl; have := lv_neT (a := 105) hk22_1 rfl; have := lv_neT (a := 106) hk22_2 rfl; have := lv_neT (a := 107) hk22_3 rfl; have := lv_neT (a := 108) hk22_4 rfl; have := lv_neT (a := 109) hk22_5 rfl; have := lv_neT (a := 110) hk22_6 rfl; have := lv_neT (a := 111) hk22_7 rfl; have := lv_neT (a := 112) hk22_8 rfl; have := lv_neT (a := 113) hk22_9 rfl; have := lv_neT (a := 114) hk22_10 rfl; have := lv_neT (a := 115) hk22_11 rfl; have := lv_neT (a := 116) hk22_12 rfl; have := lv_neT (a := 117) hk22_13 rfl; omega) (by decide) ?_
                              refine lv_aload_n F.1 F.2.1 dX6_obey_167 rfl (lv_at hl 1 rfl) ?_
                              refine jgetR F hT hW fw_X6_10 oH0 (by decide) rfl dX6_obey_168 ?_
                              refine lv_aload_n F.1 F.2.1 dX6_obey_171 rfl (lv_at hl 1 rfl) ?_
                              refine jgetR F hT hW fw_X6_37 oH0 (by decide) rfl dX6_obey_172 ?_
                              refine lv_iload_n F.1 F.2.1 dX6_obey_175 rfl (lv_at hl 2 rfl) ?_
                              refine lv_iconst (v := 1) F.1 F.2.1 dX6_obey_176 (by decide) ?_
                              refine lv_iadd F.1 F.2.1 dX6_obey_177 ?_
                              refine lv_iload_n F.1 F.2.1 dX6_obey_178 rfl (lv_at hl 3 rfl) ?_
                              refine jcipM (jrunV (As := [.int ((nI sa) + 1), .int (nI en)]) (rest := [.ref (ea E 0 0)]) F hT (hW.foc 11) yc_X2_numberBetween yv_X2_numberBetween ml_X6_159 oH5 (by decide) rfl (c_X2_numberBetweenB l E μ (μ 11) ((nI sa) + 1) (sa + 1) (ia rfl (lI 1)) (nI en) en rfl hp hch (by first | assumption | omega) (by first | assumption | omega)) rfl hl.1 ⟨Nat.le_of_ble_eq_true rfl, Nat.le_of_ble_eq_true rfl⟩ rfl (Nat.le_of_ble_eq_true rfl) ⟨Nat.le_refl _, Nat.le_refl _⟩ dX6_obey_179) hW (fun x42 H locs ex42 hW => ?_)
                              refine jcifM (jrunV (As := [.int x42]) (rest := []) F hT (hW.foc 0) yc_X3_passTicks yv_X3_passTicks ml_X6_76 (oSrv (by decide)) (by decide) rfl (c_X3_passTicks l E μ 0 (by decide) (μ 0) x42 wf0) rfl hl.1 ⟨Nat.le_of_ble_eq_true rfl, Nat.le_of_ble_eq_true rfl⟩ rfl (Nat.le_of_ble_eq_true rfl) ⟨Nat.le_refl _, Nat.le_refl _⟩ dX6_obey_182) hW (fun x43 S44 H locs ex43 eS44 hW => ?_)
                              have hq : ((x43 : Int32), S44) = p_X6_obey μ sa en := by
                                subst eS44
                                subst ex43
                                subst ex42
                                subst ex2
                                subst ex1
                                exact ((if_neg hk22_0).trans ((if_neg hk22_1).trans ((if_neg hk22_2).trans ((if_neg hk22_3).trans ((if_neg hk22_4).trans ((if_neg hk22_5).trans ((if_neg hk22_6).trans ((if_neg hk22_7).trans ((if_neg hk22_8).trans ((if_neg hk22_9).trans ((if_neg hk22_10).trans ((if_neg hk22_11).trans ((if_neg hk22_12).trans (if_neg hk22_13)))))))))))))).symm
                              exact jri F hr0 hlk hW rfl dX6_obey_185 ⟨congrArg Prod.fst hq, congrArg Prod.snd hq⟩

theorem wf_line {S S' : Sv} {i : Nat} (h : Wf S) (hi : i < 12) (hk : ∀ p k, ¬ p = 3 + i → S' p k = S p k) : Wf S' := h.same (hk _ _ (by omega)) (hk _ _ (by omega)) (hk _ _ (by omega)) (fun q _ => hk _ _ (by omega)) (fun q _ => hk _ _ (by omega))
theorem hasL {S : Sv} {ln : Int32} (h : Wf S) (h1 : ¬ p_X3_hasLine S ln = 0) : cn ln < 12 := by
  have := (wL (a := ln) h.1 (by decide) (x := p_X6_within ln 0 (S 0 3 - 1)) rfl h1).2
  have h2 := h.1.2
  omega
theorem wf_raiseL {S : Sv} {ln : Int32} (h : Wf S) : Wf (p_X3_raiseLine S ln).2 := by
  unfold p_X3_raiseLine
  dsimp only
  split
  · exact h
  · next h1 =>
    split
    · exact wf_line h (hasL h h1) fun p k hp => fr_takeEdge hp
    · exact h
theorem wf_holdL {S : Sv} {ln dv up : Int32} (h : Wf S) : Wf (p_X3_holdLine S ln dv up).2 := by
  unfold p_X3_holdLine
  dsimp only
  split
  · exact h
  · next h1 =>
    split
    · exact h
    · split
      · exact h
      · split
        · exact h
        · exact wf_line h (hasL h h1) fun p k hp => fr_moveDevice hp
theorem wf_maskL {S : Sv} {ln i : Int32} (h : Wf S) : Wf (p_X3_maskLine S ln i).2 := by
  unfold p_X3_maskLine
  dsimp only
  split
  · exact h
  · next h1 =>
    split
    · exact h
    · exact wf_line h (hasL h h1) fun p k hp => us_ne _ _ (by omega)
theorem obey_x {μ : Mu} {sa en : Nat} (h : Wf (μ 0)) : ∃ T, (p_X6_obey μ sa en).2 = fo μ 0 T ∧ Wf T := by
  have h1 := fun a => wf_raiseL (ln := a) h
  have h2 := fun a b c => wf_holdL (ln := a) (dv := b) (up := c) h
  have h3 := fun a b => wf_maskL (ln := a) (i := b) h
  have h4 := fun a => wf_ticks (tk := a) h
  unfold p_X6_obey
  dsimp only
  generalize p_X3_raiseLine (μ 0) = f1 at h1 ⊢
  generalize p_X3_holdLine (μ 0) = f2 at h2 ⊢
  generalize p_X3_maskLine (μ 0) = f3 at h3 ⊢
  generalize p_X3_passTicks (μ 0) = f4 at h4 ⊢
  repeat' (first | refine iteR (P := fun z : Int32 × Mu => ∃ T, z.2 = fo μ 0 T ∧ Wf T) ?_ ?_ | exact ⟨_, rfl, h1 _⟩ | exact ⟨_, rfl, h2 _ _ _⟩ | exact ⟨_, rfl, h3 _ _⟩ | exact ⟨_, rfl, h4 _⟩)
theorem obey_ne {μ : Mu} {sa en q : Nat} (h : Wf (μ 0)) (hq : q ≠ 0) : (p_X6_obey μ sa en).2 q = μ q := by
  obtain ⟨T, e, _⟩ := obey_x (sa := sa) (en := en) h
  rw [e]
  exact fo_ne _ _ hq
theorem wf_obey {μ : Mu} {sa en : Nat} (h : Wf (μ 0)) : Wf ((p_X6_obey μ sa en).2 0) := by
  obtain ⟨T, e, w⟩ := obey_x (sa := sa) (en := en) h
  rw [e, fo_at]
  exact w
theorem st_s {v : Int32} {j : Nat} (h : Bn v 81 ∧ cn v ≤ j) : Bn v 81 ∧ cn v ≤ j + 1 := ⟨h.1, Nat.le_succ_of_le h.2⟩
theorem st_e {j : Nat} (h : j < 81) : Bn (nI j + 1) 81 ∧ cn (nI j + 1) ≤ j + 1 := by
  have e : nI j + 1 = nI (j + 1) := ia rfl (lI 1)
  have e2 : cn (nI (j + 1)) = j + 1 := nI_clamp (by omega)
  rw [e, e2]
  exact ⟨bnI (by omega) (by omega), Nat.le_refl _⟩

def q_X6_carryOut_32 (μ : Mu) : Nat → Nat → Mu → Int32 → Int32 → Int32 × Mu
  | 0, j, S4, v5, v6 =>
    let x9 : Int32 := (p_X2_clear (S4 11)).1
    let S10 : Mu := fo S4 11 (p_X2_clear (S4 11)).2
    let x11 : Int32 := (p_X0_recordUnlessError (S10 11) v6).1
    let S12 : Mu := fo S10 11 (p_X0_recordUnlessError (S10 11) v6).2
    ((x11 : Int32), S12)
  | fu + 1, j, S4, v5, v6 =>
    let x8 : Int32 := p_X2_orderEndsAt (S4 11) (nI j)
    if x8 = 0 then
      q_X6_carryOut_32 μ fu (j + 1) S4 v5 v6
    else
      let x10 : Int32 := (p_X6_obey S4 (cn v5) j).1
      let S11 : Mu := (p_X6_obey S4 (cn v5) j).2
      if 0 ≤ x10 then
        q_X6_carryOut_32 μ fu (j + 1) S11 ((nI j) + 1) (v6 + 1)
      else
        let x13 : Int32 := (p_X2_clear (S11 11)).1
        let S14 : Mu := fo S11 11 (p_X2_clear (S11 11)).2
        let x15 : Int32 := (p_X0_recordUnlessError (S14 11) v6).1
        let S16 : Mu := fo S14 11 (p_X0_recordUnlessError (S14 11) v6).2
        ((x15 : Int32), S16)
def p_X6_carryOut (μ : Mu) : Int32 × Mu :=
  let x1 : Int32 := p_X2_firstFault (μ 11)
  if x1 = (-6) then
    let S3 : Mu := p_X0_prepare μ
    q_X6_carryOut_32 μ (cn (μ 11 5 1) + 1) 0 S3 0 0
  else
    (((-3) : Int32), μ)

set_option maxHeartbeats 4000000 in
set_option maxRecDepth 100000 in
theorem c_X6_carryOut (l : Launch) (E : mE) (μ : Mu) (hc : Wc μ) : CtI l E yX6_carryOut cX6_carryOut 4 (some .int) 6 138 [.ref (ea E 11 0)] μ (fun x μ' => x = (p_X6_carryOut μ).1 ∧ μ' = (p_X6_carryOut μ).2) := by
  refine jMet (by decide +kernel) (Nat.le_of_ble_eq_true rfl) ?_
  intro p e s m below meth c ls F hT hr0 hlk hW hl
  have F : CallFix p m c cX6_carryOut 4 s _ TB RX6 := F
  have hl : lv_has ls 4 [(0, .ref (ea E 11 0))] := hl
  have hp2 := hc.2.2.2.1.2
  refine lv_aload_n F.1 F.2.1 dX6_carryOut_0 rfl (lv_at hl 0 rfl) ?_
  refine jgetR F hT hW fw_X6_37 oH0 (by decide) rfl dX6_carryOut_1 ?_
  refine jcipM (jrunV (As := []) (rest := []) F hT (hW.foc 11) yc_X2_firstFault yv_X2_firstFault ml_X6_139 oH5 (by decide) rfl (c_X2_firstFault l E μ (μ 11) hc.2.2.2.1) rfl hl.1 ⟨Nat.le_of_ble_eq_true rfl, Nat.le_of_ble_eq_true rfl⟩ rfl (Nat.le_of_ble_eq_true rfl) ⟨Nat.le_refl _, Nat.le_refl _⟩ dX6_carryOut_4) hW (fun x1 H locs ex1 hW => ?_)
  refine lv_bipush (v := (-6)) F.1 F.2.1 dX6_carryOut_7 (by decide) ?_
  refine lv_icmp_eq (tgt := 15) F.1 F.2.1 dX6_carryOut_9 (by decide) (fun h2 => ?_) (fun h2 => ?_)
  · refine lv_aload_n F.1 F.2.1 dX6_carryOut_15 rfl (lv_at hl 0 rfl) ?_
    refine jgetR F hT hW fw_X6_30 oH0 (by decide) rfl dX6_carryOut_16 ?_
    refine lv_aload_n F.1 F.2.1 dX6_carryOut_19 rfl (lv_at hl 0 rfl) ?_
    refine jgetR F hT hW fw_X6_10 oH0 (by decide) rfl dX6_carryOut_20 ?_
    refine jcvG (jrunV (As := [.ref (ea E 0 0)]) (rest := []) F hT hW yc_X0_prepare yv_X0_prepare ml_X6_41 oH3 (by decide) rfl (c_X0_prepare l E μ hc) rfl hl.1 ⟨Nat.le_of_ble_eq_true rfl, Nat.le_of_ble_eq_true rfl⟩ rfl (Nat.le_of_ble_eq_true rfl) ⟨Nat.le_refl _, Nat.le_refl _⟩ dX6_carryOut_23) hW (fun S3 H locs eS3 hW => ?_)
    have h0 : S3 0 = μ 0 := by rw [eS3]; exact pre_ne hc (by omega)
    have h12 : S3 12 = μ 12 := by rw [eS3]; exact pre_ne hc (by omega)
    have ws0 : Ws (S3 0) := by rw [h0]; exact hc.1 0 (by decide)
    have h11 : S3 11 = μ 11 := by rw [eS3]; exact pre_ne hc (by omega)
    refine lv_iconst (v := 0) F.1 F.2.1 dX6_carryOut_26 (by decide) ?_
    refine lv_istore_n (lv' := [(1, .int 0), (0, .ref (ea E 11 0))]) F.1 F.2.1 dX6_carryOut_27 rfl hl (by decide) rfl (fun ls hl => ?_)
    refine lv_iconst (v := 0) F.1 F.2.1 dX6_carryOut_28 (by decide) ?_
    refine lv_istore_n (lv' := [(2, .int 0), (1, .int 0), (0, .ref (ea E 11 0))]) F.1 F.2.1 dX6_carryOut_29 rfl hl (by decide) rfl (fun ls hl => ?_)
    refine lv_iconst (v := 0) F.1 F.2.1 dX6_carryOut_30 (by decide) ?_
    refine lv_istore_n (lv' := [(3, .int 0), (2, .int 0), (1, .int 0), (0, .ref (ea E 11 0))]) F.1 F.2.1 dX6_carryOut_31 rfl hl (by decide) rfl (fun ls hl => ?_)
    have hL7 : ∀ (fu j : Nat) (S4 : Mu) (v5 : Int32) (v6 : Int32) (H : Heap) (locs : List Loc) (ls : Array Slot), j + fu = cn (μ 11 5 1) + 1 → p_X6_carryOut μ = q_X6_carryOut_32 μ fu j S4 v5 v6 → S4 11 = μ 11 → Wf (S4 0) → (Bn v5 81 ∧ cn v5 ≤ j) → Wd E s H locs S4 → lv_has ls 4 [(3, .int (nI j)), (2, .int v5), (1, .int v6), (0, .ref (ea E 11 0))] → W p l e (rmO 6 138) s m ([.ref (ea E 11 0)] : List Value).toArray below meth c H locs 0 0 (MQ below (va_Qi (fun x μ' => x = (p_X6_carryOut μ).1 ∧ μ' = (p_X6_carryOut μ).2) (fun μ' t => MB E μ' t.heap) (AA E)) ([.ref (ea E 11 0)] : List Value).toArray s 0 0 (AA E)) (F0 m 32 ls []) := by
      intro fu
      induction fu with
      | zero =>
        intro j S4 v5 v6 H locs ls hj hres h11x wfx hst hW hl
        refine lv_iload_n F.1 F.2.1 dX6_carryOut_32 rfl (lv_at hl 0 rfl) ?_
        refine lv_aload_n F.1 F.2.1 dX6_carryOut_33 rfl (lv_at hl 3 rfl) ?_
        refine jgetR F hT hW fw_X6_37 oH0 (by decide) rfl dX6_carryOut_34 ?_
        refine jget F hT (hW.foc 11) fw_X6_88 oH5 (by decide) rfl dX6_carryOut_37 ?_
        refine lv_icmp_gt (tgt := 82) F.1 F.2.1 dX6_carryOut_40 (by decide) (fun h8 => ?_) (fun h8 => ?_)
        · refine lv_aload_n F.1 F.2.1 dX6_carryOut_82 rfl (lv_at hl 3 rfl) ?_
          refine jgetR F hT hW fw_X6_37 oH0 (by decide) rfl dX6_carryOut_83 ?_
          refine jcifM (jrunV (As := []) (rest := []) F hT (hW.foc 11) yc_X2_clear yv_X2_clear ml_X6_136 oH5 (by decide) rfl (c_X2_clear l E S4 (S4 11)) rfl hl.1 ⟨Nat.le_of_ble_eq_true rfl, Nat.le_of_ble_eq_true rfl⟩ rfl (Nat.le_of_ble_eq_true rfl) ⟨Nat.le_refl _, Nat.le_refl _⟩ dX6_carryOut_86) hW (fun x9 S10 H locs ex9 eS10 hW => ?_)
          refine lv_pop F.1 F.2.1 dX6_carryOut_89 rfl ?_
          refine lv_aload_n F.1 F.2.1 dX6_carryOut_90 rfl (lv_at hl 3 rfl) ?_
          refine jgetR F hT hW fw_X6_30 oH0 (by decide) rfl dX6_carryOut_91 ?_
          refine lv_iload_n F.1 F.2.1 dX6_carryOut_94 rfl (lv_at hl 2 rfl) ?_
          refine jcifM (jrunV (As := [.int v6]) (rest := []) F hT (hW.foc 11) yc_X0_recordUnlessError yv_X0_recordUnlessError ml_X6_49 oH3 (by decide) rfl (c_X0_recordUnlessError l E S10 (S10 11) v6) rfl hl.1 ⟨Nat.le_of_ble_eq_true rfl, Nat.le_of_ble_eq_true rfl⟩ rfl (Nat.le_of_ble_eq_true rfl) ⟨Nat.le_refl _, Nat.le_refl _⟩ dX6_carryOut_95) hW (fun x11 S12 H locs ex11 eS12 hW => ?_)
          have hq : ((x11 : Int32), S12) = p_X6_carryOut μ := by
            subst eS12
            subst ex11
            subst eS10
            subst ex9
            exact (hres).symm
          exact jri F hr0 hlk hW rfl dX6_carryOut_98 ⟨congrArg Prod.fst hq, congrArg Prod.snd hq⟩
        · exact absurd (c_lt (by rw [h11x]; exact hc.2.2.2.1.1) rfl (by omega) (by omega)) h8
      | succ fu ih =>
        intro j S4 v5 v6 H locs ls hj hres h11x wfx hst hW hl
        refine lv_iload_n F.1 F.2.1 dX6_carryOut_32 rfl (lv_at hl 0 rfl) ?_
        refine lv_aload_n F.1 F.2.1 dX6_carryOut_33 rfl (lv_at hl 3 rfl) ?_
        refine jgetR F hT hW fw_X6_37 oH0 (by decide) rfl dX6_carryOut_34 ?_
        refine jget F hT (hW.foc 11) fw_X6_88 oH5 (by decide) rfl dX6_carryOut_37 ?_
        refine lv_icmp_gt (tgt := 82) F.1 F.2.1 dX6_carryOut_40 (by decide) (fun h7 => ?_) (fun h7 => ?_)
        · exact absurd h7 (c_nlt (by rw [h11x]; exact hc.2.2.2.1.1) rfl (by omega) (by omega))
        · refine lv_aload_n F.1 F.2.1 dX6_carryOut_43 rfl (lv_at hl 3 rfl) ?_
          refine jgetR F hT hW fw_X6_37 oH0 (by decide) rfl dX6_carryOut_44 ?_
          refine lv_iload_n F.1 F.2.1 dX6_carryOut_47 rfl (lv_at hl 0 rfl) ?_
          refine jcipM (jrunV (As := [.int (nI j)]) (rest := []) F hT (hW.foc 11) yc_X2_orderEndsAt yv_X2_orderEndsAt ml_X6_142 oH5 (by decide) rfl (c_X2_orderEndsAt l E S4 (S4 11) (nI j) (by rw [h11x]; exact hc.2.2.2.1) (by rw [h11x]; exact hc.2.2.2.2.1)) rfl hl.1 ⟨Nat.le_of_ble_eq_true rfl, Nat.le_of_ble_eq_true rfl⟩ rfl (Nat.le_of_ble_eq_true rfl) ⟨Nat.le_refl _, Nat.le_refl _⟩ dX6_carryOut_48) hW (fun x8 H locs ex8 hW => ?_)
          refine lv_if_ne (tgt := 57) F.1 F.2.1 dX6_carryOut_51 (by decide) (fun h9 => ?_) (fun h9 => ?_)
          · refine lv_aload_n F.1 F.2.1 dX6_carryOut_57 rfl (lv_at hl 3 rfl) ?_
            refine lv_iload_n F.1 F.2.1 dX6_carryOut_58 rfl (lv_at hl 1 rfl) ?_
            refine lv_iload_n F.1 F.2.1 dX6_carryOut_59 rfl (lv_at hl 0 rfl) ?_
            refine jciG (jrunV (As := [.int v5, .int (nI j)]) (rest := []) F hT hW yc_X6_obey yv_X6_obey ml_X6_145 oH0 (by decide) rfl (c_X6_obey l E S4 v5 (cn v5) hst.1.1 (nI j) j rfl wfx (by rw [h11x]; exact hc.2.2.2.1) (by rw [h11x]; exact hc.2.2.2.2.1) hst.2 (by omega)) rfl hl.1 ⟨Nat.le_of_ble_eq_true rfl, Nat.le_of_ble_eq_true rfl⟩ rfl (Nat.le_of_ble_eq_true rfl) ⟨Nat.le_refl _, Nat.le_refl _⟩ dX6_carryOut_60) hW (fun x10 S11 H locs ex10 eS11 hW => ?_)
            have h11n : S11 11 = μ 11 := by rw [eS11, obey_ne wfx (by decide)]; exact h11x
            have wfn : Wf (S11 0) := by rw [eS11]; exact wf_obey wfx
            refine lv_if_ge (tgt := 69) F.1 F.2.1 dX6_carryOut_63 (by decide) (fun h12 => ?_) (fun h12 => ?_)
            · refine lv_iinc (v := v6 + 1) (lv' := [(1, .int (v6 + 1)), (3, .int (nI j)), (2, .int v5), (0, .ref (ea E 11 0))]) F.1 F.2.1 dX6_carryOut_69 hl (k := 2) rfl rfl (by decide) rfl (fun ls hl => ?_)
              refine lv_iload_n F.1 F.2.1 dX6_carryOut_72 rfl (lv_at hl 1 rfl) ?_
              refine lv_iconst (v := 1) F.1 F.2.1 dX6_carryOut_73 (by decide) ?_
              refine lv_iadd F.1 F.2.1 dX6_carryOut_74 ?_
              refine lv_istore_n (lv' := [(2, .int ((nI j) + 1)), (1, .int (v6 + 1)), (3, .int (nI j)), (0, .ref (ea E 11 0))]) F.1 F.2.1 dX6_carryOut_75 rfl hl (by decide) rfl (fun ls hl => ?_)
              refine lv_iinc (v := nI (j + 1)) (lv' := [(3, .int (nI (j + 1))), (2, .int ((nI j) + 1)), (1, .int (v6 + 1)), (0, .ref (ea E 11 0))]) F.1 F.2.1 dX6_carryOut_76 hl (k := 2) rfl (ia rfl rfl) (by decide) rfl (fun ls hl => ?_)
              refine lv_goto (tgt := 32) F.1 F.2.1 dX6_carryOut_79 (by decide) ?_
              subst eS11
              subst ex10
              subst ex8
              exact ih (j + 1) _ _ _ _ _ _ (by omega) (hres.trans ((if_neg h9).trans (if_pos h12))) (by first | exact h11n | exact h11x) (by first | exact wfn | exact wfx) (by first | exact st_s hst | exact st_e (by omega)) hW (lv_sub hl [0, 1, 2, 3] rfl)
            · refine lv_goto (tgt := 82) F.1 F.2.1 dX6_carryOut_66 (by decide) ?_
              refine lv_aload_n F.1 F.2.1 dX6_carryOut_82 rfl (lv_at hl 3 rfl) ?_
              refine jgetR F hT hW fw_X6_37 oH0 (by decide) rfl dX6_carryOut_83 ?_
              refine jcifM (jrunV (As := []) (rest := []) F hT (hW.foc 11) yc_X2_clear yv_X2_clear ml_X6_136 oH5 (by decide) rfl (c_X2_clear l E S11 (S11 11)) rfl hl.1 ⟨Nat.le_of_ble_eq_true rfl, Nat.le_of_ble_eq_true rfl⟩ rfl (Nat.le_of_ble_eq_true rfl) ⟨Nat.le_refl _, Nat.le_refl _⟩ dX6_carryOut_86) hW (fun x13 S14 H locs ex13 eS14 hW => ?_)
              refine lv_pop F.1 F.2.1 dX6_carryOut_89 rfl ?_
              refine lv_aload_n F.1 F.2.1 dX6_carryOut_90 rfl (lv_at hl 3 rfl) ?_
              refine jgetR F hT hW fw_X6_30 oH0 (by decide) rfl dX6_carryOut_91 ?_
              refine lv_iload_n F.1 F.2.1 dX6_carryOut_94 rfl (lv_at hl 2 rfl) ?_
              refine jcifM (jrunV (As := [.int v6]) (rest := []) F hT (hW.foc 11) yc_X0_recordUnlessError yv_X0_recordUnlessError ml_X6_49 oH3 (by decide) rfl (c_X0_recordUnlessError l E S14 (S14 11) v6) rfl hl.1 ⟨Nat.le_of_ble_eq_true rfl, Nat.le_of_ble_eq_true rfl⟩ rfl (Nat.le_of_ble_eq_true rfl) ⟨Nat.le_refl _, Nat.le_refl _⟩ dX6_carryOut_95) hW (fun x15 S16 H locs ex15 eS16 hW => ?_)
              have hq : ((x15 : Int32), S16) = p_X6_carryOut μ := by
                subst eS16
                subst ex15
                subst eS14
                subst ex13
                subst eS11
                subst ex10
                subst ex8
                exact ((hres).trans ((if_neg h9).trans (if_neg h12))).symm
              exact jri F hr0 hlk hW rfl dX6_carryOut_98 ⟨congrArg Prod.fst hq, congrArg Prod.snd hq⟩
          · refine lv_goto (tgt := 76) F.1 F.2.1 dX6_carryOut_54 (by decide) ?_
            refine lv_iinc (v := nI (j + 1)) (lv' := [(3, .int (nI (j + 1))), (2, .int v5), (1, .int v6), (0, .ref (ea E 11 0))]) F.1 F.2.1 dX6_carryOut_76 hl (k := 0) rfl (ia rfl rfl) (by decide) rfl (fun ls hl => ?_)
            refine lv_goto (tgt := 32) F.1 F.2.1 dX6_carryOut_79 (by decide) ?_
            subst ex8
            exact ih (j + 1) _ _ _ _ _ _ (by omega) (hres.trans (if_pos h9)) (by first | exact h11n | exact h11x) (by first | exact wfn | exact wfx) (by first | exact st_s hst | exact st_e (by omega)) hW (lv_sub hl [0, 1, 2, 3] rfl)
    exact hL7 (cn (μ 11 5 1) + 1) 0 S3 0 0 _ _ _ (by omega) (by subst eS3; subst ex1; exact if_pos h2) h11 ws0.1 ⟨bnI (n := 0) (by decide) (by decide), (by decide)⟩ hW (lv_sub hl [0, 1, 2, 3] rfl)
  · refine lv_bipush (v := (-3)) F.1 F.2.1 dX6_carryOut_12 (by decide) ?_
    have hq : (((-3) : Int32), μ) = p_X6_carryOut μ := by
      subst ex1
      exact (if_neg h2).symm
    exact jri F hr0 hlk hW rfl dX6_carryOut_14 ⟨congrArg Prod.fst hq, congrArg Prod.snd hq⟩

