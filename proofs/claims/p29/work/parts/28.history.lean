/-! class History -/

def p_X0_recordUnlessError (S : Sv) (an : Int32) : Int32 × Sv :=
  let S10 : Sv := (if an < 0 then S else (let v3 : Int32 := (if 7 ≤ ((S 3 1) + 1) then 0 else (S 3 1) + 1); (let S5 : Sv := us S 3 1 v3; (let v7 : Int32 := (if 6 ≤ (S5 3 2) then 6 else (S5 3 2) + 1); (let S9 : Sv := us S5 3 2 v7; S9)))))
  ((an : Int32), S10)

set_option maxHeartbeats 4000000 in
set_option maxRecDepth 100000 in
theorem c_X0_recordUnlessError (l : Launch) (E : mE) (μ : Mu) (S : Sv) (an : Int32) : CtI l E yX0_recordUnlessError cX0_recordUnlessError 2 (some .int) 0 0 [.ref (ea E 11 3), .int an] (fo μ 11 S) (fun x μ' => x = (p_X0_recordUnlessError S an).1 ∧ μ' = fo μ 11 (p_X0_recordUnlessError S an).2) := by
  refine jMet (by decide +kernel) (Nat.le_of_ble_eq_true rfl) ?_
  intro p e s m below meth c ls F hT hr0 hlk hW hl
  have F : CallFix p m c cX0_recordUnlessError 2 s _ TB RX0 := F
  have hl : lv_has ls 2 [(0, .ref (ea E 11 3)), (1, .int an)] := hl
  refine lv_iload_n F.1 F.2.1 dX0_recordUnlessError_0 rfl (lv_at hl 1 rfl) ?_
  have hJ11 : ∀ (S10 : Sv) (H : Heap) (locs : List Loc) (ls : Array Slot), S10 = (if an < 0 then S else (let v3 : Int32 := (if 7 ≤ ((S 3 1) + 1) then 0 else (S 3 1) + 1); (let S5 : Sv := us S 3 1 v3; (let v7 : Int32 := (if 6 ≤ (S5 3 2) then 6 else (S5 3 2) + 1); (let S9 : Sv := us S5 3 2 v7; S9))))) → Wd E s H locs (fo μ 11 S10) → lv_has ls 2 [(0, .ref (ea E 11 3)), (1, .int an)] → W p l e (rmO 0 0) s m ([.ref (ea E 11 3), .int an] : List Value).toArray below meth c H locs 0 0 (MQ below (va_Qi (fun x μ' => x = (p_X0_recordUnlessError S an).1 ∧ μ' = fo μ 11 (p_X0_recordUnlessError S an).2) (fun μ' t => MB E μ' t.heap) (AA E)) ([.ref (ea E 11 3), .int an] : List Value).toArray s 0 0 (AA E)) (F0 m 56 ls []) := by
    intro S10 H locs ls eS10 hW hl
    refine lv_iload_n F.1 F.2.1 dX0_recordUnlessError_56 rfl (lv_at hl 1 rfl) ?_
    have hq : ((an : Int32), S10) = p_X0_recordUnlessError S an := by
      subst eS10
      exact (rfl).symm
    exact jri F hr0 hlk hW rfl dX0_recordUnlessError_57 ⟨congrArg Prod.fst hq, congrArg (fun z => fo μ 11 z.2) hq⟩
  refine lv_if_lt (tgt := 56) F.1 F.2.1 dX0_recordUnlessError_1 (by decide) (fun h1 => ?_) (fun h1 => ?_)
  · exact hJ11 _ _ _ _ (if_pos h1).symm hW (lv_sub hl [0, 1] rfl)
  · refine lv_aload_n F.1 F.2.1 dX0_recordUnlessError_4 rfl (lv_at hl 0 rfl) ?_
    refine lv_aload_n F.1 F.2.1 dX0_recordUnlessError_5 rfl (lv_at hl 0 rfl) ?_
    refine jget F hT hW fw_X0_18 oH3 (by decide) rfl dX0_recordUnlessError_6 ?_
    refine lv_iconst (v := 1) F.1 F.2.1 dX0_recordUnlessError_9 (by decide) ?_
    refine lv_iadd F.1 F.2.1 dX0_recordUnlessError_10 ?_
    refine lv_aload_n F.1 F.2.1 dX0_recordUnlessError_11 rfl (lv_at hl 0 rfl) ?_
    refine jgetR F hT hW fw_X0_11 oH3 (by decide) rfl dX0_recordUnlessError_12 ?_
    refine jalen (t := 6) (n := 7) (ty := .object RX3) (x := 7) F hT hW oH4 rfl (by decide) dX0_recordUnlessError_15 ?_
    have hJ4 : ∀ (v3 : Int32) (H : Heap) (locs : List Loc) (ls : Array Slot), v3 = (if 7 ≤ ((S 3 1) + 1) then 0 else (S 3 1) + 1) → Wd E s H locs (fo μ 11 S) → lv_has ls 2 [(0, .ref (ea E 11 3)), (1, .int an)] → W p l e (rmO 0 0) s m ([.ref (ea E 11 3), .int an] : List Value).toArray below meth c H locs 0 0 (MQ below (va_Qi (fun x μ' => x = (p_X0_recordUnlessError S an).1 ∧ μ' = fo μ 11 (p_X0_recordUnlessError S an).2) (fun μ' t => MB E μ' t.heap) (AA E)) ([.ref (ea E 11 3), .int an] : List Value).toArray s 0 0 (AA E)) (F0 m 29 ls [.int v3, .ref (ea E 11 3)]) := by
      intro v3 H locs ls ev3 hW hl
      refine jput F hT hW fw_X0_18 ft_0_1 oH3 (by decide) (by decide) rfl rfl rfl dX0_recordUnlessError_29 (fun S5 H locs eS5 hW => ?_)
      refine lv_aload_n F.1 F.2.1 dX0_recordUnlessError_32 rfl (lv_at hl 0 rfl) ?_
      refine lv_aload_n F.1 F.2.1 dX0_recordUnlessError_33 rfl (lv_at hl 0 rfl) ?_
      refine jget F hT hW fw_X0_26 oH3 (by decide) rfl dX0_recordUnlessError_34 ?_
      refine lv_bipush (v := 6) F.1 F.2.1 dX0_recordUnlessError_37 (by decide) ?_
      have hJ8 : ∀ (v7 : Int32) (H : Heap) (locs : List Loc) (ls : Array Slot), v7 = (if 6 ≤ (S5 3 2) then 6 else (S5 3 2) + 1) → Wd E s H locs (fo μ 11 S5) → lv_has ls 2 [(0, .ref (ea E 11 3)), (1, .int an)] → W p l e (rmO 0 0) s m ([.ref (ea E 11 3), .int an] : List Value).toArray below meth c H locs 0 0 (MQ below (va_Qi (fun x μ' => x = (p_X0_recordUnlessError S an).1 ∧ μ' = fo μ 11 (p_X0_recordUnlessError S an).2) (fun μ' t => MB E μ' t.heap) (AA E)) ([.ref (ea E 11 3), .int an] : List Value).toArray s 0 0 (AA E)) (F0 m 53 ls [.int v7, .ref (ea E 11 3)]) := by
        intro v7 H locs ls ev7 hW hl
        refine jput F hT hW fw_X0_26 ft_0_2 oH3 (by decide) (by decide) rfl rfl rfl dX0_recordUnlessError_53 (fun S9 H locs eS9 hW => ?_)
        subst eS9
        subst ev7
        subst eS5
        subst ev3
        exact hJ11 _ _ _ _ (if_neg h1).symm hW (lv_sub hl [0, 1] rfl)
      refine lv_icmp_ge (tgt := 51) F.1 F.2.1 dX0_recordUnlessError_39 (by decide) (fun h6 => ?_) (fun h6 => ?_)
      · refine lv_bipush (v := 6) F.1 F.2.1 dX0_recordUnlessError_51 (by decide) ?_
        exact hJ8 _ _ _ _ (if_pos h6).symm hW (lv_sub hl [0, 1] rfl)
      · refine lv_aload_n F.1 F.2.1 dX0_recordUnlessError_42 rfl (lv_at hl 0 rfl) ?_
        refine jget F hT hW fw_X0_26 oH3 (by decide) rfl dX0_recordUnlessError_43 ?_
        refine lv_iconst (v := 1) F.1 F.2.1 dX0_recordUnlessError_46 (by decide) ?_
        refine lv_iadd F.1 F.2.1 dX0_recordUnlessError_47 ?_
        refine lv_goto (tgt := 53) F.1 F.2.1 dX0_recordUnlessError_48 (by decide) ?_
        exact hJ8 _ _ _ _ (if_neg h6).symm hW (lv_sub hl [0, 1] rfl)
    refine lv_icmp_ge (tgt := 28) F.1 F.2.1 dX0_recordUnlessError_16 (by decide) (fun h2 => ?_) (fun h2 => ?_)
    · refine lv_iconst (v := 0) F.1 F.2.1 dX0_recordUnlessError_28 (by decide) ?_
      exact hJ4 _ _ _ _ (if_pos h2).symm hW (lv_sub hl [0, 1] rfl)
    · refine lv_aload_n F.1 F.2.1 dX0_recordUnlessError_19 rfl (lv_at hl 0 rfl) ?_
      refine jget F hT hW fw_X0_18 oH3 (by decide) rfl dX0_recordUnlessError_20 ?_
      refine lv_iconst (v := 1) F.1 F.2.1 dX0_recordUnlessError_23 (by decide) ?_
      refine lv_iadd F.1 F.2.1 dX0_recordUnlessError_24 ?_
      refine lv_goto (tgt := 29) F.1 F.2.1 dX0_recordUnlessError_25 (by decide) ?_
      exact hJ4 _ _ _ _ (if_neg h2).symm hW (lv_sub hl [0, 1] rfl)

def p_X0_prepare (μ : Mu) : Mu :=
  let S1 : Mu := fo μ (4 + (cn (μ 11 3 1))) (p_X3_copyFrom (μ (4 + (cn (μ 11 3 1)))) (μ 0))
  S1

set_option maxHeartbeats 4000000 in
set_option maxRecDepth 100000 in
theorem c_X0_prepare (l : Launch) (E : mE) (μ : Mu) (hc : Wc μ) : CtV l E yX0_prepare cX0_prepare 2 2 43 [.ref (ea E 11 3), .ref (ea E 0 0)] μ (fun μ' => μ' = p_X0_prepare μ) := by
  refine jMet (by decide +kernel) (Nat.le_of_ble_eq_true rfl) ?_
  intro p e s m below meth c ls F hT hr0 hlk hW hl
  have F : CallFix p m c cX0_prepare 2 s _ TB RX0 := F
  have hl : lv_has ls 2 [(0, .ref (ea E 11 3)), (1, .ref (ea E 0 0))] := hl
  have hx6 := hc.2.1.2
  refine lv_aload_n F.1 F.2.1 dX0_prepare_0 rfl (lv_at hl 0 rfl) ?_
  refine jgetR F hT hW fw_X0_11 oH3 (by decide) rfl dX0_prepare_1 ?_
  refine lv_aload_n F.1 F.2.1 dX0_prepare_4 rfl (lv_at hl 0 rfl) ?_
  refine jget F hT (hW.foc 11) fw_X0_18 oH3 (by decide) rfl dX0_prepare_5 ?_
  refine jaald (t := 6) (C := RX3) F hT hW (cn (μ 11 3 1)) oH4 rfl (by omega) (by decide) hc.2.1.1 rfl dX0_prepare_8 ?_
  refine lv_aload_n F.1 F.2.1 dX0_prepare_9 rfl (lv_at hl 1 rfl) ?_
  refine jcvM (jrunV (As := [.ref (ea E 0 0)]) (rest := []) F hT (hW.foc (4 + (cn (μ 11 3 1)))) yc_X3_copyFrom yv_X3_copyFrom ml_X0_22 (oSrv (by omega)) (by decide) rfl (c_X3_copyFrom l E μ (4 + (cn (μ 11 3 1))) (by omega) (μ (4 + (cn (μ 11 3 1)))) 0 (μ 0) (by decide) (by omega) rfl (hc.1 0 (by decide)).1.1 (hc.1 0 (by decide)).1.2.1 (hc.1 0 (by decide)).1.2.2.1 (hc.1 0 (by decide)).2) rfl hl.1 ⟨Nat.le_of_ble_eq_true rfl, Nat.le_of_ble_eq_true rfl⟩ rfl (Nat.le_of_ble_eq_true rfl) ⟨Nat.le_refl _, Nat.le_refl _⟩ dX0_prepare_10) hW (fun S1 H locs eS1 hW => ?_)
  have hq : S1 = p_X0_prepare μ := by
    subst eS1
    exact (rfl).symm
  exact jrv F hr0 hlk hW dX0_prepare_13 hq

def p_X0_takeBack (μ : Mu) : Int32 × Mu :=
  if (μ 11 3 2) = 0 then
    (((-5) : Int32), μ)
  else
    let S2 : Mu := fo μ 11 (us (μ 11) 3 2 ((μ 11 3 2) - 1))
    let v4 : Int32 := (if (S2 11 3 1) ≤ 0 then 7 - 1 else (S2 11 3 1) - 1)
    let S6 : Mu := fo S2 11 (us (S2 11) 3 1 v4)
    let S7 : Mu := fo S6 0 (p_X3_copyFrom (S6 0) (S6 (4 + (cn (S6 11 3 1)))))
    ((S7 11 3 2 : Int32), S7)
