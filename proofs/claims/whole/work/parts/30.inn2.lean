/-! class InterruptInn: saving, forecasts -/
theorem wf_set {S : Sv} {a b : Int32} (h : Wf S) : Wf (p_X3_changeSetting S a b).2 := by
  unfold p_X3_changeSetting
  dsimp only
  repeat' split
  all_goals dsimp only
  all_goals first | exact h | exact h.same (us_ne _ _ (by omega)) (us_ne _ _ (by omega)) (us_ne _ _ (by omega)) (fun q _ => us_ne _ _ (by omega)) (fun q _ => us_ne _ _ (by omega))

def p_X6_save (μ : Mu) (sl : Int32) : Int32 × Mu :=
  let x1 : Int32 := p_X6_within sl 0 1
  if x1 = 0 then
    (((-2) : Int32), μ)
  else
    let S3 : Mu := fo μ (2 + (cn sl)) (p_X3_copyFrom (μ (2 + (cn sl))) (μ 0))
    let S4 : Mu := fo S3 11 (us (S3 11) 2 (cn sl) 1)
    ((S4 0 0 0 : Int32), S4)

set_option maxHeartbeats 4000000 in
set_option maxRecDepth 100000 in
theorem c_X6_save (l : Launch) (E : mE) (μ : Mu) (sl : Int32) (hc : Wc μ) : CtI l E yX6_save cX6_save 2 (some .int) 2 43 [.ref (ea E 11 0), .int sl] μ (fun x μ' => x = (p_X6_save μ sl).1 ∧ μ' = (p_X6_save μ sl).2) := by
  refine jMet (by decide +kernel) (Nat.le_of_ble_eq_true rfl) ?_
  intro p e s m below meth c ls F hT hr0 hlk hW hl
  have F : CallFix p m c cX6_save 2 s _ TB RX6 := F
  have hl : lv_has ls 2 [(0, .ref (ea E 11 0)), (1, .int sl)] := hl
  have ws0 := hc.1 0 (by decide)
  refine lv_iload_n F.1 F.2.1 dX6_save_0 rfl (lv_at hl 1 rfl) ?_
  refine lv_iconst (v := 0) F.1 F.2.1 dX6_save_1 (by decide) ?_
  refine lv_iconst (v := 1) F.1 F.2.1 dX6_save_2 (by decide) ?_
  refine jcip (jrunS (As := [.int sl, .int 0, .int 1]) (rest := []) F hT hW yc_X6_within ys_X6_within ml_X6_111 (c_X6_within l E μ sl 0 1) rfl hl.1 ⟨Nat.le_of_ble_eq_true rfl, Nat.le_of_ble_eq_true rfl⟩ rfl (Nat.le_of_ble_eq_true rfl) ⟨Nat.le_refl _, Nat.le_refl _⟩ dX6_save_3) hW (fun x1 H locs ex1 hW => ?_)
  refine lv_if_ne (tgt := 12) F.1 F.2.1 dX6_save_6 (by decide) (fun h2 => ?_) (fun h2 => ?_)
  · obtain ⟨hs1, hs2⟩ := wN (a := sl) (n := 1) rfl (by decide) (by assumption) (by assumption)
    refine lv_aload_n F.1 F.2.1 dX6_save_12 rfl (lv_at hl 0 rfl) ?_
    refine jgetR F hT hW fw_X6_19 oH0 (by decide) rfl dX6_save_13 ?_
    refine lv_iload_n F.1 F.2.1 dX6_save_16 rfl (lv_at hl 1 rfl) ?_
    refine jaald (t := 6) (C := RX3) F hT hW (cn sl) oH1 rfl (by omega) (by decide) hs1 rfl dX6_save_17 ?_
    refine lv_aload_n F.1 F.2.1 dX6_save_18 rfl (lv_at hl 0 rfl) ?_
    refine jgetR F hT hW fw_X6_10 oH0 (by decide) rfl dX6_save_19 ?_
    refine jcvM (jrunV (As := [.ref (ea E 0 0)]) (rest := []) F hT (hW.foc (2 + (cn sl))) yc_X3_copyFrom yv_X3_copyFrom ml_X6_102 (oSrv (by omega)) (by decide) rfl (c_X3_copyFrom l E μ (2 + (cn sl)) (by omega) (μ (2 + (cn sl))) 0 (μ 0) (by decide) (by omega) rfl ws0.1.1 ws0.1.2.1 ws0.1.2.2.1 ws0.2) rfl hl.1 ⟨Nat.le_of_ble_eq_true rfl, Nat.le_of_ble_eq_true rfl⟩ rfl (Nat.le_of_ble_eq_true rfl) ⟨Nat.le_refl _, Nat.le_refl _⟩ dX6_save_22) hW (fun S3 H locs eS3 hW => ?_)
    refine lv_aload_n F.1 F.2.1 dX6_save_25 rfl (lv_at hl 0 rfl) ?_
    refine jgetR F hT hW fw_X6_23 oH0 (by decide) rfl dX6_save_26 ?_
    refine lv_iload_n F.1 F.2.1 dX6_save_29 rfl (lv_at hl 1 rfl) ?_
    refine lv_iconst (v := 1) F.1 F.2.1 dX6_save_30 (by decide) ?_
    refine jzastM (cn sl) F hT hW oH2 (by decide) (by omega) (by decide) hs1 rfl (znar (Or.inr rfl)) dX6_save_31 (fun S4 H locs eS4 hW => ?_)
    refine lv_aload_n F.1 F.2.1 dX6_save_32 rfl (lv_at hl 0 rfl) ?_
    refine jgetR F hT hW fw_X6_10 oH0 (by decide) rfl dX6_save_33 ?_
    refine jget F hT (hW.foc 0) fw_X6_152 (oSrv (by decide)) (by decide) (rSrv0 (by decide)) dX6_save_36 ?_
    have hq : ((S4 0 0 0 : Int32), S4) = p_X6_save μ sl := by
      subst eS4
      subst eS3
      subst ex1
      exact (if_neg h2).symm
    exact jri F hr0 hlk hW rfl dX6_save_39 ⟨congrArg Prod.fst hq, congrArg Prod.snd hq⟩
  · refine lv_bipush (v := (-2)) F.1 F.2.1 dX6_save_9 (by decide) ?_
    have hq : (((-2) : Int32), μ) = p_X6_save μ sl := by
      subst ex1
      exact (if_pos h2).symm
    exact jri F hr0 hlk hW rfl dX6_save_11 ⟨congrArg Prod.fst hq, congrArg Prod.snd hq⟩

def p_X6_restore (μ : Mu) (sl : Int32) : Int32 × Mu :=
  let x1 : Int32 := p_X6_within sl 0 1
  if x1 = 0 then
    (((-2) : Int32), μ)
  else
    if (μ 11 2 (cn sl)) = 0 then
      (((-5) : Int32), μ)
    else
      let S4 : Mu := p_X0_prepare μ
      let S5 : Mu := fo S4 0 (p_X3_copyFrom (S4 0) (S4 (2 + (cn sl))))
      let x6 : Int32 := (p_X0_recordUnlessError (S5 11) (S5 0 0 0)).1
      let S7 : Mu := fo S5 11 (p_X0_recordUnlessError (S5 11) (S5 0 0 0)).2
      ((x6 : Int32), S7)

set_option maxHeartbeats 4000000 in
set_option maxRecDepth 100000 in
theorem c_X6_restore (l : Launch) (E : mE) (μ : Mu) (sl : Int32) (hc : Wc μ) : CtI l E yX6_restore cX6_restore 2 (some .int) 3 64 [.ref (ea E 11 0), .int sl] μ (fun x μ' => x = (p_X6_restore μ sl).1 ∧ μ' = (p_X6_restore μ sl).2) := by
  refine jMet (by decide +kernel) (Nat.le_of_ble_eq_true rfl) ?_
  intro p e s m below meth c ls F hT hr0 hlk hW hl
  have F : CallFix p m c cX6_restore 2 s _ TB RX6 := F
  have hl : lv_has ls 2 [(0, .ref (ea E 11 0)), (1, .int sl)] := hl
  refine lv_iload_n F.1 F.2.1 dX6_restore_0 rfl (lv_at hl 1 rfl) ?_
  refine lv_iconst (v := 0) F.1 F.2.1 dX6_restore_1 (by decide) ?_
  refine lv_iconst (v := 1) F.1 F.2.1 dX6_restore_2 (by decide) ?_
  refine jcip (jrunS (As := [.int sl, .int 0, .int 1]) (rest := []) F hT hW yc_X6_within ys_X6_within ml_X6_111 (c_X6_within l E μ sl 0 1) rfl hl.1 ⟨Nat.le_of_ble_eq_true rfl, Nat.le_of_ble_eq_true rfl⟩ rfl (Nat.le_of_ble_eq_true rfl) ⟨Nat.le_refl _, Nat.le_refl _⟩ dX6_restore_3) hW (fun x1 H locs ex1 hW => ?_)
  refine lv_if_ne (tgt := 12) F.1 F.2.1 dX6_restore_6 (by decide) (fun h2 => ?_) (fun h2 => ?_)
  · obtain ⟨hs1, hs2⟩ := wN (a := sl) (n := 1) rfl (by decide) (by assumption) (by assumption)
    refine lv_aload_n F.1 F.2.1 dX6_restore_12 rfl (lv_at hl 0 rfl) ?_
    refine jgetR F hT hW fw_X6_23 oH0 (by decide) rfl dX6_restore_13 ?_
    refine lv_iload_n F.1 F.2.1 dX6_restore_16 rfl (lv_at hl 1 rfl) ?_
    refine jzald F hT (hW.foc 11) (cn sl) oH2 (by omega) (by decide) hs1 rfl dX6_restore_17 ?_
    refine lv_if_ne (tgt := 24) F.1 F.2.1 dX6_restore_18 (by decide) (fun h3 => ?_) (fun h3 => ?_)
    · refine lv_aload_n F.1 F.2.1 dX6_restore_24 rfl (lv_at hl 0 rfl) ?_
      refine jgetR F hT hW fw_X6_30 oH0 (by decide) rfl dX6_restore_25 ?_
      refine lv_aload_n F.1 F.2.1 dX6_restore_28 rfl (lv_at hl 0 rfl) ?_
      refine jgetR F hT hW fw_X6_10 oH0 (by decide) rfl dX6_restore_29 ?_
      refine jcvG (jrunV (As := [.ref (ea E 0 0)]) (rest := []) F hT hW yc_X0_prepare yv_X0_prepare ml_X6_41 oH3 (by decide) rfl (c_X0_prepare l E μ hc) rfl hl.1 ⟨Nat.le_of_ble_eq_true rfl, Nat.le_of_ble_eq_true rfl⟩ rfl (Nat.le_of_ble_eq_true rfl) ⟨Nat.le_refl _, Nat.le_refl _⟩ dX6_restore_32) hW (fun S4 H locs eS4 hW => ?_)
      have h0 : S4 0 = μ 0 := by rw [eS4]; exact pre_ne hc (by omega)
      have h12 : S4 12 = μ 12 := by rw [eS4]; exact pre_ne hc (by omega)
      have ws0 : Ws (S4 0) := by rw [h0]; exact hc.1 0 (by decide)
      have ws2 : Ws (S4 (2 + (cn sl))) := by rw [eS4, pre_ne hc (by omega)]; exact hc.1 _ (by omega)
      refine lv_aload_n F.1 F.2.1 dX6_restore_35 rfl (lv_at hl 0 rfl) ?_
      refine jgetR F hT hW fw_X6_10 oH0 (by decide) rfl dX6_restore_36 ?_
      refine lv_aload_n F.1 F.2.1 dX6_restore_39 rfl (lv_at hl 0 rfl) ?_
      refine jgetR F hT hW fw_X6_19 oH0 (by decide) rfl dX6_restore_40 ?_
      refine lv_iload_n F.1 F.2.1 dX6_restore_43 rfl (lv_at hl 1 rfl) ?_
      refine jaald (t := 6) (C := RX3) F hT hW (cn sl) oH1 rfl (by omega) (by decide) hs1 rfl dX6_restore_44 ?_
      refine jcvM (jrunV (As := [.ref (ea E (2 + (cn sl)) 0)]) (rest := []) F hT (hW.foc 0) yc_X3_copyFrom yv_X3_copyFrom ml_X6_102 (oSrv (by decide)) (by decide) rfl (c_X3_copyFrom l E S4 0 (by decide) (S4 0) (2 + (cn sl)) (S4 (2 + (cn sl))) (by omega) (by omega) rfl ws2.1.1 ws2.1.2.1 ws2.1.2.2.1 ws2.2) rfl hl.1 ⟨Nat.le_of_ble_eq_true rfl, Nat.le_of_ble_eq_true rfl⟩ rfl (Nat.le_of_ble_eq_true rfl) ⟨Nat.le_refl _, Nat.le_refl _⟩ dX6_restore_45) hW (fun S5 H locs eS5 hW => ?_)
      refine lv_aload_n F.1 F.2.1 dX6_restore_48 rfl (lv_at hl 0 rfl) ?_
      refine jgetR F hT hW fw_X6_30 oH0 (by decide) rfl dX6_restore_49 ?_
      refine lv_aload_n F.1 F.2.1 dX6_restore_52 rfl (lv_at hl 0 rfl) ?_
      refine jgetR F hT hW fw_X6_10 oH0 (by decide) rfl dX6_restore_53 ?_
      refine jget F hT (hW.foc 0) fw_X6_152 (oSrv (by decide)) (by decide) (rSrv0 (by decide)) dX6_restore_56 ?_
      refine jcifM (jrunV (As := [.int (S5 0 0 0)]) (rest := []) F hT (hW.foc 11) yc_X0_recordUnlessError yv_X0_recordUnlessError ml_X6_49 oH3 (by decide) rfl (c_X0_recordUnlessError l E S5 (S5 11) (S5 0 0 0)) rfl hl.1 ⟨Nat.le_of_ble_eq_true rfl, Nat.le_of_ble_eq_true rfl⟩ rfl (Nat.le_of_ble_eq_true rfl) ⟨Nat.le_refl _, Nat.le_refl _⟩ dX6_restore_59) hW (fun x6 S7 H locs ex6 eS7 hW => ?_)
      have hq : ((x6 : Int32), S7) = p_X6_restore μ sl := by
        subst eS7
        subst ex6
        subst eS5
        subst eS4
        subst ex1
        exact ((if_neg h2).trans (if_neg h3)).symm
      exact jri F hr0 hlk hW rfl dX6_restore_62 ⟨congrArg Prod.fst hq, congrArg Prod.snd hq⟩
    · refine lv_bipush (v := (-5)) F.1 F.2.1 dX6_restore_21 (by decide) ?_
      have hq : (((-5) : Int32), μ) = p_X6_restore μ sl := by
        subst ex1
        exact ((if_neg h2).trans (if_pos h3)).symm
      exact jri F hr0 hlk hW rfl dX6_restore_23 ⟨congrArg Prod.fst hq, congrArg Prod.snd hq⟩
  · refine lv_bipush (v := (-2)) F.1 F.2.1 dX6_restore_9 (by decide) ?_
    have hq : (((-2) : Int32), μ) = p_X6_restore μ sl := by
      subst ex1
      exact (if_pos h2).symm
    exact jri F hr0 hlk hW rfl dX6_restore_11 ⟨congrArg Prod.fst hq, congrArg Prod.snd hq⟩

def p_X6_beginsIn (μ : Mu) (ln : Int32) : Int32 × Mu :=
  let x1 : Int32 := p_X3_hasLine (μ 0) ln
  if x1 = 0 then
    (((-1) : Int32), μ)
  else
    let S3 : Mu := fo μ 1 (p_X3_copyFrom (μ 1) (μ 0))
    let x4 : Int32 := (p_X3_ticksUntilBegin (S3 1) ln 600).1
    let S5 : Mu := fo S3 1 (p_X3_ticksUntilBegin (S3 1) ln 600).2
    ((x4 : Int32), S5)

set_option maxHeartbeats 4000000 in
set_option maxRecDepth 100000 in
theorem c_X6_beginsIn (l : Launch) (E : mE) (μ : Mu) (ln : Int32) (hc : Wc μ) : CtI l E yX6_beginsIn cX6_beginsIn 2 (some .int) 5 116 [.ref (ea E 11 0), .int ln] μ (fun x μ' => x = (p_X6_beginsIn μ ln).1 ∧ μ' = (p_X6_beginsIn μ ln).2) := by
  refine jMet (by decide +kernel) (Nat.le_of_ble_eq_true rfl) ?_
  intro p e s m below meth c ls F hT hr0 hlk hW hl
  have F : CallFix p m c cX6_beginsIn 2 s _ TB RX6 := F
  have hl : lv_has ls 2 [(0, .ref (ea E 11 0)), (1, .int ln)] := hl
  have ws0 := hc.1 0 (by decide)
  have hn12 := (hc.1 0 (by decide)).1.1.2
  refine lv_aload_n F.1 F.2.1 dX6_beginsIn_0 rfl (lv_at hl 0 rfl) ?_
  refine jgetR F hT hW fw_X6_10 oH0 (by decide) rfl dX6_beginsIn_1 ?_
  refine lv_iload_n F.1 F.2.1 dX6_beginsIn_4 rfl (lv_at hl 1 rfl) ?_
  refine jcipM (jrunV (As := [.int ln]) (rest := []) F hT (hW.foc 0) yc_X3_hasLine yv_X3_hasLine ml_X6_98 (oSrv (by decide)) (by decide) rfl (c_X3_hasLine l E μ 0 (by decide) (μ 0) ln) rfl hl.1 ⟨Nat.le_of_ble_eq_true rfl, Nat.le_of_ble_eq_true rfl⟩ rfl (Nat.le_of_ble_eq_true rfl) ⟨Nat.le_refl _, Nat.le_refl _⟩ dX6_beginsIn_5) hW (fun x1 H locs ex1 hW => ?_)
  refine lv_if_ne (tgt := 13) F.1 F.2.1 dX6_beginsIn_8 (by decide) (fun h2 => ?_) (fun h2 => ?_)
  · refine lv_aload_n F.1 F.2.1 dX6_beginsIn_13 rfl (lv_at hl 0 rfl) ?_
    refine jgetR F hT hW fw_X6_16 oH0 (by decide) rfl dX6_beginsIn_14 ?_
    refine lv_aload_n F.1 F.2.1 dX6_beginsIn_17 rfl (lv_at hl 0 rfl) ?_
    refine jgetR F hT hW fw_X6_10 oH0 (by decide) rfl dX6_beginsIn_18 ?_
    refine jcvM (jrunV (As := [.ref (ea E 0 0)]) (rest := []) F hT (hW.foc 1) yc_X3_copyFrom yv_X3_copyFrom ml_X6_102 (oSrv (by decide)) (by decide) rfl (c_X3_copyFrom l E μ 1 (by decide) (μ 1) 0 (μ 0) (by decide) (by omega) rfl ws0.1.1 ws0.1.2.1 ws0.1.2.2.1 ws0.2) rfl hl.1 ⟨Nat.le_of_ble_eq_true rfl, Nat.le_of_ble_eq_true rfl⟩ rfl (Nat.le_of_ble_eq_true rfl) ⟨Nat.le_refl _, Nat.le_refl _⟩ dX6_beginsIn_21) hW (fun S3 H locs eS3 hW => ?_)
    have wf1 : Wf (S3 1) := by rw [eS3, fo_at]; exact wf_copy ws0.1
    refine lv_aload_n F.1 F.2.1 dX6_beginsIn_24 rfl (lv_at hl 0 rfl) ?_
    refine jgetR F hT hW fw_X6_16 oH0 (by decide) rfl dX6_beginsIn_25 ?_
    refine lv_iload_n F.1 F.2.1 dX6_beginsIn_28 rfl (lv_at hl 1 rfl) ?_
    refine lv_sipush (v := 600) F.1 F.2.1 dX6_beginsIn_29 (by decide) ?_
    refine jcifM (jrunV (As := [.int ln, .int 600]) (rest := []) F hT (hW.foc 1) yc_X3_ticksUntilBegin yv_X3_ticksUntilBegin ml_X6_105 (oSrv (by decide)) (by decide) rfl (c_X3_ticksUntilBegin l E S3 1 (by decide) (S3 1) ln 600 600 (lI 600) wf1 (by first | assumption | omega)) rfl hl.1 ⟨Nat.le_of_ble_eq_true rfl, Nat.le_of_ble_eq_true rfl⟩ rfl (Nat.le_of_ble_eq_true rfl) ⟨Nat.le_refl _, Nat.le_refl _⟩ dX6_beginsIn_32) hW (fun x4 S5 H locs ex4 eS5 hW => ?_)
    have hq : ((x4 : Int32), S5) = p_X6_beginsIn μ ln := by
      subst eS5
      subst ex4
      subst eS3
      subst ex1
      exact (if_neg h2).symm
    exact jri F hr0 hlk hW rfl dX6_beginsIn_35 ⟨congrArg Prod.fst hq, congrArg Prod.snd hq⟩
  · refine lv_iconst (v := (-1)) F.1 F.2.1 dX6_beginsIn_11 (by decide) ?_
    have hq : (((-1) : Int32), μ) = p_X6_beginsIn μ ln := by
      subst ex1
      exact (if_pos h2).symm
    exact jri F hr0 hlk hW rfl dX6_beginsIn_12 ⟨congrArg Prod.fst hq, congrArg Prod.snd hq⟩

def p_X6_idleIn (μ : Mu) : Int32 × Mu :=
  let S1 : Mu := fo μ 1 (p_X3_copyFrom (μ 1) (μ 0))
  let x2 : Int32 := (p_X3_ticksUntilIdle (S1 1) 600).1
  let S3 : Mu := fo S1 1 (p_X3_ticksUntilIdle (S1 1) 600).2
  ((x2 : Int32), S3)

set_option maxHeartbeats 4000000 in
set_option maxRecDepth 100000 in
theorem c_X6_idleIn (l : Launch) (E : mE) (μ : Mu) (hc : Wc μ) : CtI l E yX6_idleIn cX6_idleIn 1 (some .int) 5 115 [.ref (ea E 11 0)] μ (fun x μ' => x = (p_X6_idleIn μ).1 ∧ μ' = (p_X6_idleIn μ).2) := by
  refine jMet (by decide +kernel) (Nat.le_of_ble_eq_true rfl) ?_
  intro p e s m below meth c ls F hT hr0 hlk hW hl
  have F : CallFix p m c cX6_idleIn 1 s _ TB RX6 := F
  have hl : lv_has ls 1 [(0, .ref (ea E 11 0))] := hl
  have ws0 := hc.1 0 (by decide)
  refine lv_aload_n F.1 F.2.1 dX6_idleIn_0 rfl (lv_at hl 0 rfl) ?_
  refine jgetR F hT hW fw_X6_16 oH0 (by decide) rfl dX6_idleIn_1 ?_
  refine lv_aload_n F.1 F.2.1 dX6_idleIn_4 rfl (lv_at hl 0 rfl) ?_
  refine jgetR F hT hW fw_X6_10 oH0 (by decide) rfl dX6_idleIn_5 ?_
  refine jcvM (jrunV (As := [.ref (ea E 0 0)]) (rest := []) F hT (hW.foc 1) yc_X3_copyFrom yv_X3_copyFrom ml_X6_102 (oSrv (by decide)) (by decide) rfl (c_X3_copyFrom l E μ 1 (by decide) (μ 1) 0 (μ 0) (by decide) (by omega) rfl ws0.1.1 ws0.1.2.1 ws0.1.2.2.1 ws0.2) rfl hl.1 ⟨Nat.le_of_ble_eq_true rfl, Nat.le_of_ble_eq_true rfl⟩ rfl (Nat.le_of_ble_eq_true rfl) ⟨Nat.le_refl _, Nat.le_refl _⟩ dX6_idleIn_8) hW (fun S1 H locs eS1 hW => ?_)
  have wf1 : Wf (S1 1) := by rw [eS1, fo_at]; exact wf_copy ws0.1
  refine lv_aload_n F.1 F.2.1 dX6_idleIn_11 rfl (lv_at hl 0 rfl) ?_
  refine jgetR F hT hW fw_X6_16 oH0 (by decide) rfl dX6_idleIn_12 ?_
  refine lv_sipush (v := 600) F.1 F.2.1 dX6_idleIn_15 (by decide) ?_
  refine jcifM (jrunV (As := [.int 600]) (rest := []) F hT (hW.foc 1) yc_X3_ticksUntilIdle yv_X3_ticksUntilIdle ml_X6_108 (oSrv (by decide)) (by decide) rfl (c_X3_ticksUntilIdle l E S1 1 (by decide) (S1 1) 600 600 (lI 600) wf1 (by first | assumption | omega)) rfl hl.1 ⟨Nat.le_of_ble_eq_true rfl, Nat.le_of_ble_eq_true rfl⟩ rfl (Nat.le_of_ble_eq_true rfl) ⟨Nat.le_refl _, Nat.le_refl _⟩ dX6_idleIn_18) hW (fun x2 S3 H locs ex2 eS3 hW => ?_)
  have hq : ((x2 : Int32), S3) = p_X6_idleIn μ := by
    subst eS3
    subst ex2
    subst eS1
    exact (rfl).symm
  exact jri F hr0 hlk hW rfl dX6_idleIn_21 ⟨congrArg Prod.fst hq, congrArg Prod.snd hq⟩

def p_X6_missesIn (μ : Mu) (tk : Int32) : Int32 × Mu :=
  let x1 : Int32 := p_X6_within tk 1 500
  if x1 = 0 then
    (((-2) : Int32), μ)
  else
    let S3 : Mu := fo μ 1 (p_X3_copyFrom (μ 1) (μ 0))
    let x4 : Int32 := (p_X3_passTicks (S3 1) tk).1
    let S5 : Mu := fo S3 1 (p_X3_passTicks (S3 1) tk).2
    let x6 : Int32 := p_X3_missesOfAll (S5 1)
    let x7 : Int32 := p_X3_missesOfAll (S5 0)
    ((x6 - x7 : Int32), S5)

set_option maxHeartbeats 4000000 in
set_option maxRecDepth 100000 in
theorem c_X6_missesIn (l : Launch) (E : mE) (μ : Mu) (tk : Int32) (hc : Wc μ) : CtI l E yX6_missesIn cX6_missesIn 2 (some .int) 5 115 [.ref (ea E 11 0), .int tk] μ (fun x μ' => x = (p_X6_missesIn μ tk).1 ∧ μ' = (p_X6_missesIn μ tk).2) := by
  refine jMet (by decide +kernel) (Nat.le_of_ble_eq_true rfl) ?_
  intro p e s m below meth c ls F hT hr0 hlk hW hl
  have F : CallFix p m c cX6_missesIn 2 s _ TB RX6 := F
  have hl : lv_has ls 2 [(0, .ref (ea E 11 0)), (1, .int tk)] := hl
  have ws0 := hc.1 0 (by decide)
  refine lv_iload_n F.1 F.2.1 dX6_missesIn_0 rfl (lv_at hl 1 rfl) ?_
  refine lv_iconst (v := 1) F.1 F.2.1 dX6_missesIn_1 (by decide) ?_
  refine lv_sipush (v := 500) F.1 F.2.1 dX6_missesIn_2 (by decide) ?_
  refine jcip (jrunS (As := [.int tk, .int 1, .int 500]) (rest := []) F hT hW yc_X6_within ys_X6_within ml_X6_111 (c_X6_within l E μ tk 1 500) rfl hl.1 ⟨Nat.le_of_ble_eq_true rfl, Nat.le_of_ble_eq_true rfl⟩ rfl (Nat.le_of_ble_eq_true rfl) ⟨Nat.le_refl _, Nat.le_refl _⟩ dX6_missesIn_5) hW (fun x1 H locs ex1 hW => ?_)
  refine lv_if_ne (tgt := 14) F.1 F.2.1 dX6_missesIn_8 (by decide) (fun h2 => ?_) (fun h2 => ?_)
  · refine lv_aload_n F.1 F.2.1 dX6_missesIn_14 rfl (lv_at hl 0 rfl) ?_
    refine jgetR F hT hW fw_X6_16 oH0 (by decide) rfl dX6_missesIn_15 ?_
    refine lv_aload_n F.1 F.2.1 dX6_missesIn_18 rfl (lv_at hl 0 rfl) ?_
    refine jgetR F hT hW fw_X6_10 oH0 (by decide) rfl dX6_missesIn_19 ?_
    refine jcvM (jrunV (As := [.ref (ea E 0 0)]) (rest := []) F hT (hW.foc 1) yc_X3_copyFrom yv_X3_copyFrom ml_X6_102 (oSrv (by decide)) (by decide) rfl (c_X3_copyFrom l E μ 1 (by decide) (μ 1) 0 (μ 0) (by decide) (by omega) rfl ws0.1.1 ws0.1.2.1 ws0.1.2.2.1 ws0.2) rfl hl.1 ⟨Nat.le_of_ble_eq_true rfl, Nat.le_of_ble_eq_true rfl⟩ rfl (Nat.le_of_ble_eq_true rfl) ⟨Nat.le_refl _, Nat.le_refl _⟩ dX6_missesIn_22) hW (fun S3 H locs eS3 hW => ?_)
    have wf1 : Wf (S3 1) := by rw [eS3, fo_at]; exact wf_copy ws0.1
    have h01 : S3 0 = μ 0 := by rw [eS3]; exact fo_ne _ _ (by decide)
    refine lv_aload_n F.1 F.2.1 dX6_missesIn_25 rfl (lv_at hl 0 rfl) ?_
    refine jgetR F hT hW fw_X6_16 oH0 (by decide) rfl dX6_missesIn_26 ?_
    refine lv_iload_n F.1 F.2.1 dX6_missesIn_29 rfl (lv_at hl 1 rfl) ?_
    refine jcifM (jrunV (As := [.int tk]) (rest := []) F hT (hW.foc 1) yc_X3_passTicks yv_X3_passTicks ml_X6_76 (oSrv (by decide)) (by decide) rfl (c_X3_passTicks l E S3 1 (by decide) (S3 1) tk wf1) rfl hl.1 ⟨Nat.le_of_ble_eq_true rfl, Nat.le_of_ble_eq_true rfl⟩ rfl (Nat.le_of_ble_eq_true rfl) ⟨Nat.le_refl _, Nat.le_refl _⟩ dX6_missesIn_30) hW (fun x4 S5 H locs ex4 eS5 hW => ?_)
    have wf2 : Wf (S5 1) := by rw [eS5, fo_at]; exact wf_ticks wf1
    have h00 : S5 0 = μ 0 := by rw [eS5, fo_ne _ _ (by decide)]; exact h01
    refine lv_pop F.1 F.2.1 dX6_missesIn_33 rfl ?_
    refine lv_aload_n F.1 F.2.1 dX6_missesIn_34 rfl (lv_at hl 0 rfl) ?_
    refine jgetR F hT hW fw_X6_16 oH0 (by decide) rfl dX6_missesIn_35 ?_
    refine jcipM (jrunV (As := []) (rest := []) F hT (hW.foc 1) yc_X3_missesOfAll yv_X3_missesOfAll ml_X6_115 (oSrv (by decide)) (by decide) rfl (c_X3_missesOfAll l E S5 1 (by decide) (S5 1) wf2.1) rfl hl.1 ⟨Nat.le_of_ble_eq_true rfl, Nat.le_of_ble_eq_true rfl⟩ rfl (Nat.le_of_ble_eq_true rfl) ⟨Nat.le_refl _, Nat.le_refl _⟩ dX6_missesIn_38) hW (fun x6 H locs ex6 hW => ?_)
    refine lv_aload_n F.1 F.2.1 dX6_missesIn_41 rfl (lv_at hl 0 rfl) ?_
    refine jgetR F hT hW fw_X6_10 oH0 (by decide) rfl dX6_missesIn_42 ?_
    refine jcipM (jrunV (As := []) (rest := [.int x6]) F hT (hW.foc 0) yc_X3_missesOfAll yv_X3_missesOfAll ml_X6_115 (oSrv (by decide)) (by decide) rfl (c_X3_missesOfAll l E S5 0 (by decide) (S5 0) (by rw [h00]; exact ws0.1.1)) rfl hl.1 ⟨Nat.le_of_ble_eq_true rfl, Nat.le_of_ble_eq_true rfl⟩ rfl (Nat.le_of_ble_eq_true rfl) ⟨Nat.le_refl _, Nat.le_refl _⟩ dX6_missesIn_45) hW (fun x7 H locs ex7 hW => ?_)
    refine lv_isub F.1 F.2.1 dX6_missesIn_48 ?_
    have hq : ((x6 - x7 : Int32), S5) = p_X6_missesIn μ tk := by
      subst ex7
      subst ex6
      subst eS5
      subst ex4
      subst eS3
      subst ex1
      exact (if_neg h2).symm
    exact jri F hr0 hlk hW rfl dX6_missesIn_49 ⟨congrArg Prod.fst hq, congrArg Prod.snd hq⟩
  · refine lv_bipush (v := (-2)) F.1 F.2.1 dX6_missesIn_11 (by decide) ?_
    have hq : (((-2) : Int32), μ) = p_X6_missesIn μ tk := by
      subst ex1
      exact (if_pos h2).symm
    exact jri F hr0 hlk hW rfl dX6_missesIn_13 ⟨congrArg Prod.fst hq, congrArg Prod.snd hq⟩

def q_X6_greatestBar_34 (μ : Mu) (ln : Int32) (tk : Int32) : Nat → Nat → Mu → Int32 → Int32 × Mu
  | 0, j, S5, v6 =>
    (((-6) : Int32), S5)
  | fu + 1, j, S5, v6 =>
    let S8 : Mu := fo S5 1 (p_X3_copyFrom (S5 1) (S5 0))
    let x9 : Int32 := (p_X3_changeSetting (S8 1) 6 v6).1
    let S10 : Mu := fo S8 1 (p_X3_changeSetting (S8 1) 6 v6).2
    let x11 : Int32 := (p_X3_ticksUntilBegin (S10 1) ln (cn tk)).1
    let S12 : Mu := fo S10 1 (p_X3_ticksUntilBegin (S10 1) ln (cn tk)).2
    if x11 = (-6) then
      q_X6_greatestBar_34 μ ln tk fu (j + 1) S12 (v6 + (-1))
    else
      ((v6 : Int32), S12)
def p_X6_greatestBar (μ : Mu) (ln : Int32) (tk : Int32) : Int32 × Mu :=
  let x1 : Int32 := p_X3_hasLine (μ 0) ln
  if x1 = 0 then
    (((-1) : Int32), μ)
  else
    let x3 : Int32 := p_X6_within tk 1 200
    if x3 = 0 then
      (((-2) : Int32), μ)
    else
      q_X6_greatestBar_34 μ ln tk 32 0 μ (vMst 6)

set_option maxHeartbeats 4000000 in
set_option maxRecDepth 100000 in
theorem c_X6_greatestBar (l : Launch) (E : mE) (μ : Mu) (ln : Int32) (tk : Int32) (hc : Wc μ) : CtI l E yX6_greatestBar cX6_greatestBar 4 (some .int) 5 116 [.ref (ea E 11 0), .int ln, .int tk] μ (fun x μ' => x = (p_X6_greatestBar μ ln tk).1 ∧ μ' = (p_X6_greatestBar μ ln tk).2) := by
  refine jMet (by decide +kernel) (Nat.le_of_ble_eq_true rfl) ?_
  intro p e s m below meth c ls F hT hr0 hlk hW hl
  have F : CallFix p m c cX6_greatestBar 4 s _ TB RX6 := F
  have hl : lv_has ls 4 [(0, .ref (ea E 11 0)), (1, .int ln), (2, .int tk)] := hl
  have ws0 := hc.1 0 (by decide)
  have h12μ : μ 12 = μ 12 := rfl
  refine lv_aload_n F.1 F.2.1 dX6_greatestBar_0 rfl (lv_at hl 0 rfl) ?_
  refine jgetR F hT hW fw_X6_10 oH0 (by decide) rfl dX6_greatestBar_1 ?_
  refine lv_iload_n F.1 F.2.1 dX6_greatestBar_4 rfl (lv_at hl 1 rfl) ?_
  refine jcipM (jrunV (As := [.int ln]) (rest := []) F hT (hW.foc 0) yc_X3_hasLine yv_X3_hasLine ml_X6_98 (oSrv (by decide)) (by decide) rfl (c_X3_hasLine l E μ 0 (by decide) (μ 0) ln) rfl hl.1 ⟨Nat.le_of_ble_eq_true rfl, Nat.le_of_ble_eq_true rfl⟩ rfl (Nat.le_of_ble_eq_true rfl) ⟨Nat.le_refl _, Nat.le_refl _⟩ dX6_greatestBar_5) hW (fun x1 H locs ex1 hW => ?_)
  refine lv_if_ne (tgt := 13) F.1 F.2.1 dX6_greatestBar_8 (by decide) (fun h2 => ?_) (fun h2 => ?_)
  · refine lv_iload_n F.1 F.2.1 dX6_greatestBar_13 rfl (lv_at hl 2 rfl) ?_
    refine lv_iconst (v := 1) F.1 F.2.1 dX6_greatestBar_14 (by decide) ?_
    refine lv_sipush (v := 200) F.1 F.2.1 dX6_greatestBar_15 (by decide) ?_
    refine jcip (jrunS (As := [.int tk, .int 1, .int 200]) (rest := []) F hT hW yc_X6_within ys_X6_within ml_X6_111 (c_X6_within l E μ tk 1 200) rfl hl.1 ⟨Nat.le_of_ble_eq_true rfl, Nat.le_of_ble_eq_true rfl⟩ rfl (Nat.le_of_ble_eq_true rfl) ⟨Nat.le_refl _, Nat.le_refl _⟩ dX6_greatestBar_18) hW (fun x3 H locs ex3 hW => ?_)
    refine lv_if_ne (tgt := 27) F.1 F.2.1 dX6_greatestBar_21 (by decide) (fun h4 => ?_) (fun h4 => ?_)
    · obtain ⟨ht1, ht2⟩ := wB (a := tk) (lI 1) (lI 200) (by decide) (by assumption) (by assumption)
      refine jgs F hW hT.2.2.2.2 fs_X6_119 dX6_greatestBar_27 ?_
      refine lv_bipush (v := 6) F.1 F.2.1 dX6_greatestBar_30 (by decide) ?_
      refine jialdG 6 F hT hW oZ2 (by omega) (by decide) (lI 6) rfl (v := vMst 6) (by rw [h12μ]; exact hc.2.2.2.2.2.2 _ (by decide)) dX6_greatestBar_32 ?_
      refine lv_istore_n (lv' := [(3, .int (vMst 6)), (0, .ref (ea E 11 0)), (1, .int ln), (2, .int tk)]) F.1 F.2.1 dX6_greatestBar_33 rfl hl (by decide) rfl (fun ls hl => ?_)
      have hL7 : ∀ (fu j : Nat) (S5 : Mu) (v6 : Int32) (H : Heap) (locs : List Loc) (ls : Array Slot), j + fu = 32 → p_X6_greatestBar μ ln tk = q_X6_greatestBar_34 μ ln tk fu j S5 v6 → S5 0 = μ 0 → S5 12 = μ 12 → v6 = nI (32 - j) + (-1) → Wd E s H locs S5 → lv_has ls 4 [(3, .int v6), (0, .ref (ea E 11 0)), (1, .int ln), (2, .int tk)] → W p l e (rmO 5 116) s m ([.ref (ea E 11 0), .int ln, .int tk] : List Value).toArray below meth c H locs 0 0 (MQ below (va_Qi (fun x μ' => x = (p_X6_greatestBar μ ln tk).1 ∧ μ' = (p_X6_greatestBar μ ln tk).2) (fun μ' t => MB E μ' t.heap) (AA E)) ([.ref (ea E 11 0), .int ln, .int tk] : List Value).toArray s 0 0 (AA E)) (F0 m 34 ls []) := by
        intro fu
        induction fu with
        | zero =>
          intro j S5 v6 H locs ls hj hres hSx h12S5 hv3 hW hl
          refine lv_iload_n F.1 F.2.1 dX6_greatestBar_34 rfl (lv_at hl 0 rfl) ?_
          refine jgs F hW hT.2.2.2.1 fs_X6_123 dX6_greatestBar_35 ?_
          refine lv_bipush (v := 6) F.1 F.2.1 dX6_greatestBar_38 (by decide) ?_
          refine jialdG 6 F hT hW oZ1 (by omega) (by decide) (lI 6) rfl (v := vLst 6) (by rw [h12S5]; exact hc.2.2.2.2.2.1 _ (by decide)) dX6_greatestBar_40 ?_
          refine lv_icmp_lt (tgt := 88) F.1 F.2.1 dX6_greatestBar_41 (by decide) (fun h8 => ?_) (fun h8 => ?_)
          · refine lv_bipush (v := (-6)) F.1 F.2.1 dX6_greatestBar_88 (by decide) ?_
            have hq : (((-6) : Int32), S5) = p_X6_greatestBar μ ln tk := by
              exact (hres).symm
            exact jri F hr0 hlk hW rfl dX6_greatestBar_90 ⟨congrArg Prod.fst hq, congrArg Prod.snd hq⟩
          · exact absurd (show v6 < vLst 6 by rw [hv3, show 32 - j = 0 by omega]; decide) h8
        | succ fu ih =>
          intro j S5 v6 H locs ls hj hres hSx h12S5 hv3 hW hl
          have wsx : Ws (S5 0) := by rw [hSx]; exact ws0
          refine lv_iload_n F.1 F.2.1 dX6_greatestBar_34 rfl (lv_at hl 0 rfl) ?_
          refine jgs F hW hT.2.2.2.1 fs_X6_123 dX6_greatestBar_35 ?_
          refine lv_bipush (v := 6) F.1 F.2.1 dX6_greatestBar_38 (by decide) ?_
          refine jialdG 6 F hT hW oZ1 (by omega) (by decide) (lI 6) rfl (v := vLst 6) (by rw [h12S5]; exact hc.2.2.2.2.2.1 _ (by decide)) dX6_greatestBar_40 ?_
          refine lv_icmp_lt (tgt := 88) F.1 F.2.1 dX6_greatestBar_41 (by decide) (fun h7 => ?_) (fun h7 => ?_)
          · exact absurd h7 (c_nlt (hv3.trans (dcI rfl (by omega))) (show vLst 6 = nI 0 by decide) (by omega) (by omega))
          · refine lv_aload_n F.1 F.2.1 dX6_greatestBar_44 rfl (lv_at hl 1 rfl) ?_
            refine jgetR F hT hW fw_X6_16 oH0 (by decide) rfl dX6_greatestBar_45 ?_
            refine lv_aload_n F.1 F.2.1 dX6_greatestBar_48 rfl (lv_at hl 1 rfl) ?_
            refine jgetR F hT hW fw_X6_10 oH0 (by decide) rfl dX6_greatestBar_49 ?_
            refine jcvM (jrunV (As := [.ref (ea E 0 0)]) (rest := []) F hT (hW.foc 1) yc_X3_copyFrom yv_X3_copyFrom ml_X6_102 (oSrv (by decide)) (by decide) rfl (c_X3_copyFrom l E S5 1 (by decide) (S5 1) 0 (S5 0) (by decide) (by omega) rfl wsx.1.1 wsx.1.2.1 wsx.1.2.2.1 wsx.2) rfl hl.1 ⟨Nat.le_of_ble_eq_true rfl, Nat.le_of_ble_eq_true rfl⟩ rfl (Nat.le_of_ble_eq_true rfl) ⟨Nat.le_refl _, Nat.le_refl _⟩ dX6_greatestBar_52) hW (fun S8 H locs eS8 hW => ?_)
            have wf1 : Wf (S8 1) := by rw [eS8, fo_at]; exact wf_copy wsx.1
            have h0b : S8 0 = μ 0 := by rw [eS8, fo_ne _ _ (by decide)]; exact hSx
            have h12b : S8 12 = μ 12 := by rw [eS8, fo_ne _ _ (by decide)]; exact h12S5
            refine lv_aload_n F.1 F.2.1 dX6_greatestBar_55 rfl (lv_at hl 1 rfl) ?_
            refine jgetR F hT hW fw_X6_16 oH0 (by decide) rfl dX6_greatestBar_56 ?_
            refine lv_bipush (v := 6) F.1 F.2.1 dX6_greatestBar_59 (by decide) ?_
            refine lv_iload_n F.1 F.2.1 dX6_greatestBar_61 rfl (lv_at hl 0 rfl) ?_
            refine jcifM (jrunV (As := [.int 6, .int v6]) (rest := []) F hT (hW.foc 1) yc_X3_changeSetting yv_X3_changeSetting ml_X6_45 (oSrv (by decide)) (by decide) rfl (c_X3_changeSetting l E S8 1 (by decide) (S8 1) 6 v6 (by rw [h12b]; exact hc.2.2.2.2.2.1) (by rw [h12b]; exact hc.2.2.2.2.2.2)) rfl hl.1 ⟨Nat.le_of_ble_eq_true rfl, Nat.le_of_ble_eq_true rfl⟩ rfl (Nat.le_of_ble_eq_true rfl) ⟨Nat.le_refl _, Nat.le_refl _⟩ dX6_greatestBar_62) hW (fun x9 S10 H locs ex9 eS10 hW => ?_)
            have wf2 : Wf (S10 1) := by rw [eS10, fo_at]; exact wf_set wf1
            have h0d : S10 0 = μ 0 := by rw [eS10, fo_ne _ _ (by decide)]; exact h0b
            have h12d : S10 12 = μ 12 := by rw [eS10, fo_ne _ _ (by decide)]; exact h12b
            refine lv_pop F.1 F.2.1 dX6_greatestBar_65 rfl ?_
            refine lv_aload_n F.1 F.2.1 dX6_greatestBar_66 rfl (lv_at hl 1 rfl) ?_
            refine jgetR F hT hW fw_X6_16 oH0 (by decide) rfl dX6_greatestBar_67 ?_
            refine lv_iload_n F.1 F.2.1 dX6_greatestBar_70 rfl (lv_at hl 2 rfl) ?_
            refine lv_iload_n F.1 F.2.1 dX6_greatestBar_71 rfl (lv_at hl 3 rfl) ?_
            refine jcifM (jrunV (As := [.int ln, .int tk]) (rest := []) F hT (hW.foc 1) yc_X3_ticksUntilBegin yv_X3_ticksUntilBegin ml_X6_105 (oSrv (by decide)) (by decide) rfl (c_X3_ticksUntilBegin l E S10 1 (by decide) (S10 1) ln tk (cn tk) ht1 wf2 (by first | assumption | omega)) rfl hl.1 ⟨Nat.le_of_ble_eq_true rfl, Nat.le_of_ble_eq_true rfl⟩ rfl (Nat.le_of_ble_eq_true rfl) ⟨Nat.le_refl _, Nat.le_refl _⟩ dX6_greatestBar_72) hW (fun x11 S12 H locs ex11 eS12 hW => ?_)
            have h0f : S12 0 = μ 0 := by rw [eS12, fo_ne _ _ (by decide)]; exact h0d
            have h12f : S12 12 = μ 12 := by rw [eS12, fo_ne _ _ (by decide)]; exact h12d
            refine lv_bipush (v := (-6)) F.1 F.2.1 dX6_greatestBar_75 (by decide) ?_
            refine lv_icmp_eq (tgt := 82) F.1 F.2.1 dX6_greatestBar_77 (by decide) (fun h13 => ?_) (fun h13 => ?_)
            · refine lv_iinc (v := v6 + (-1)) (lv' := [(3, .int (v6 + (-1))), (0, .ref (ea E 11 0)), (1, .int ln), (2, .int tk)]) F.1 F.2.1 dX6_greatestBar_82 hl (k := 0) rfl rfl (by decide) rfl (fun ls hl => ?_)
              refine lv_goto (tgt := 34) F.1 F.2.1 dX6_greatestBar_85 (by decide) ?_
              subst eS12
              subst ex11
              subst eS10
              subst ex9
              subst eS8
              exact ih (j + 1) _ _ _ _ _ (by omega) (hres.trans (if_pos h13)) h0f h12f (by rw [hv3, dcI rfl (by omega), Nat.sub_sub]) hW (lv_sub hl [0, 1, 2, 3] rfl)
            · refine lv_iload_n F.1 F.2.1 dX6_greatestBar_80 rfl (lv_at hl 0 rfl) ?_
              have hq : ((v6 : Int32), S12) = p_X6_greatestBar μ ln tk := by
                subst eS12
                subst ex11
                subst eS10
                subst ex9
                subst eS8
                exact ((hres).trans (if_neg h13)).symm
              exact jri F hr0 hlk hW rfl dX6_greatestBar_81 ⟨congrArg Prod.fst hq, congrArg Prod.snd hq⟩
      exact hL7 32 0 μ (vMst 6) _ _ _ (by omega) (by subst ex3; subst ex1; exact (if_neg h2).trans (if_neg h4)) rfl rfl (by decide) hW (lv_sub hl [0, 1, 2, 3] rfl)
    · refine lv_bipush (v := (-2)) F.1 F.2.1 dX6_greatestBar_24 (by decide) ?_
      have hq : (((-2) : Int32), μ) = p_X6_greatestBar μ ln tk := by
        subst ex3
        subst ex1
        exact ((if_neg h2).trans (if_pos h4)).symm
      exact jri F hr0 hlk hW rfl dX6_greatestBar_26 ⟨congrArg Prod.fst hq, congrArg Prod.snd hq⟩
  · refine lv_iconst (v := (-1)) F.1 F.2.1 dX6_greatestBar_11 (by decide) ?_
    have hq : (((-1) : Int32), μ) = p_X6_greatestBar μ ln tk := by
      subst ex1
      exact (if_pos h2).symm
    exact jri F hr0 hlk hW rfl dX6_greatestBar_12 ⟨congrArg Prod.fst hq, congrArg Prod.snd hq⟩

