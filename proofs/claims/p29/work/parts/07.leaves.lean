/-! services, timers, statics, copies of rows, arraycopy -/
def p_X4_number (S : Sv) (i : Nat) (wh : Int32) : Int32 :=
  if wh = 0 then
    (S (23 + i) 0 : Int32)
  else
    if wh = 1 then
      (S (23 + i) 1 : Int32)
    else
      if wh = 2 then
        (S (23 + i) 2 : Int32)
      else
        if wh = 3 then
          (S (23 + i) 3 : Int32)
        else
          ((-2) : Int32)
set_option maxHeartbeats 4000000 in
set_option maxRecDepth 100000 in
theorem c_X4_number (l : Launch) (E : mE) (μ : Mu) (r : Nat) (hr : r < 11) (S : Sv) (i : Nat) (wh : Int32) (hi : i < 8) : CtI l E yX4_number cX4_number 2 (some .int) 0 0 [.ref (ea E r (23 + i)), .int wh] (fo μ r S) (fun x μ' => x = p_X4_number S i wh ∧ μ' = (fo μ r S)) := by
  refine jMet (by decide +kernel) (Nat.le_of_ble_eq_true rfl) ?_
  intro p e s m below meth c ls F hT hr0 hlk hW hl
  have F : CallFix p m c cX4_number 2 s _ TB RX4 := F
  have hl : lv_has ls 2 [(0, .ref (ea E r (23 + i))), (1, .int wh)] := hl
  refine lv_iload_n F.1 F.2.1 dX4_number_0 rfl (lv_at hl 1 rfl) ?_
  rcases Decidable.em (wh = 0) with hk1_0 | hk1_0
  · refine lv_tableIn (off := 31) (tgt := 32) F.1 F.2.1 dX4_number_1 (by rw [hk1_0]; decide) (by rw [hk1_0]; decide) (by rw [hk1_0]; rfl) (by decide) ?_
    refine lv_aload_n F.1 F.2.1 dX4_number_32 rfl (lv_at hl 0 rfl) ?_
    refine jget F hT hW fw_X4_9 (oSvc hr hi) (by decide) (rSvc hr hi) dX4_number_33 ?_
    have hq : (S (23 + i) 0 : Int32) = p_X4_number S i wh := by
      exact (if_pos hk1_0).symm
    exact jri F hr0 hlk hW rfl dX4_number_36 ⟨hq, rfl⟩
  · rcases Decidable.em (wh = 1) with hk1_1 | hk1_1
    · refine lv_tableIn (off := 36) (tgt := 37) F.1 F.2.1 dX4_number_1 (by rw [hk1_1]; decide) (by rw [hk1_1]; decide) (by rw [hk1_1]; rfl) (by decide) ?_
      refine lv_aload_n F.1 F.2.1 dX4_number_37 rfl (lv_at hl 0 rfl) ?_
      refine jget F hT hW fw_X4_15 (oSvc hr hi) (by decide) (rSvc hr hi) dX4_number_38 ?_
      have hq : (S (23 + i) 1 : Int32) = p_X4_number S i wh := by
        exact ((if_neg hk1_0).trans (if_pos hk1_1)).symm
      exact jri F hr0 hlk hW rfl dX4_number_41 ⟨hq, rfl⟩
    · rcases Decidable.em (wh = 2) with hk1_2 | hk1_2
      · refine lv_tableIn (off := 41) (tgt := 42) F.1 F.2.1 dX4_number_1 (by rw [hk1_2]; decide) (by rw [hk1_2]; decide) (by rw [hk1_2]; rfl) (by decide) ?_
        refine lv_aload_n F.1 F.2.1 dX4_number_42 rfl (lv_at hl 0 rfl) ?_
        refine jget F hT hW fw_X4_18 (oSvc hr hi) (by decide) (rSvc hr hi) dX4_number_43 ?_
        have hq : (S (23 + i) 2 : Int32) = p_X4_number S i wh := by
          exact ((if_neg hk1_0).trans ((if_neg hk1_1).trans (if_pos hk1_2))).symm
        exact jri F hr0 hlk hW rfl dX4_number_46 ⟨hq, rfl⟩
      · rcases Decidable.em (wh = 3) with hk1_3 | hk1_3
        · refine lv_tableIn (off := 46) (tgt := 47) F.1 F.2.1 dX4_number_1 (by rw [hk1_3]; decide) (by rw [hk1_3]; decide) (by rw [hk1_3]; rfl) (by decide) ?_
          refine lv_aload_n F.1 F.2.1 dX4_number_47 rfl (lv_at hl 0 rfl) ?_
          refine jget F hT hW fw_X4_21 (oSvc hr hi) (by decide) (rSvc hr hi) dX4_number_48 ?_
          have hq : (S (23 + i) 3 : Int32) = p_X4_number S i wh := by
            exact ((if_neg hk1_0).trans ((if_neg hk1_1).trans ((if_neg hk1_2).trans (if_pos hk1_3)))).symm
          exact jri F hr0 hlk hW rfl dX4_number_51 ⟨hq, rfl⟩
        · refine lv_tableOut (tgt := 52) F.1 F.2.1 dX4_number_1 (by have := lv_neT (a := 0) hk1_0 rfl; have := lv_neT (a := 1) hk1_1 rfl; have := lv_neT (a := 2) hk1_2 rfl; have := lv_neT (a := 3) hk1_3 rfl; omega) (by decide) ?_
          refine lv_bipush (v := (-2)) F.1 F.2.1 dX4_number_52 (by decide) ?_
          have hq : ((-2) : Int32) = p_X4_number S i wh := by
            exact ((if_neg hk1_0).trans ((if_neg hk1_1).trans ((if_neg hk1_2).trans (if_neg hk1_3)))).symm
          exact jri F hr0 hlk hW rfl dX4_number_54 ⟨hq, rfl⟩

def p_X5_number (S : Sv) (i : Nat) (wh : Int32) : Int32 :=
  if wh = 0 then
    (S (16 + i) 0 : Int32)
  else
    if wh = 1 then
      (S (16 + i) 1 : Int32)
    else
      if wh = 2 then
        (S (16 + i) 2 : Int32)
      else
        ((-2) : Int32)
set_option maxHeartbeats 4000000 in
set_option maxRecDepth 100000 in
theorem c_X5_number (l : Launch) (E : mE) (μ : Mu) (r : Nat) (hr : r < 11) (S : Sv) (i : Nat) (wh : Int32) (hi : i < 6) : CtI l E yX5_number cX5_number 2 (some .int) 0 0 [.ref (ea E r (16 + i)), .int wh] (fo μ r S) (fun x μ' => x = p_X5_number S i wh ∧ μ' = (fo μ r S)) := by
  refine jMet (by decide +kernel) (Nat.le_of_ble_eq_true rfl) ?_
  intro p e s m below meth c ls F hT hr0 hlk hW hl
  have F : CallFix p m c cX5_number 2 s _ TB RX5 := F
  have hl : lv_has ls 2 [(0, .ref (ea E r (16 + i))), (1, .int wh)] := hl
  refine lv_iload_n F.1 F.2.1 dX5_number_0 rfl (lv_at hl 1 rfl) ?_
  rcases Decidable.em (wh = 0) with hk1_0 | hk1_0
  · refine lv_tableIn (off := 27) (tgt := 28) F.1 F.2.1 dX5_number_1 (by rw [hk1_0]; decide) (by rw [hk1_0]; decide) (by rw [hk1_0]; rfl) (by decide) ?_
    refine lv_aload_n F.1 F.2.1 dX5_number_28 rfl (lv_at hl 0 rfl) ?_
    refine jget F hT hW fw_X5_9 (oTim hr hi) (by decide) (rTim hr hi) dX5_number_29 ?_
    have hq : (S (16 + i) 0 : Int32) = p_X5_number S i wh := by
      exact (if_pos hk1_0).symm
    exact jri F hr0 hlk hW rfl dX5_number_32 ⟨hq, rfl⟩
  · rcases Decidable.em (wh = 1) with hk1_1 | hk1_1
    · refine lv_tableIn (off := 32) (tgt := 33) F.1 F.2.1 dX5_number_1 (by rw [hk1_1]; decide) (by rw [hk1_1]; decide) (by rw [hk1_1]; rfl) (by decide) ?_
      refine lv_aload_n F.1 F.2.1 dX5_number_33 rfl (lv_at hl 0 rfl) ?_
      refine jget F hT hW fw_X5_15 (oTim hr hi) (by decide) (rTim hr hi) dX5_number_34 ?_
      have hq : (S (16 + i) 1 : Int32) = p_X5_number S i wh := by
        exact ((if_neg hk1_0).trans (if_pos hk1_1)).symm
      exact jri F hr0 hlk hW rfl dX5_number_37 ⟨hq, rfl⟩
    · rcases Decidable.em (wh = 2) with hk1_2 | hk1_2
      · refine lv_tableIn (off := 37) (tgt := 38) F.1 F.2.1 dX5_number_1 (by rw [hk1_2]; decide) (by rw [hk1_2]; decide) (by rw [hk1_2]; rfl) (by decide) ?_
        refine lv_aload_n F.1 F.2.1 dX5_number_38 rfl (lv_at hl 0 rfl) ?_
        refine jget F hT hW fw_X5_18 (oTim hr hi) (by decide) (rTim hr hi) dX5_number_39 ?_
        have hq : (S (16 + i) 2 : Int32) = p_X5_number S i wh := by
          exact ((if_neg hk1_0).trans ((if_neg hk1_1).trans (if_pos hk1_2))).symm
        exact jri F hr0 hlk hW rfl dX5_number_42 ⟨hq, rfl⟩
      · refine lv_tableOut (tgt := 43) F.1 F.2.1 dX5_number_1 (by have := lv_neT (a := 0) hk1_0 rfl; have := lv_neT (a := 1) hk1_1 rfl; have := lv_neT (a := 2) hk1_2 rfl; omega) (by decide) ?_
        refine lv_bipush (v := (-2)) F.1 F.2.1 dX5_number_43 (by decide) ?_
        have hq : ((-2) : Int32) = p_X5_number S i wh := by
          exact ((if_neg hk1_0).trans ((if_neg hk1_1).trans (if_neg hk1_2))).symm
        exact jri F hr0 hlk hW rfl dX5_number_45 ⟨hq, rfl⟩

def p_X6_within (a : Int32) (b : Int32) (d : Int32) : Int32 :=
  let v3 : Int32 := (if a < b then 0 else (if d < a then 0 else 1))
  (v3 : Int32)
set_option maxHeartbeats 4000000 in
set_option maxRecDepth 100000 in
theorem c_X6_within (l : Launch) (E : mE) (μ : Mu) (a : Int32) (b : Int32) (d : Int32) : CtI l E yX6_within cX6_within 3 (some .boolean) 0 0 [.int a, .int b, .int d] μ (fun x μ' => x = p_X6_within a b d ∧ μ' = μ) := by
  refine jMet (by decide +kernel) (Nat.le_of_ble_eq_true rfl) ?_
  intro p e s m below meth c ls F hT hr0 hlk hW hl
  have F : CallFix p m c cX6_within 3 s _ TB RX6 := F
  have hl : lv_has ls 3 [(0, .int a), (1, .int b), (2, .int d)] := hl
  refine lv_iload_n F.1 F.2.1 dX6_within_0 rfl (lv_at hl 0 rfl) ?_
  refine lv_iload_n F.1 F.2.1 dX6_within_1 rfl (lv_at hl 1 rfl) ?_
  have hJ4 : ∀ (v3 : Int32) (H : Heap) (locs : List Loc) (ls : Array Slot), v3 = (if a < b then 0 else (if d < a then 0 else 1)) → Wd E s H locs μ → lv_has ls 3 [(0, .int a), (1, .int b), (2, .int d)] → W p l e (rmO 0 0) s m ([.int a, .int b, .int d] : List Value).toArray below meth c H locs 0 0 (MQ below (va_Qi (fun x μ' => x = p_X6_within a b d ∧ μ' = μ) (fun μ' t => MB E μ' t.heap) (AA E)) ([.int a, .int b, .int d] : List Value).toArray s 0 0 (AA E)) (F0 m 15 ls [.int v3]) := by
    intro v3 H locs ls ev3 hW hl
    have hq : (v3 : Int32) = p_X6_within a b d := by
      subst ev3
      exact (rfl).symm
    exact jri F hr0 hlk hW (znar (by first | assumption | ((try clear hq); subst_vars; (try dsimp only); repeat' (first | exact Or.inl rfl | exact Or.inr rfl | refine iteZ ?_ ?_)))) dX6_within_15 ⟨hq, rfl⟩
  refine lv_icmp_lt (tgt := 14) F.1 F.2.1 dX6_within_2 (by decide) (fun h1 => ?_) (fun h1 => ?_)
  · refine lv_iconst (v := 0) F.1 F.2.1 dX6_within_14 (by decide) ?_
    exact hJ4 _ _ _ _ (if_pos h1).symm hW (lv_sub hl [0, 1, 2] rfl)
  · refine lv_iload_n F.1 F.2.1 dX6_within_5 rfl (lv_at hl 0 rfl) ?_
    refine lv_iload_n F.1 F.2.1 dX6_within_6 rfl (lv_at hl 2 rfl) ?_
    refine lv_icmp_gt (tgt := 14) F.1 F.2.1 dX6_within_7 (by decide) (fun h2 => ?_) (fun h2 => ?_)
    · refine lv_iconst (v := 0) F.1 F.2.1 dX6_within_14 (by decide) ?_
      exact hJ4 _ _ _ _ ((if_neg h1).trans (if_pos h2)).symm hW (lv_sub hl [0, 1, 2] rfl)
    · refine lv_iconst (v := 1) F.1 F.2.1 dX6_within_10 (by decide) ?_
      refine lv_goto (tgt := 15) F.1 F.2.1 dX6_within_11 (by decide) ?_
      exact hJ4 _ _ _ _ ((if_neg h1).trans (if_neg h2)).symm hW (lv_sub hl [0, 1, 2] rfl)

def p_X6_dividedUp (a : Int64) (b : Int64) : Int64 :=
  let v2 : Int64 := (if (lg_cmp b 0) ≤ 0 then 0 else ((a + b) - 1) / b)
  (v2 : Int64)
def p_X5_copyFromS (S : Sv) (i : Nat) (k2 : Nat) : Sv :=
  let S1 : Sv := us S (16 + i) 0 (S (16 + k2) 0)
  let S2 : Sv := us S1 (16 + i) 1 (S1 (16 + k2) 1)
  let S3 : Sv := us S2 (16 + i) 2 (S2 (16 + k2) 2)
  S3
set_option maxHeartbeats 4000000 in
set_option maxRecDepth 100000 in
theorem c_X5_copyFromS (l : Launch) (E : mE) (μ : Mu) (r : Nat) (hr : r < 11) (S : Sv) (i : Nat) (k2 : Nat) (hi : i < 6) (hk2 : k2 < 6) : CtV l E yX5_copyFrom cX5_copyFrom 2 0 0 [.ref (ea E r (16 + i)), .ref (ea E r (16 + k2))] (fo μ r S) (fun μ' => μ' = fo μ r (p_X5_copyFromS S i k2)) := by
  refine jMet (by decide +kernel) (Nat.le_of_ble_eq_true rfl) ?_
  intro p e s m below meth c ls F hT hr0 hlk hW hl
  have F : CallFix p m c cX5_copyFrom 2 s _ TB RX5 := F
  have hl : lv_has ls 2 [(0, .ref (ea E r (16 + i))), (1, .ref (ea E r (16 + k2)))] := hl
  refine lv_aload_n F.1 F.2.1 dX5_copyFrom_0 rfl (lv_at hl 0 rfl) ?_
  refine lv_aload_n F.1 F.2.1 dX5_copyFrom_1 rfl (lv_at hl 1 rfl) ?_
  refine jget F hT hW fw_X5_9 (oTim hr hk2) (by decide) (rTim hr hk2) dX5_copyFrom_2 ?_
  refine jput F hT hW fw_X5_9 ft_5_0 (oTim hr hi) (by decide) (rn12 hr) (rTim hr hi) rfl rfl dX5_copyFrom_5 (fun S1 H locs eS1 hW => ?_)
  refine lv_aload_n F.1 F.2.1 dX5_copyFrom_8 rfl (lv_at hl 0 rfl) ?_
  refine lv_aload_n F.1 F.2.1 dX5_copyFrom_9 rfl (lv_at hl 1 rfl) ?_
  refine jget F hT hW fw_X5_15 (oTim hr hk2) (by decide) (rTim hr hk2) dX5_copyFrom_10 ?_
  refine jput F hT hW fw_X5_15 ft_5_1 (oTim hr hi) (by decide) (rn12 hr) (rTim hr hi) rfl rfl dX5_copyFrom_13 (fun S2 H locs eS2 hW => ?_)
  refine lv_aload_n F.1 F.2.1 dX5_copyFrom_16 rfl (lv_at hl 0 rfl) ?_
  refine lv_aload_n F.1 F.2.1 dX5_copyFrom_17 rfl (lv_at hl 1 rfl) ?_
  refine jget F hT hW fw_X5_18 (oTim hr hk2) (by decide) (rTim hr hk2) dX5_copyFrom_18 ?_
  refine jput F hT hW fw_X5_18 ft_5_2 (oTim hr hi) (by decide) (rn12 hr) (rTim hr hi) rfl rfl dX5_copyFrom_21 (fun S3 H locs eS3 hW => ?_)
  have hq : S3 = p_X5_copyFromS S i k2 := by
    subst eS3
    subst eS2
    subst eS1
    exact (rfl).symm
  exact jrv F hr0 hlk hW dX5_copyFrom_24 (congrArg (fun z => fo μ r z) hq)

def p_X1_copyFromO (S : Sv) (i : Nat) (T : Sv) : Sv :=
  let S1 : Sv := us S (3 + i) 0 (T (3 + i) 0)
  let S2 : Sv := us S1 (3 + i) 1 (T (3 + i) 1)
  let S3 : Sv := us S2 (3 + i) 2 (T (3 + i) 2)
  let S4 : Sv := us S3 (3 + i) 3 (T (3 + i) 3)
  let S5 : Sv := us S4 (3 + i) 4 (T (3 + i) 4)
  let S6 : Sv := us S5 (3 + i) 5 (T (3 + i) 5)
  let S7 : Sv := us S6 (3 + i) 6 (T (3 + i) 6)
  let S8 : Sv := us S7 (3 + i) 7 (T (3 + i) 7)
  let S9 : Sv := us S8 (3 + i) 8 (T (3 + i) 8)
  let S10 : Sv := us S9 (3 + i) 9 (T (3 + i) 9)
  let S11 : Sv := us S10 (3 + i) 10 (T (3 + i) 10)
  let S12 : Sv := us S11 (3 + i) 11 (T (3 + i) 11)
  let S13 : Sv := us S12 (3 + i) 12 (T (3 + i) 12)
  let S14 : Sv := us S13 (3 + i) 13 (T (3 + i) 13)
  let S15 : Sv := us S14 (3 + i) 14 (T (3 + i) 14)
  let S16 : Sv := us S15 (3 + i) 15 (T (3 + i) 15)
  S16
set_option maxHeartbeats 4000000 in
set_option maxRecDepth 100000 in
theorem c_X1_copyFromO (l : Launch) (E : mE) (μ : Mu) (r : Nat) (hr : r < 11) (S : Sv) (i : Nat) (r2 : Nat) (T : Sv) (hi : i < 12) (hr2 : r2 < 11) (hne : r2 ≠ r) (hT2 : μ r2 = T) (hb3 : T (3 + i) 3 = 0 ∨ T (3 + i) 3 = 1) (hb4 : T (3 + i) 4 = 0 ∨ T (3 + i) 4 = 1) (hb5 : T (3 + i) 5 = 0 ∨ T (3 + i) 5 = 1) : CtV l E yX1_copyFrom cX1_copyFrom 2 0 0 [.ref (ea E r (3 + i)), .ref (ea E r2 (3 + i))] (fo μ r S) (fun μ' => μ' = fo μ r (p_X1_copyFromO S i T)) := by
  refine jMet (by decide +kernel) (Nat.le_of_ble_eq_true rfl) ?_
  intro p e s m below meth c ls F hT hr0 hlk hW hl
  have F : CallFix p m c cX1_copyFrom 2 s _ TB RX1 := F
  have hl : lv_has ls 2 [(0, .ref (ea E r (3 + i))), (1, .ref (ea E r2 (3 + i)))] := hl
  refine lv_aload_n F.1 F.2.1 dX1_copyFrom_0 rfl (lv_at hl 0 rfl) ?_
  refine lv_aload_n F.1 F.2.1 dX1_copyFrom_1 rfl (lv_at hl 1 rfl) ?_
  refine jgetG F hT hW fw_X1_52 (oLin hr2 hi) (by decide) (rLin hr2 hi) (v := T (3 + i) 0) (by rw [fo_ne _ _ hne, hT2]) dX1_copyFrom_2 ?_
  refine jput F hT hW fw_X1_52 ft_1_0 (oLin hr hi) (by decide) (rn12 hr) (rLin hr hi) rfl rfl dX1_copyFrom_5 (fun S1 H locs eS1 hW => ?_)
  refine lv_aload_n F.1 F.2.1 dX1_copyFrom_8 rfl (lv_at hl 0 rfl) ?_
  refine lv_aload_n F.1 F.2.1 dX1_copyFrom_9 rfl (lv_at hl 1 rfl) ?_
  refine jgetG F hT hW fw_X1_55 (oLin hr2 hi) (by decide) (rLin hr2 hi) (v := T (3 + i) 1) (by rw [fo_ne _ _ hne, hT2]) dX1_copyFrom_10 ?_
  refine jput F hT hW fw_X1_55 ft_1_1 (oLin hr hi) (by decide) (rn12 hr) (rLin hr hi) rfl rfl dX1_copyFrom_13 (fun S2 H locs eS2 hW => ?_)
  refine lv_aload_n F.1 F.2.1 dX1_copyFrom_16 rfl (lv_at hl 0 rfl) ?_
  refine lv_aload_n F.1 F.2.1 dX1_copyFrom_17 rfl (lv_at hl 1 rfl) ?_
  refine jgetG F hT hW fw_X1_58 (oLin hr2 hi) (by decide) (rLin hr2 hi) (v := T (3 + i) 2) (by rw [fo_ne _ _ hne, hT2]) dX1_copyFrom_18 ?_
  refine jput F hT hW fw_X1_58 ft_1_2 (oLin hr hi) (by decide) (rn12 hr) (rLin hr hi) rfl rfl dX1_copyFrom_21 (fun S3 H locs eS3 hW => ?_)
  refine lv_aload_n F.1 F.2.1 dX1_copyFrom_24 rfl (lv_at hl 0 rfl) ?_
  refine lv_aload_n F.1 F.2.1 dX1_copyFrom_25 rfl (lv_at hl 1 rfl) ?_
  refine jgetG F hT hW fw_X1_9 (oLin hr2 hi) (by decide) (rLin hr2 hi) (v := T (3 + i) 3) (by rw [fo_ne _ _ hne, hT2]) dX1_copyFrom_26 ?_
  refine jput F hT hW fw_X1_9 ft_1_3 (oLin hr hi) (by decide) (rn12 hr) (rLin hr hi) (znar hb3) (zfit hb3) dX1_copyFrom_29 (fun S4 H locs eS4 hW => ?_)
  refine lv_aload_n F.1 F.2.1 dX1_copyFrom_32 rfl (lv_at hl 0 rfl) ?_
  refine lv_aload_n F.1 F.2.1 dX1_copyFrom_33 rfl (lv_at hl 1 rfl) ?_
  refine jgetG F hT hW fw_X1_15 (oLin hr2 hi) (by decide) (rLin hr2 hi) (v := T (3 + i) 4) (by rw [fo_ne _ _ hne, hT2]) dX1_copyFrom_34 ?_
  refine jput F hT hW fw_X1_15 ft_1_4 (oLin hr hi) (by decide) (rn12 hr) (rLin hr hi) (znar hb4) (zfit hb4) dX1_copyFrom_37 (fun S5 H locs eS5 hW => ?_)
  refine lv_aload_n F.1 F.2.1 dX1_copyFrom_40 rfl (lv_at hl 0 rfl) ?_
  refine lv_aload_n F.1 F.2.1 dX1_copyFrom_41 rfl (lv_at hl 1 rfl) ?_
  refine jgetG F hT hW fw_X1_18 (oLin hr2 hi) (by decide) (rLin hr2 hi) (v := T (3 + i) 5) (by rw [fo_ne _ _ hne, hT2]) dX1_copyFrom_42 ?_
  refine jput F hT hW fw_X1_18 ft_1_5 (oLin hr hi) (by decide) (rn12 hr) (rLin hr hi) (znar hb5) (zfit hb5) dX1_copyFrom_45 (fun S6 H locs eS6 hW => ?_)
  refine lv_aload_n F.1 F.2.1 dX1_copyFrom_48 rfl (lv_at hl 0 rfl) ?_
  refine lv_aload_n F.1 F.2.1 dX1_copyFrom_49 rfl (lv_at hl 1 rfl) ?_
  refine jgetG F hT hW fw_X1_21 (oLin hr2 hi) (by decide) (rLin hr2 hi) (v := T (3 + i) 6) (by rw [fo_ne _ _ hne, hT2]) dX1_copyFrom_50 ?_
  refine jput F hT hW fw_X1_21 ft_1_6 (oLin hr hi) (by decide) (rn12 hr) (rLin hr hi) rfl rfl dX1_copyFrom_53 (fun S7 H locs eS7 hW => ?_)
  refine lv_aload_n F.1 F.2.1 dX1_copyFrom_56 rfl (lv_at hl 0 rfl) ?_
  refine lv_aload_n F.1 F.2.1 dX1_copyFrom_57 rfl (lv_at hl 1 rfl) ?_
  refine jgetG F hT hW fw_X1_25 (oLin hr2 hi) (by decide) (rLin hr2 hi) (v := T (3 + i) 7) (by rw [fo_ne _ _ hne, hT2]) dX1_copyFrom_58 ?_
  refine jput F hT hW fw_X1_25 ft_1_7 (oLin hr hi) (by decide) (rn12 hr) (rLin hr hi) rfl rfl dX1_copyFrom_61 (fun S8 H locs eS8 hW => ?_)
  refine lv_aload_n F.1 F.2.1 dX1_copyFrom_64 rfl (lv_at hl 0 rfl) ?_
  refine lv_aload_n F.1 F.2.1 dX1_copyFrom_65 rfl (lv_at hl 1 rfl) ?_
  refine jgetG F hT hW fw_X1_28 (oLin hr2 hi) (by decide) (rLin hr2 hi) (v := T (3 + i) 8) (by rw [fo_ne _ _ hne, hT2]) dX1_copyFrom_66 ?_
  refine jput F hT hW fw_X1_28 ft_1_8 (oLin hr hi) (by decide) (rn12 hr) (rLin hr hi) rfl rfl dX1_copyFrom_69 (fun S9 H locs eS9 hW => ?_)
  refine lv_aload_n F.1 F.2.1 dX1_copyFrom_72 rfl (lv_at hl 0 rfl) ?_
  refine lv_aload_n F.1 F.2.1 dX1_copyFrom_73 rfl (lv_at hl 1 rfl) ?_
  refine jgetG F hT hW fw_X1_31 (oLin hr2 hi) (by decide) (rLin hr2 hi) (v := T (3 + i) 9) (by rw [fo_ne _ _ hne, hT2]) dX1_copyFrom_74 ?_
  refine jput F hT hW fw_X1_31 ft_1_9 (oLin hr hi) (by decide) (rn12 hr) (rLin hr hi) rfl rfl dX1_copyFrom_77 (fun S10 H locs eS10 hW => ?_)
  refine lv_aload_n F.1 F.2.1 dX1_copyFrom_80 rfl (lv_at hl 0 rfl) ?_
  refine lv_aload_n F.1 F.2.1 dX1_copyFrom_81 rfl (lv_at hl 1 rfl) ?_
  refine jgetG F hT hW fw_X1_34 (oLin hr2 hi) (by decide) (rLin hr2 hi) (v := T (3 + i) 10) (by rw [fo_ne _ _ hne, hT2]) dX1_copyFrom_82 ?_
  refine jput F hT hW fw_X1_34 ft_1_10 (oLin hr hi) (by decide) (rn12 hr) (rLin hr hi) rfl rfl dX1_copyFrom_85 (fun S11 H locs eS11 hW => ?_)
  refine lv_aload_n F.1 F.2.1 dX1_copyFrom_88 rfl (lv_at hl 0 rfl) ?_
  refine lv_aload_n F.1 F.2.1 dX1_copyFrom_89 rfl (lv_at hl 1 rfl) ?_
  refine jgetG F hT hW fw_X1_37 (oLin hr2 hi) (by decide) (rLin hr2 hi) (v := T (3 + i) 11) (by rw [fo_ne _ _ hne, hT2]) dX1_copyFrom_90 ?_
  refine jput F hT hW fw_X1_37 ft_1_11 (oLin hr hi) (by decide) (rn12 hr) (rLin hr hi) rfl rfl dX1_copyFrom_93 (fun S12 H locs eS12 hW => ?_)
  refine lv_aload_n F.1 F.2.1 dX1_copyFrom_96 rfl (lv_at hl 0 rfl) ?_
  refine lv_aload_n F.1 F.2.1 dX1_copyFrom_97 rfl (lv_at hl 1 rfl) ?_
  refine jgetG F hT hW fw_X1_40 (oLin hr2 hi) (by decide) (rLin hr2 hi) (v := T (3 + i) 12) (by rw [fo_ne _ _ hne, hT2]) dX1_copyFrom_98 ?_
  refine jput F hT hW fw_X1_40 ft_1_12 (oLin hr hi) (by decide) (rn12 hr) (rLin hr hi) rfl rfl dX1_copyFrom_101 (fun S13 H locs eS13 hW => ?_)
  refine lv_aload_n F.1 F.2.1 dX1_copyFrom_104 rfl (lv_at hl 0 rfl) ?_
  refine lv_aload_n F.1 F.2.1 dX1_copyFrom_105 rfl (lv_at hl 1 rfl) ?_
  refine jgetG F hT hW fw_X1_43 (oLin hr2 hi) (by decide) (rLin hr2 hi) (v := T (3 + i) 13) (by rw [fo_ne _ _ hne, hT2]) dX1_copyFrom_106 ?_
  refine jput F hT hW fw_X1_43 ft_1_13 (oLin hr hi) (by decide) (rn12 hr) (rLin hr hi) rfl rfl dX1_copyFrom_109 (fun S14 H locs eS14 hW => ?_)
  refine lv_aload_n F.1 F.2.1 dX1_copyFrom_112 rfl (lv_at hl 0 rfl) ?_
  refine lv_aload_n F.1 F.2.1 dX1_copyFrom_113 rfl (lv_at hl 1 rfl) ?_
  refine jgetG F hT hW fw_X1_46 (oLin hr2 hi) (by decide) (rLin hr2 hi) (v := T (3 + i) 14) (by rw [fo_ne _ _ hne, hT2]) dX1_copyFrom_114 ?_
  refine jput F hT hW fw_X1_46 ft_1_14 (oLin hr hi) (by decide) (rn12 hr) (rLin hr hi) rfl rfl dX1_copyFrom_117 (fun S15 H locs eS15 hW => ?_)
  refine lv_aload_n F.1 F.2.1 dX1_copyFrom_120 rfl (lv_at hl 0 rfl) ?_
  refine lv_aload_n F.1 F.2.1 dX1_copyFrom_121 rfl (lv_at hl 1 rfl) ?_
  refine jgetG F hT hW fw_X1_49 (oLin hr2 hi) (by decide) (rLin hr2 hi) (v := T (3 + i) 15) (by rw [fo_ne _ _ hne, hT2]) dX1_copyFrom_122 ?_
  refine jput F hT hW fw_X1_49 ft_1_15 (oLin hr hi) (by decide) (rn12 hr) (rLin hr hi) rfl rfl dX1_copyFrom_125 (fun S16 H locs eS16 hW => ?_)
  have hq : S16 = p_X1_copyFromO S i T := by
    subst eS16
    subst eS15
    subst eS14
    subst eS13
    subst eS12
    subst eS11
    subst eS10
    subst eS9
    subst eS8
    subst eS7
    subst eS6
    subst eS5
    subst eS4
    subst eS3
    subst eS2
    subst eS1
    exact (rfl).symm
  exact jrv F hr0 hlk hW dX1_copyFrom_128 (congrArg (fun z => fo μ r z) hq)

def p_X5_copyFromO (S : Sv) (i : Nat) (T : Sv) : Sv :=
  let S1 : Sv := us S (16 + i) 0 (T (16 + i) 0)
  let S2 : Sv := us S1 (16 + i) 1 (T (16 + i) 1)
  let S3 : Sv := us S2 (16 + i) 2 (T (16 + i) 2)
  S3
set_option maxHeartbeats 4000000 in
set_option maxRecDepth 100000 in
theorem c_X5_copyFromO (l : Launch) (E : mE) (μ : Mu) (r : Nat) (hr : r < 11) (S : Sv) (i : Nat) (r2 : Nat) (T : Sv) (hi : i < 6) (hr2 : r2 < 11) (hne : r2 ≠ r) (hT2 : μ r2 = T) : CtV l E yX5_copyFrom cX5_copyFrom 2 0 0 [.ref (ea E r (16 + i)), .ref (ea E r2 (16 + i))] (fo μ r S) (fun μ' => μ' = fo μ r (p_X5_copyFromO S i T)) := by
  refine jMet (by decide +kernel) (Nat.le_of_ble_eq_true rfl) ?_
  intro p e s m below meth c ls F hT hr0 hlk hW hl
  have F : CallFix p m c cX5_copyFrom 2 s _ TB RX5 := F
  have hl : lv_has ls 2 [(0, .ref (ea E r (16 + i))), (1, .ref (ea E r2 (16 + i)))] := hl
  refine lv_aload_n F.1 F.2.1 dX5_copyFrom_0 rfl (lv_at hl 0 rfl) ?_
  refine lv_aload_n F.1 F.2.1 dX5_copyFrom_1 rfl (lv_at hl 1 rfl) ?_
  refine jgetG F hT hW fw_X5_9 (oTim hr2 hi) (by decide) (rTim hr2 hi) (v := T (16 + i) 0) (by rw [fo_ne _ _ hne, hT2]) dX5_copyFrom_2 ?_
  refine jput F hT hW fw_X5_9 ft_5_0 (oTim hr hi) (by decide) (rn12 hr) (rTim hr hi) rfl rfl dX5_copyFrom_5 (fun S1 H locs eS1 hW => ?_)
  refine lv_aload_n F.1 F.2.1 dX5_copyFrom_8 rfl (lv_at hl 0 rfl) ?_
  refine lv_aload_n F.1 F.2.1 dX5_copyFrom_9 rfl (lv_at hl 1 rfl) ?_
  refine jgetG F hT hW fw_X5_15 (oTim hr2 hi) (by decide) (rTim hr2 hi) (v := T (16 + i) 1) (by rw [fo_ne _ _ hne, hT2]) dX5_copyFrom_10 ?_
  refine jput F hT hW fw_X5_15 ft_5_1 (oTim hr hi) (by decide) (rn12 hr) (rTim hr hi) rfl rfl dX5_copyFrom_13 (fun S2 H locs eS2 hW => ?_)
  refine lv_aload_n F.1 F.2.1 dX5_copyFrom_16 rfl (lv_at hl 0 rfl) ?_
  refine lv_aload_n F.1 F.2.1 dX5_copyFrom_17 rfl (lv_at hl 1 rfl) ?_
  refine jgetG F hT hW fw_X5_18 (oTim hr2 hi) (by decide) (rTim hr2 hi) (v := T (16 + i) 2) (by rw [fo_ne _ _ hne, hT2]) dX5_copyFrom_18 ?_
  refine jput F hT hW fw_X5_18 ft_5_2 (oTim hr hi) (by decide) (rn12 hr) (rTim hr hi) rfl rfl dX5_copyFrom_21 (fun S3 H locs eS3 hW => ?_)
  have hq : S3 = p_X5_copyFromO S i T := by
    subst eS3
    subst eS2
    subst eS1
    exact (rfl).symm
  exact jrv F hr0 hlk hW dX5_copyFrom_24 (congrArg (fun z => fo μ r z) hq)

def p_X4_copyFromO (S : Sv) (i : Nat) (T : Sv) : Sv :=
  let S1 : Sv := us S (23 + i) 0 (T (23 + i) 0)
  let S2 : Sv := us S1 (23 + i) 1 (T (23 + i) 1)
  let S3 : Sv := us S2 (23 + i) 2 (T (23 + i) 2)
  let S4 : Sv := us S3 (23 + i) 3 (T (23 + i) 3)
  S4
set_option maxHeartbeats 4000000 in
set_option maxRecDepth 100000 in
theorem c_X4_copyFromO (l : Launch) (E : mE) (μ : Mu) (r : Nat) (hr : r < 11) (S : Sv) (i : Nat) (r2 : Nat) (T : Sv) (hi : i < 8) (hr2 : r2 < 11) (hne : r2 ≠ r) (hT2 : μ r2 = T) : CtV l E yX4_copyFrom cX4_copyFrom 2 0 0 [.ref (ea E r (23 + i)), .ref (ea E r2 (23 + i))] (fo μ r S) (fun μ' => μ' = fo μ r (p_X4_copyFromO S i T)) := by
  refine jMet (by decide +kernel) (Nat.le_of_ble_eq_true rfl) ?_
  intro p e s m below meth c ls F hT hr0 hlk hW hl
  have F : CallFix p m c cX4_copyFrom 2 s _ TB RX4 := F
  have hl : lv_has ls 2 [(0, .ref (ea E r (23 + i))), (1, .ref (ea E r2 (23 + i)))] := hl
  refine lv_aload_n F.1 F.2.1 dX4_copyFrom_0 rfl (lv_at hl 0 rfl) ?_
  refine lv_aload_n F.1 F.2.1 dX4_copyFrom_1 rfl (lv_at hl 1 rfl) ?_
  refine jgetG F hT hW fw_X4_9 (oSvc hr2 hi) (by decide) (rSvc hr2 hi) (v := T (23 + i) 0) (by rw [fo_ne _ _ hne, hT2]) dX4_copyFrom_2 ?_
  refine jput F hT hW fw_X4_9 ft_4_0 (oSvc hr hi) (by decide) (rn12 hr) (rSvc hr hi) rfl rfl dX4_copyFrom_5 (fun S1 H locs eS1 hW => ?_)
  refine lv_aload_n F.1 F.2.1 dX4_copyFrom_8 rfl (lv_at hl 0 rfl) ?_
  refine lv_aload_n F.1 F.2.1 dX4_copyFrom_9 rfl (lv_at hl 1 rfl) ?_
  refine jgetG F hT hW fw_X4_15 (oSvc hr2 hi) (by decide) (rSvc hr2 hi) (v := T (23 + i) 1) (by rw [fo_ne _ _ hne, hT2]) dX4_copyFrom_10 ?_
  refine jput F hT hW fw_X4_15 ft_4_1 (oSvc hr hi) (by decide) (rn12 hr) (rSvc hr hi) rfl rfl dX4_copyFrom_13 (fun S2 H locs eS2 hW => ?_)
  refine lv_aload_n F.1 F.2.1 dX4_copyFrom_16 rfl (lv_at hl 0 rfl) ?_
  refine lv_aload_n F.1 F.2.1 dX4_copyFrom_17 rfl (lv_at hl 1 rfl) ?_
  refine jgetG F hT hW fw_X4_18 (oSvc hr2 hi) (by decide) (rSvc hr2 hi) (v := T (23 + i) 2) (by rw [fo_ne _ _ hne, hT2]) dX4_copyFrom_18 ?_
  refine jput F hT hW fw_X4_18 ft_4_2 (oSvc hr hi) (by decide) (rn12 hr) (rSvc hr hi) rfl rfl dX4_copyFrom_21 (fun S3 H locs eS3 hW => ?_)
  refine lv_aload_n F.1 F.2.1 dX4_copyFrom_24 rfl (lv_at hl 0 rfl) ?_
  refine lv_aload_n F.1 F.2.1 dX4_copyFrom_25 rfl (lv_at hl 1 rfl) ?_
  refine jgetG F hT hW fw_X4_21 (oSvc hr2 hi) (by decide) (rSvc hr2 hi) (v := T (23 + i) 3) (by rw [fo_ne _ _ hne, hT2]) dX4_copyFrom_26 ?_
  refine jput F hT hW fw_X4_21 ft_4_3 (oSvc hr hi) (by decide) (rn12 hr) (rSvc hr hi) rfl rfl dX4_copyFrom_29 (fun S4 H locs eS4 hW => ?_)
  have hq : S4 = p_X4_copyFromO S i T := by
    subst eS4
    subst eS3
    subst eS2
    subst eS1
    exact (rfl).symm
  exact jrv F hr0 hlk hW dX4_copyFrom_32 (congrArg (fun z => fo μ r z) hq)

theorem wn_acS : Cond.static arraycopyName ∈ TB := tb_in 242 (by decide +kernel) rfl
theorem wn_acN : Cond.native arraycopyName ∈ TB := tb_in 243 (by decide +kernel) rfl
theorem wn_sys : Cond.initialized "java/lang/System" ∈ TB := tb_in 8 (by decide +kernel) rfl
theorem arrV_congr {cA : ClassId} {n : Nat} {f g : Nat → Value} (h : ∀ j, j < n → f j = g j) : arrV cA n f = arrV cA n g := by
  have e : (fun j : Fin n => f j.val) = fun j : Fin n => g j.val := funext fun j => h j.val j.2
  unfold arrV
  rw [e]
theorem cp_cell {E : mE} {μ : Mu} {S T : Sv} {r : Nat} {H : Heap} (hr : r < 11) (h : H[ea E r 1]? = some (arrV (E.2.1 0) 7 (fun j => Value.int (va_cpy (T 1) (S 1) 0 0 7 j)))) : cellAt E (fo μ r (cpS S T)) H r 1 := by
  unfold cellAt
  rw [(oSet (E := E) hr).2, if_neg (by decide), h]
  refine arA.of (congrArg some (arrV_congr fun z hz => ?_))
  rw [sl_i (rSet hr), fo_at]
  have hz : z < 7 := hz
  unfold cpS va_cpy
  rw [if_pos (show 0 ≤ z ∧ z < 0 + 7 by omega), if_pos ⟨rfl, hz⟩]
  simp
theorem cp_all {E : mE} {μ : Mu} {S T : Sv} {r : Nat} {H H1 : Heap} (hI : Inj E) (hr : r < 11) (hM : MB E (fo μ r S) H) (h : H1[ea E r 1]? = some (arrV (E.2.1 0) 7 (fun j => Value.int (va_cpy (T 1) (S 1) 0 0 7 j)))) (oq : ∀ q : Nat, q ≠ ea E r 1 → H1[q]? = H[q]?) : MB E (fo μ r (cpS S T)) H1 := by
  intro r' p' hl'
  by_cases he : r' = r ∧ p' = 1
  · obtain ⟨rfl, rfl⟩ := he
    exact cp_cell hr h
  · have hne2 : ea E r' p' ≠ ea E r 1 := fun e => he (hI _ _ _ _ hl' (oSet hr).1 e)
    have h0 := hM r' p' hl'
    have hs2 : sl E (fo μ r (cpS S T)) r' p' = sl E (fo μ r S) r' p' := by
      funext k'
      unfold sl
      split
      · rfl
      · congr 1
        unfold fo
        split
        · next h2 => exact if_neg (fun z => he ⟨h2, z.1⟩)
        · rfl
    unfold cellAt at h0 ⊢
    rw [hs2]
    split
    · next h2 =>
      rw [if_pos h2] at h0
      obtain ⟨q, g1, g2⟩ := h0
      exact ⟨q, g1, g2.kept (oq _ hne2)⟩
    · next h2 =>
      rw [if_neg h2] at h0
      rw [oq _ hne2]
      exact h0
theorem jcopy7 {p : Program} {l : Launch} {e : Env} {R : Room} {s : State} {m : MethodId} {args : Array Value} {below : List Frame} {meth : Method} {c : Code} {H : Heap} {locs : List Loc} {cells slots : Nat} {Q : State → Prop} {cc : ByteArray} {nL pc index : Nat} {ls : Array Slot} {rest : List Value} {own : String} {E : mE} {μ : Mu} {S T : Sv} {r r2 : Nat}
    (F : CallFix p m c cc nL s args TB own) (hT : Stat E s) (hW : Wd E s H locs (fo μ r S)) (hr : r < 11) (hr2 : r2 < 11) (hne : r2 ≠ r) (hT2 : μ r2 = T) (hl7 : ls.size = nL) (hframes : 1 ≤ R.frames) (hlocals : (rest.map fun v => v.category).sum + 18 ≤ R.locals) (hlk : Cond.methodLink own index arraycopyName ∈ TB) (hdg : decode cc pc = .ok (.invokestatic index, 3))
    (kk : ∀ (S' : Sv) (H : Heap) (locs : List Loc), S' = cpS S T → Wd E s H locs (fo μ r S') → W p l e R s m args below meth c H locs cells slots Q (F0 m (pc + 3) ls rest)) : W p l e R s m args below meth c H locs cells slots Q (F0 m pc ls (.int 7 :: .int 0 :: .ref (ea E r 1) :: .int 0 :: .ref (ea E r2 1) :: rest)) := by
  intro T0 hT0 X
  have hc0 : H[ea E r2 1]? = some (arrV (E.2.1 0) 7 (sl E (fo μ r S) r2 1)) := isO.arr (t := 0) (oSet hr2) (rn12 hr2) hW.1
  have hc1 : H[ea E r 1]? = some (arrV (E.2.1 0) 7 (sl E (fo μ r S) r 1)) := isO.arr (t := 0) (oSet hr) (rn12 hr) hW.1
  have e0 : sl E (fo μ r S) r2 1 = fun j => .int (T 1 j) := by
    funext j
    rw [sl_i (rSet hr2), fo_ne _ _ hne, hT2]
  have e1 : sl E (fo μ r S) r 1 = fun j => .int (S 1 j) := by
    funext j
    rw [sl_i (rSet hr), fo_at]
  rw [e0] at hc0
  rw [e1] at hc1
  obtain ⟨-, k0, hk0, cm0, hkk0⟩ := (hT.K.2 0 _ rfl).1 7 (fun j => .int (T 1 j))
  obtain ⟨-, k1, hk1, cm1, hkk1⟩ := (hT.K.2 0 _ rfl).1 7 (fun j => .int (S 1 j))
  obtain ⟨vm', X', step⟩ := X.arraycopy F.1 F.2.2.2.1 (F.2.2.2.2 _ hlk) (F.2.2.2.2 _ wn_acN) (F.2.2.2.2 _ wn_acS) (F.2.2.2.2 _ wn_sys) (src := ea E r2 1) (dst := ea E r 1) (srcPos := 0) (destPos := 0) (n := 7) (by rw [hT0]; exact hc0) (by rw [hT0]; exact hc1)
    (fun _ h => by cases h) (fun _ h => by cases h) (fun h => by cases h) (fun h => by cases h) hk0 hk1 hkk0 hkk1 rfl (by decide) (by decide) (by decide)
    (by rw [arrV_size]; decide) (by rw [arrV_size]; decide)
    (fun vm₁ _ i hi => by
      have hi7 : 0 + i < 7 := by
        have h7 : (7 : Int32).toNatClampNeg = 7 := by decide
        rw [h7] at hi
        omega
      have e : (arrV (E.2.1 0) 7 (fun j => Value.int (T 1 j))).slots.getD ((0 : Int32).toNatClampNeg + i) .null = .int (T 1 (0 + i)) := by
        rw [show (0 : Int32).toNatClampNeg = 0 by decide, Array.getD_eq_getD_getElem?, arrV_read _ _ hi7]
        rfl
      rw [e]
      exact ⟨rfl, trivial⟩)
    (g := F0 m pc ls (.int 7 :: .int 0 :: .ref (ea E r 1) :: .int 0 :: .ref (ea E r2 1) :: rest)) rfl (by rw [F.2.2.1]; exact hl7) (rest := rest) rfl (by rw [F.2.1]; exact hdg) hframes (by rw [show nativeFrameWords "java/lang/System" "arraycopy" 5 + 11 = 18 by decide +kernel]; show 2 * 0 + _ + _ ≤ _; omega)
  have e2 : copied (arrV (E.2.1 0) 7 (fun j => Value.int (T 1 j))) (arrV (E.2.1 0) 7 (fun j => Value.int (S 1 j))) 0 0 7 = arrV (E.2.1 0) 7 (fun j => .int (va_cpy (T 1) (S 1) 0 0 7 j)) := va_copied (fun z => .int z) (E.2.1 0) (E.2.1 0) (T 1) (S 1) (n0 := 7) (n1 := 7) (sp := 0) (dp := 0) (n := 7) (by decide)
  rw [e2] at X' step
  have hl : ea E r 1 < H.size := (Array.getElem?_eq_some_iff.mp hc1).1
  generalize hcl : arrV (E.2.1 0) 7 (fun j => Value.int (va_cpy (T 1) (S 1) 0 0 7 j)) = cl at X' step
  have hheap : ((T0.setVm vm').setCell (ea E r 1) cl).heap = H.setIfInBounds (ea E r 1) cl := by rw [← hT0]; rfl
  have oq : ∀ q : Nat, q ≠ ea E r 1 → (H.setIfInBounds (ea E r 1) cl)[q]? = H[q]? := fun q hq => by simp [Array.getElem?_setIfInBounds, Ne.symm hq]
  have own1 : AA E (ea E r 1) := ⟨r, 1, ⟨(oSet hr).1, rn12 hr⟩, rfl⟩
  have hM : MB E (fo μ r (cpS S T)) (H.setIfInBounds (ea E r 1) cl) := cp_all hT.2.1 hr hW.1 (by rw [hcl]; simp [Array.getElem?_setIfInBounds, hl]) oq
  obtain ⟨t, a1, b1⟩ := kk (cpS S T) _ _ rfl ⟨hM, ⟨by simp; exact hW.2.1, fun q g1 g2 => by
      rw [oq q (fun e => g2 (by rw [e]; exact own1))]
      exact hW.2.2.1 q g1 g2, fun q hq => by
      rcases List.mem_append.mp hq with h | h
      · exact hW.2.2.2 q h
      · obtain ⟨z, -, hz⟩ := List.mem_map.mp h
        rw [← hz]
        exact own1⟩⟩ _ hheap X'
  exact ⟨t, step t a1, b1⟩

