/-! class Line -/
def p_X1_becomeNew (S : Sv) (i : Nat) (b : Int32) : Sv :=
  let S1 : Sv := us S (3 + i) 3 b
  let S2 : Sv := us S1 (3 + i) 4 0
  let S3 : Sv := us S2 (3 + i) 5 0
  let S4 : Sv := us S3 (3 + i) 6 0
  let S5 : Sv := us S4 (3 + i) 7 (-6)
  let S6 : Sv := us S5 (3 + i) 8 0
  let S7 : Sv := us S6 (3 + i) 9 0
  let S8 : Sv := us S7 (3 + i) 10 0
  let S9 : Sv := us S8 (3 + i) 11 0
  let S10 : Sv := us S9 (3 + i) 12 0
  let S11 : Sv := us S10 (3 + i) 13 0
  let S12 : Sv := us S11 (3 + i) 14 0
  let S13 : Sv := us S12 (3 + i) 15 0
  S13
set_option maxHeartbeats 4000000 in
set_option maxRecDepth 100000 in
theorem c_X1_becomeNew (l : Launch) (E : mE) (μ : Mu) (r : Nat) (hr : r < 11) (S : Sv) (i : Nat) (b : Int32) (hi : i < 12) (hb : b = 0 ∨ b = 1) : CtV l E yX1_becomeNew cX1_becomeNew 2 0 0 [.ref (ea E r (3 + i)), .int b] (fo μ r S) (fun μ' => μ' = fo μ r (p_X1_becomeNew S i b)) := by
  refine jMet (by decide +kernel) (Nat.le_of_ble_eq_true rfl) ?_
  intro p e s m below meth c ls F hT hr0 hlk hW hl
  have F : CallFix p m c cX1_becomeNew 2 s _ TB RX1 := F
  have hl : lv_has ls 2 [(0, .ref (ea E r (3 + i))), (1, .int b)] := hl
  refine lv_aload_n F.1 F.2.1 dX1_becomeNew_0 rfl (lv_at hl 0 rfl) ?_
  refine lv_iload_n F.1 F.2.1 dX1_becomeNew_1 rfl (lv_at hl 1 rfl) ?_
  refine jput F hT hW fw_X1_9 ft_1_3 (oLin hr hi) (by decide) (rn12 hr) (rLin hr hi) (znar hb) (zfit hb) dX1_becomeNew_2 (fun S1 H locs eS1 hW => ?_)
  refine lv_aload_n F.1 F.2.1 dX1_becomeNew_5 rfl (lv_at hl 0 rfl) ?_
  refine lv_iconst (v := 0) F.1 F.2.1 dX1_becomeNew_6 (by decide) ?_
  refine jput F hT hW fw_X1_15 ft_1_4 (oLin hr hi) (by decide) (rn12 hr) (rLin hr hi) (znar (Or.inl rfl)) (zfit (Or.inl rfl)) dX1_becomeNew_7 (fun S2 H locs eS2 hW => ?_)
  refine lv_aload_n F.1 F.2.1 dX1_becomeNew_10 rfl (lv_at hl 0 rfl) ?_
  refine lv_iconst (v := 0) F.1 F.2.1 dX1_becomeNew_11 (by decide) ?_
  refine jput F hT hW fw_X1_18 ft_1_5 (oLin hr hi) (by decide) (rn12 hr) (rLin hr hi) (znar (Or.inl rfl)) (zfit (Or.inl rfl)) dX1_becomeNew_12 (fun S3 H locs eS3 hW => ?_)
  refine lv_aload_n F.1 F.2.1 dX1_becomeNew_15 rfl (lv_at hl 0 rfl) ?_
  refine lv_iconst (v := 0) F.1 F.2.1 dX1_becomeNew_16 (by decide) ?_
  refine jput F hT hW fw_X1_21 ft_1_6 (oLin hr hi) (by decide) (rn12 hr) (rLin hr hi) rfl rfl dX1_becomeNew_17 (fun S4 H locs eS4 hW => ?_)
  refine lv_aload_n F.1 F.2.1 dX1_becomeNew_20 rfl (lv_at hl 0 rfl) ?_
  refine lv_bipush (v := (-6)) F.1 F.2.1 dX1_becomeNew_21 (by decide) ?_
  refine jput F hT hW fw_X1_25 ft_1_7 (oLin hr hi) (by decide) (rn12 hr) (rLin hr hi) rfl rfl dX1_becomeNew_23 (fun S5 H locs eS5 hW => ?_)
  refine lv_aload_n F.1 F.2.1 dX1_becomeNew_26 rfl (lv_at hl 0 rfl) ?_
  refine lv_iconst (v := 0) F.1 F.2.1 dX1_becomeNew_27 (by decide) ?_
  refine jput F hT hW fw_X1_28 ft_1_8 (oLin hr hi) (by decide) (rn12 hr) (rLin hr hi) rfl rfl dX1_becomeNew_28 (fun S6 H locs eS6 hW => ?_)
  refine lv_aload_n F.1 F.2.1 dX1_becomeNew_31 rfl (lv_at hl 0 rfl) ?_
  refine lv_iconst (v := 0) F.1 F.2.1 dX1_becomeNew_32 (by decide) ?_
  refine jput F hT hW fw_X1_31 ft_1_9 (oLin hr hi) (by decide) (rn12 hr) (rLin hr hi) rfl rfl dX1_becomeNew_33 (fun S7 H locs eS7 hW => ?_)
  refine lv_aload_n F.1 F.2.1 dX1_becomeNew_36 rfl (lv_at hl 0 rfl) ?_
  refine lv_iconst (v := 0) F.1 F.2.1 dX1_becomeNew_37 (by decide) ?_
  refine jput F hT hW fw_X1_34 ft_1_10 (oLin hr hi) (by decide) (rn12 hr) (rLin hr hi) rfl rfl dX1_becomeNew_38 (fun S8 H locs eS8 hW => ?_)
  refine lv_aload_n F.1 F.2.1 dX1_becomeNew_41 rfl (lv_at hl 0 rfl) ?_
  refine lv_iconst (v := 0) F.1 F.2.1 dX1_becomeNew_42 (by decide) ?_
  refine jput F hT hW fw_X1_37 ft_1_11 (oLin hr hi) (by decide) (rn12 hr) (rLin hr hi) rfl rfl dX1_becomeNew_43 (fun S9 H locs eS9 hW => ?_)
  refine lv_aload_n F.1 F.2.1 dX1_becomeNew_46 rfl (lv_at hl 0 rfl) ?_
  refine lv_iconst (v := 0) F.1 F.2.1 dX1_becomeNew_47 (by decide) ?_
  refine jput F hT hW fw_X1_40 ft_1_12 (oLin hr hi) (by decide) (rn12 hr) (rLin hr hi) rfl rfl dX1_becomeNew_48 (fun S10 H locs eS10 hW => ?_)
  refine lv_aload_n F.1 F.2.1 dX1_becomeNew_51 rfl (lv_at hl 0 rfl) ?_
  refine lv_iconst (v := 0) F.1 F.2.1 dX1_becomeNew_52 (by decide) ?_
  refine jput F hT hW fw_X1_43 ft_1_13 (oLin hr hi) (by decide) (rn12 hr) (rLin hr hi) rfl rfl dX1_becomeNew_53 (fun S11 H locs eS11 hW => ?_)
  refine lv_aload_n F.1 F.2.1 dX1_becomeNew_56 rfl (lv_at hl 0 rfl) ?_
  refine lv_iconst (v := 0) F.1 F.2.1 dX1_becomeNew_57 (by decide) ?_
  refine jput F hT hW fw_X1_46 ft_1_14 (oLin hr hi) (by decide) (rn12 hr) (rLin hr hi) rfl rfl dX1_becomeNew_58 (fun S12 H locs eS12 hW => ?_)
  refine lv_aload_n F.1 F.2.1 dX1_becomeNew_61 rfl (lv_at hl 0 rfl) ?_
  refine lv_iconst (v := 0) F.1 F.2.1 dX1_becomeNew_62 (by decide) ?_
  refine jput F hT hW fw_X1_49 ft_1_15 (oLin hr hi) (by decide) (rn12 hr) (rLin hr hi) rfl rfl dX1_becomeNew_63 (fun S13 H locs eS13 hW => ?_)
  have hq : S13 = p_X1_becomeNew S i b := by
    subst eS13
    subst eS12
    subst eS11
    subst eS10
    subst eS9
    subst eS8
    subst eS7
    subst eS6
    subst eS5
    subst eS4
    subst eS3
    subst eS2
    subst eS1
    exact (rfl).symm
  exact jrv F hr0 hlk hW dX1_becomeNew_66 (congrArg (fun z => fo μ r z) hq)

def p_X1_shape (S : Sv) (i : Nat) (a1 : Int32) (a2 : Int32) (a3 : Int32) : Sv :=
  let S1 : Sv := us S (3 + i) 0 a1
  let S2 : Sv := us S1 (3 + i) 1 a2
  let S3 : Sv := us S2 (3 + i) 2 a3
  S3
set_option maxHeartbeats 4000000 in
set_option maxRecDepth 100000 in
theorem c_X1_shape (l : Launch) (E : mE) (μ : Mu) (r : Nat) (hr : r < 11) (S : Sv) (i : Nat) (a1 : Int32) (a2 : Int32) (a3 : Int32) (hi : i < 12) : CtV l E yX1_shape cX1_shape 4 0 0 [.ref (ea E r (3 + i)), .int a1, .int a2, .int a3] (fo μ r S) (fun μ' => μ' = fo μ r (p_X1_shape S i a1 a2 a3)) := by
  refine jMet (by decide +kernel) (Nat.le_of_ble_eq_true rfl) ?_
  intro p e s m below meth c ls F hT hr0 hlk hW hl
  have F : CallFix p m c cX1_shape 4 s _ TB RX1 := F
  have hl : lv_has ls 4 [(0, .ref (ea E r (3 + i))), (1, .int a1), (2, .int a2), (3, .int a3)] := hl
  refine lv_aload_n F.1 F.2.1 dX1_shape_0 rfl (lv_at hl 0 rfl) ?_
  refine lv_iload_n F.1 F.2.1 dX1_shape_1 rfl (lv_at hl 1 rfl) ?_
  refine jput F hT hW fw_X1_52 ft_1_0 (oLin hr hi) (by decide) (rn12 hr) (rLin hr hi) rfl rfl dX1_shape_2 (fun S1 H locs eS1 hW => ?_)
  refine lv_aload_n F.1 F.2.1 dX1_shape_5 rfl (lv_at hl 0 rfl) ?_
  refine lv_iload_n F.1 F.2.1 dX1_shape_6 rfl (lv_at hl 2 rfl) ?_
  refine jput F hT hW fw_X1_55 ft_1_1 (oLin hr hi) (by decide) (rn12 hr) (rLin hr hi) rfl rfl dX1_shape_7 (fun S2 H locs eS2 hW => ?_)
  refine lv_aload_n F.1 F.2.1 dX1_shape_10 rfl (lv_at hl 0 rfl) ?_
  refine lv_iload_n F.1 F.2.1 dX1_shape_11 rfl (lv_at hl 3 rfl) ?_
  refine jput F hT hW fw_X1_58 ft_1_2 (oLin hr hi) (by decide) (rn12 hr) (rLin hr hi) rfl rfl dX1_shape_12 (fun S3 H locs eS3 hW => ?_)
  have hq : S3 = p_X1_shape S i a1 a2 a3 := by
    subst eS3
    subst eS2
    subst eS1
    exact (rfl).symm
  exact jrv F hr0 hlk hW dX1_shape_15 (congrArg (fun z => fo μ r z) hq)

def p_X1_presentRank (S : Sv) (i : Nat) (ag : Int32) (cp : Int32) : Int32 :=
  if (S (3 + i) 5) = 0 then
    (S (3 + i) 0 : Int32)
  else
    if ag ≤ 0 then
      (S (3 + i) 0 : Int32)
    else
      if (S (3 + i) 0) < cp then
        let v5 : Int32 := (if cp ≤ ((S (3 + i) 0) + ((S (3 + i) 6) / ag)) then cp else (S (3 + i) 0) + ((S (3 + i) 6) / ag))
        (v5 : Int32)
      else
        (S (3 + i) 0 : Int32)
set_option maxHeartbeats 4000000 in
set_option maxRecDepth 100000 in
theorem c_X1_presentRank (l : Launch) (E : mE) (μ : Mu) (r : Nat) (hr : r < 11) (S : Sv) (i : Nat) (ag : Int32) (cp : Int32) (hi : i < 12) : CtI l E yX1_presentRank cX1_presentRank 4 (some .int) 0 0 [.ref (ea E r (3 + i)), .int ag, .int cp] (fo μ r S) (fun x μ' => x = p_X1_presentRank S i ag cp ∧ μ' = (fo μ r S)) := by
  refine jMet (by decide +kernel) (Nat.le_of_ble_eq_true rfl) ?_
  intro p e s m below meth c ls F hT hr0 hlk hW hl
  have F : CallFix p m c cX1_presentRank 4 s _ TB RX1 := F
  have hl : lv_has ls 4 [(0, .ref (ea E r (3 + i))), (1, .int ag), (2, .int cp)] := hl
  refine lv_aload_n F.1 F.2.1 dX1_presentRank_0 rfl (lv_at hl 0 rfl) ?_
  refine jget F hT hW fw_X1_18 (oLin hr hi) (by decide) (rLin hr hi) dX1_presentRank_1 ?_
  refine lv_if_eq (tgt := 19) F.1 F.2.1 dX1_presentRank_4 (by decide) (fun h1 => ?_) (fun h1 => ?_)
  · refine lv_aload_n F.1 F.2.1 dX1_presentRank_19 rfl (lv_at hl 0 rfl) ?_
    refine jget F hT hW fw_X1_52 (oLin hr hi) (by decide) (rLin hr hi) dX1_presentRank_20 ?_
    have hq : (S (3 + i) 0 : Int32) = p_X1_presentRank S i ag cp := by
      exact (if_pos h1).symm
    exact jri F hr0 hlk hW rfl dX1_presentRank_23 ⟨hq, rfl⟩
  · refine lv_iload_n F.1 F.2.1 dX1_presentRank_7 rfl (lv_at hl 1 rfl) ?_
    refine lv_if_le (tgt := 19) F.1 F.2.1 dX1_presentRank_8 (by decide) (fun h2 => ?_) (fun h2 => ?_)
    · refine lv_aload_n F.1 F.2.1 dX1_presentRank_19 rfl (lv_at hl 0 rfl) ?_
      refine jget F hT hW fw_X1_52 (oLin hr hi) (by decide) (rLin hr hi) dX1_presentRank_20 ?_
      have hq : (S (3 + i) 0 : Int32) = p_X1_presentRank S i ag cp := by
        exact ((if_neg h1).trans (if_pos h2)).symm
      exact jri F hr0 hlk hW rfl dX1_presentRank_23 ⟨hq, rfl⟩
    · refine lv_aload_n F.1 F.2.1 dX1_presentRank_11 rfl (lv_at hl 0 rfl) ?_
      refine jget F hT hW fw_X1_52 (oLin hr hi) (by decide) (rLin hr hi) dX1_presentRank_12 ?_
      refine lv_iload_n F.1 F.2.1 dX1_presentRank_15 rfl (lv_at hl 2 rfl) ?_
      refine lv_icmp_lt (tgt := 24) F.1 F.2.1 dX1_presentRank_16 (by decide) (fun h3 => ?_) (fun h3 => ?_)
      · refine lv_aload_n F.1 F.2.1 dX1_presentRank_24 rfl (lv_at hl 0 rfl) ?_
        refine jget F hT hW fw_X1_52 (oLin hr hi) (by decide) (rLin hr hi) dX1_presentRank_25 ?_
        refine lv_aload_n F.1 F.2.1 dX1_presentRank_28 rfl (lv_at hl 0 rfl) ?_
        refine jget F hT hW fw_X1_21 (oLin hr hi) (by decide) (rLin hr hi) dX1_presentRank_29 ?_
        refine lv_iload_n F.1 F.2.1 dX1_presentRank_32 rfl (lv_at hl 1 rfl) ?_
        refine lv_idiv F.1 F.2.1 dX1_presentRank_33 (by first | assumption | exact nz0 (by assumption)) ?_
        refine lv_iadd F.1 F.2.1 dX1_presentRank_34 ?_
        refine lv_istore_n (lv' := [(3, .int ((S (3 + i) 0) + ((S (3 + i) 6) / ag))), (0, .ref (ea E r (3 + i))), (1, .int ag), (2, .int cp)]) F.1 F.2.1 dX1_presentRank_35 rfl hl (by decide) rfl (fun ls hl => ?_)
        refine lv_iload_n F.1 F.2.1 dX1_presentRank_36 rfl (lv_at hl 0 rfl) ?_
        refine lv_iload_n F.1 F.2.1 dX1_presentRank_37 rfl (lv_at hl 3 rfl) ?_
        have hJ6 : ∀ (v5 : Int32) (H : Heap) (locs : List Loc) (ls : Array Slot), v5 = (if cp ≤ ((S (3 + i) 0) + ((S (3 + i) 6) / ag)) then cp else (S (3 + i) 0) + ((S (3 + i) 6) / ag)) → Wd E s H locs (fo μ r S) → lv_has ls 4 [(3, .int ((S (3 + i) 0) + ((S (3 + i) 6) / ag))), (0, .ref (ea E r (3 + i))), (1, .int ag), (2, .int cp)] → W p l e (rmO 0 0) s m ([.ref (ea E r (3 + i)), .int ag, .int cp] : List Value).toArray below meth c H locs 0 0 (MQ below (va_Qi (fun x μ' => x = p_X1_presentRank S i ag cp ∧ μ' = (fo μ r S)) (fun μ' t => MB E μ' t.heap) (AA E)) ([.ref (ea E r (3 + i)), .int ag, .int cp] : List Value).toArray s 0 0 (AA E)) (F0 m 46 ls [.int v5]) := by
          intro v5 H locs ls ev5 hW hl
          have hq : (v5 : Int32) = p_X1_presentRank S i ag cp := by
            subst ev5
            exact ((if_neg h1).trans ((if_neg h2).trans (if_pos h3))).symm
          exact jri F hr0 hlk hW rfl dX1_presentRank_46 ⟨hq, rfl⟩
        refine lv_icmp_ge (tgt := 45) F.1 F.2.1 dX1_presentRank_38 (by decide) (fun h4 => ?_) (fun h4 => ?_)
        · refine lv_iload_n F.1 F.2.1 dX1_presentRank_45 rfl (lv_at hl 3 rfl) ?_
          exact hJ6 _ _ _ _ (if_pos h4).symm hW (lv_sub hl [0, 1, 2, 3] rfl)
        · refine lv_iload_n F.1 F.2.1 dX1_presentRank_41 rfl (lv_at hl 0 rfl) ?_
          refine lv_goto (tgt := 46) F.1 F.2.1 dX1_presentRank_42 (by decide) ?_
          exact hJ6 _ _ _ _ (if_neg h4).symm hW (lv_sub hl [0, 1, 2, 3] rfl)
      · refine lv_aload_n F.1 F.2.1 dX1_presentRank_19 rfl (lv_at hl 0 rfl) ?_
        refine jget F hT hW fw_X1_52 (oLin hr hi) (by decide) (rLin hr hi) dX1_presentRank_20 ?_
        have hq : (S (3 + i) 0 : Int32) = p_X1_presentRank S i ag cp := by
          exact ((if_neg h1).trans ((if_neg h2).trans (if_neg h3))).symm
        exact jri F hr0 hlk hW rfl dX1_presentRank_23 ⟨hq, rfl⟩

def p_X1_mayBegin (S : Sv) (i : Nat) : Int32 :=
  let v4 : Int32 := (if (S (3 + i) 5) = 0 then 0 else (if (S (3 + i) 4) = 0 then (if (S (3 + i) 7) = (-6) then 1 else 0) else 0))
  (v4 : Int32)
set_option maxHeartbeats 4000000 in
set_option maxRecDepth 100000 in
theorem c_X1_mayBegin (l : Launch) (E : mE) (μ : Mu) (r : Nat) (hr : r < 11) (S : Sv) (i : Nat) (hi : i < 12) : CtI l E yX1_mayBegin cX1_mayBegin 1 (some .boolean) 0 0 [.ref (ea E r (3 + i))] (fo μ r S) (fun x μ' => x = p_X1_mayBegin S i ∧ μ' = (fo μ r S)) := by
  refine jMet (by decide +kernel) (Nat.le_of_ble_eq_true rfl) ?_
  intro p e s m below meth c ls F hT hr0 hlk hW hl
  have F : CallFix p m c cX1_mayBegin 1 s _ TB RX1 := F
  have hl : lv_has ls 1 [(0, .ref (ea E r (3 + i)))] := hl
  refine lv_aload_n F.1 F.2.1 dX1_mayBegin_0 rfl (lv_at hl 0 rfl) ?_
  refine jget F hT hW fw_X1_18 (oLin hr hi) (by decide) (rLin hr hi) dX1_mayBegin_1 ?_
  have hJ5 : ∀ (v4 : Int32) (H : Heap) (locs : List Loc) (ls : Array Slot), v4 = (if (S (3 + i) 5) = 0 then 0 else (if (S (3 + i) 4) = 0 then (if (S (3 + i) 7) = (-6) then 1 else 0) else 0)) → Wd E s H locs (fo μ r S) → lv_has ls 1 [(0, .ref (ea E r (3 + i)))] → W p l e (rmO 0 0) s m ([.ref (ea E r (3 + i))] : List Value).toArray below meth c H locs 0 0 (MQ below (va_Qi (fun x μ' => x = p_X1_mayBegin S i ∧ μ' = (fo μ r S)) (fun μ' t => MB E μ' t.heap) (AA E)) ([.ref (ea E r (3 + i))] : List Value).toArray s 0 0 (AA E)) (F0 m 28 ls [.int v4]) := by
    intro v4 H locs ls ev4 hW hl
    have hq : (v4 : Int32) = p_X1_mayBegin S i := by
      subst ev4
      exact (rfl).symm
    exact jri F hr0 hlk hW (znar (by first | assumption | ((try clear hq); subst_vars; (try dsimp only); repeat' (first | exact Or.inl rfl | exact Or.inr rfl | refine iteZ ?_ ?_)))) dX1_mayBegin_28 ⟨hq, rfl⟩
  refine lv_if_eq (tgt := 27) F.1 F.2.1 dX1_mayBegin_4 (by decide) (fun h1 => ?_) (fun h1 => ?_)
  · refine lv_iconst (v := 0) F.1 F.2.1 dX1_mayBegin_27 (by decide) ?_
    exact hJ5 _ _ _ _ (if_pos h1).symm hW (lv_sub hl [0] rfl)
  · refine lv_aload_n F.1 F.2.1 dX1_mayBegin_7 rfl (lv_at hl 0 rfl) ?_
    refine jget F hT hW fw_X1_15 (oLin hr hi) (by decide) (rLin hr hi) dX1_mayBegin_8 ?_
    refine lv_if_ne (tgt := 27) F.1 F.2.1 dX1_mayBegin_11 (by decide) (fun h2 => ?_) (fun h2 => ?_)
    · refine lv_iconst (v := 0) F.1 F.2.1 dX1_mayBegin_27 (by decide) ?_
      exact hJ5 _ _ _ _ ((if_neg h1).trans (if_neg h2)).symm hW (lv_sub hl [0] rfl)
    · refine lv_aload_n F.1 F.2.1 dX1_mayBegin_14 rfl (lv_at hl 0 rfl) ?_
      refine jget F hT hW fw_X1_25 (oLin hr hi) (by decide) (rLin hr hi) dX1_mayBegin_15 ?_
      refine lv_bipush (v := (-6)) F.1 F.2.1 dX1_mayBegin_18 (by decide) ?_
      refine lv_icmp_ne (tgt := 27) F.1 F.2.1 dX1_mayBegin_20 (by decide) (fun h3 => ?_) (fun h3 => ?_)
      · refine lv_iconst (v := 0) F.1 F.2.1 dX1_mayBegin_27 (by decide) ?_
        exact hJ5 _ _ _ _ ((if_neg h1).trans ((if_pos h2).trans (if_neg h3))).symm hW (lv_sub hl [0] rfl)
      · refine lv_iconst (v := 1) F.1 F.2.1 dX1_mayBegin_23 (by decide) ?_
        refine lv_goto (tgt := 28) F.1 F.2.1 dX1_mayBegin_24 (by decide) ?_
        exact hJ5 _ _ _ _ ((if_neg h1).trans ((if_pos h2).trans (if_pos h3))).symm hW (lv_sub hl [0] rfl)

def p_X1_takeEdge (S : Sv) (i : Nat) (kp : Int32) : Int32 × Sv :=
  let S1 : Sv := us S (3 + i) 9 ((S (3 + i) 9) + 1)
  if (S1 (3 + i) 5) = 0 then
    if (S1 (3 + i) 4) = 0 then
      let S5 : Sv := us S1 (3 + i) 5 1
      let S6 : Sv := us S5 (3 + i) 6 0
      ((1 : Int32), S6)
    else
      if kp = 0 then
        let S10 : Sv := us S1 (3 + i) 10 ((S1 (3 + i) 10) + 1)
        ((0 : Int32), S10)
      else
        let S8 : Sv := us S1 (3 + i) 5 1
        let S9 : Sv := us S8 (3 + i) 6 0
        ((1 : Int32), S9)
  else
    let S3 : Sv := us S1 (3 + i) 10 ((S1 (3 + i) 10) + 1)
    ((0 : Int32), S3)
set_option maxHeartbeats 4000000 in
set_option maxRecDepth 100000 in
theorem c_X1_takeEdge (l : Launch) (E : mE) (μ : Mu) (r : Nat) (hr : r < 11) (S : Sv) (i : Nat) (kp : Int32) (hi : i < 12) : CtI l E yX1_takeEdge cX1_takeEdge 2 (some .boolean) 0 0 [.ref (ea E r (3 + i)), .int kp] (fo μ r S) (fun x μ' => x = (p_X1_takeEdge S i kp).1 ∧ μ' = fo μ r (p_X1_takeEdge S i kp).2) := by
  refine jMet (by decide +kernel) (Nat.le_of_ble_eq_true rfl) ?_
  intro p e s m below meth c ls F hT hr0 hlk hW hl
  have F : CallFix p m c cX1_takeEdge 2 s _ TB RX1 := F
  have hl : lv_has ls 2 [(0, .ref (ea E r (3 + i))), (1, .int kp)] := hl
  refine lv_aload_n F.1 F.2.1 dX1_takeEdge_0 rfl (lv_at hl 0 rfl) ?_
  refine lv_dup F.1 F.2.1 dX1_takeEdge_1 rfl ?_
  refine jget F hT hW fw_X1_31 (oLin hr hi) (by decide) (rLin hr hi) dX1_takeEdge_2 ?_
  refine lv_iconst (v := 1) F.1 F.2.1 dX1_takeEdge_5 (by decide) ?_
  refine lv_iadd F.1 F.2.1 dX1_takeEdge_6 ?_
  refine jput F hT hW fw_X1_31 ft_1_9 (oLin hr hi) (by decide) (rn12 hr) (rLin hr hi) rfl rfl dX1_takeEdge_7 (fun S1 H locs eS1 hW => ?_)
  refine lv_aload_n F.1 F.2.1 dX1_takeEdge_10 rfl (lv_at hl 0 rfl) ?_
  refine jget F hT hW fw_X1_18 (oLin hr hi) (by decide) (rLin hr hi) dX1_takeEdge_11 ?_
  refine lv_if_ne (tgt := 28) F.1 F.2.1 dX1_takeEdge_14 (by decide) (fun h2 => ?_) (fun h2 => ?_)
  · refine lv_aload_n F.1 F.2.1 dX1_takeEdge_28 rfl (lv_at hl 0 rfl) ?_
    refine lv_dup F.1 F.2.1 dX1_takeEdge_29 rfl ?_
    refine jget F hT hW fw_X1_34 (oLin hr hi) (by decide) (rLin hr hi) dX1_takeEdge_30 ?_
    refine lv_iconst (v := 1) F.1 F.2.1 dX1_takeEdge_33 (by decide) ?_
    refine lv_iadd F.1 F.2.1 dX1_takeEdge_34 ?_
    refine jput F hT hW fw_X1_34 ft_1_10 (oLin hr hi) (by decide) (rn12 hr) (rLin hr hi) rfl rfl dX1_takeEdge_35 (fun S3 H locs eS3 hW => ?_)
    refine lv_iconst (v := 0) F.1 F.2.1 dX1_takeEdge_38 (by decide) ?_
    have hq : ((0 : Int32), S3) = p_X1_takeEdge S i kp := by
      subst eS3
      subst eS1
      exact (if_neg h2).symm
    exact jri F hr0 hlk hW (znar (Or.inl rfl)) dX1_takeEdge_39 ⟨congrArg Prod.fst hq, congrArg (fun z => fo μ r z.2) hq⟩
  · refine lv_aload_n F.1 F.2.1 dX1_takeEdge_17 rfl (lv_at hl 0 rfl) ?_
    refine jget F hT hW fw_X1_15 (oLin hr hi) (by decide) (rLin hr hi) dX1_takeEdge_18 ?_
    refine lv_if_eq (tgt := 40) F.1 F.2.1 dX1_takeEdge_21 (by decide) (fun h4 => ?_) (fun h4 => ?_)
    · refine lv_aload_n F.1 F.2.1 dX1_takeEdge_40 rfl (lv_at hl 0 rfl) ?_
      refine lv_iconst (v := 1) F.1 F.2.1 dX1_takeEdge_41 (by decide) ?_
      refine jput F hT hW fw_X1_18 ft_1_5 (oLin hr hi) (by decide) (rn12 hr) (rLin hr hi) (znar (Or.inr rfl)) (zfit (Or.inr rfl)) dX1_takeEdge_42 (fun S5 H locs eS5 hW => ?_)
      refine lv_aload_n F.1 F.2.1 dX1_takeEdge_45 rfl (lv_at hl 0 rfl) ?_
      refine lv_iconst (v := 0) F.1 F.2.1 dX1_takeEdge_46 (by decide) ?_
      refine jput F hT hW fw_X1_21 ft_1_6 (oLin hr hi) (by decide) (rn12 hr) (rLin hr hi) rfl rfl dX1_takeEdge_47 (fun S6 H locs eS6 hW => ?_)
      refine lv_iconst (v := 1) F.1 F.2.1 dX1_takeEdge_50 (by decide) ?_
      have hq : ((1 : Int32), S6) = p_X1_takeEdge S i kp := by
        subst eS6
        subst eS5
        subst eS1
        exact ((if_pos h2).trans (if_pos h4)).symm
      exact jri F hr0 hlk hW (znar (Or.inr rfl)) dX1_takeEdge_51 ⟨congrArg Prod.fst hq, congrArg (fun z => fo μ r z.2) hq⟩
    · refine lv_iload_n F.1 F.2.1 dX1_takeEdge_24 rfl (lv_at hl 1 rfl) ?_
      refine lv_if_ne (tgt := 40) F.1 F.2.1 dX1_takeEdge_25 (by decide) (fun h7 => ?_) (fun h7 => ?_)
      · refine lv_aload_n F.1 F.2.1 dX1_takeEdge_40 rfl (lv_at hl 0 rfl) ?_
        refine lv_iconst (v := 1) F.1 F.2.1 dX1_takeEdge_41 (by decide) ?_
        refine jput F hT hW fw_X1_18 ft_1_5 (oLin hr hi) (by decide) (rn12 hr) (rLin hr hi) (znar (Or.inr rfl)) (zfit (Or.inr rfl)) dX1_takeEdge_42 (fun S8 H locs eS8 hW => ?_)
        refine lv_aload_n F.1 F.2.1 dX1_takeEdge_45 rfl (lv_at hl 0 rfl) ?_
        refine lv_iconst (v := 0) F.1 F.2.1 dX1_takeEdge_46 (by decide) ?_
        refine jput F hT hW fw_X1_21 ft_1_6 (oLin hr hi) (by decide) (rn12 hr) (rLin hr hi) rfl rfl dX1_takeEdge_47 (fun S9 H locs eS9 hW => ?_)
        refine lv_iconst (v := 1) F.1 F.2.1 dX1_takeEdge_50 (by decide) ?_
        have hq : ((1 : Int32), S9) = p_X1_takeEdge S i kp := by
          subst eS9
          subst eS8
          subst eS1
          exact ((if_pos h2).trans ((if_neg h4).trans (if_neg h7))).symm
        exact jri F hr0 hlk hW (znar (Or.inr rfl)) dX1_takeEdge_51 ⟨congrArg Prod.fst hq, congrArg (fun z => fo μ r z.2) hq⟩
      · refine lv_aload_n F.1 F.2.1 dX1_takeEdge_28 rfl (lv_at hl 0 rfl) ?_
        refine lv_dup F.1 F.2.1 dX1_takeEdge_29 rfl ?_
        refine jget F hT hW fw_X1_34 (oLin hr hi) (by decide) (rLin hr hi) dX1_takeEdge_30 ?_
        refine lv_iconst (v := 1) F.1 F.2.1 dX1_takeEdge_33 (by decide) ?_
        refine lv_iadd F.1 F.2.1 dX1_takeEdge_34 ?_
        refine jput F hT hW fw_X1_34 ft_1_10 (oLin hr hi) (by decide) (rn12 hr) (rLin hr hi) rfl rfl dX1_takeEdge_35 (fun S10 H locs eS10 hW => ?_)
        refine lv_iconst (v := 0) F.1 F.2.1 dX1_takeEdge_38 (by decide) ?_
        have hq : ((0 : Int32), S10) = p_X1_takeEdge S i kp := by
          subst eS10
          subst eS1
          exact ((if_pos h2).trans ((if_neg h4).trans (if_pos h7))).symm
        exact jri F hr0 hlk hW (znar (Or.inl rfl)) dX1_takeEdge_39 ⟨congrArg Prod.fst hq, congrArg (fun z => fo μ r z.2) hq⟩

def p_X1_followDevices (S : Sv) (i : Nat) : Sv :=
  let v3 : Int32 := (if (S (3 + i) 8) = 0 then 0 else (if (S (3 + i) 7) = (-6) then 1 else 0))
  let S8 : Sv := (if v3 = 0 then S else (if (S (3 + i) 5) = 0 then (let S7 : Sv := us S (3 + i) 6 0; S7) else S))
  let S10 : Sv := us S8 (3 + i) 5 v3
  S10
set_option maxHeartbeats 4000000 in
set_option maxRecDepth 100000 in
theorem c_X1_followDevices (l : Launch) (E : mE) (μ : Mu) (r : Nat) (hr : r < 11) (S : Sv) (i : Nat) (hi : i < 12) : CtV l E yX1_followDevices cX1_followDevices 2 0 0 [.ref (ea E r (3 + i))] (fo μ r S) (fun μ' => μ' = fo μ r (p_X1_followDevices S i)) := by
  refine jMet (by decide +kernel) (Nat.le_of_ble_eq_true rfl) ?_
  intro p e s m below meth c ls F hT hr0 hlk hW hl
  have F : CallFix p m c cX1_followDevices 2 s _ TB RX1 := F
  have hl : lv_has ls 2 [(0, .ref (ea E r (3 + i)))] := hl
  refine lv_aload_n F.1 F.2.1 dX1_followDevices_0 rfl (lv_at hl 0 rfl) ?_
  refine jget F hT hW fw_X1_28 (oLin hr hi) (by decide) (rLin hr hi) dX1_followDevices_1 ?_
  have hJ4 : ∀ (v3 : Int32) (H : Heap) (locs : List Loc) (ls : Array Slot), v3 = (if (S (3 + i) 8) = 0 then 0 else (if (S (3 + i) 7) = (-6) then 1 else 0)) → Wd E s H locs (fo μ r S) → lv_has ls 2 [(0, .ref (ea E r (3 + i)))] → W p l e (rmO 0 0) s m ([.ref (ea E r (3 + i))] : List Value).toArray below meth c H locs 0 0 (MQ below (va_Qv (fun μ' => μ' = fo μ r (p_X1_followDevices S i)) (fun μ' t => MB E μ' t.heap) (AA E)) ([.ref (ea E r (3 + i))] : List Value).toArray s 0 0 (AA E)) (F0 m 21 ls [.int v3]) := by
    intro v3 H locs ls ev3 hW hl
    refine lv_istore_n (lv' := [(1, .int v3), (0, .ref (ea E r (3 + i)))]) F.1 F.2.1 dX1_followDevices_21 rfl hl (by decide) rfl (fun ls hl => ?_)
    refine lv_iload_n F.1 F.2.1 dX1_followDevices_22 rfl (lv_at hl 0 rfl) ?_
    have hJ9 : ∀ (S8 : Sv) (H : Heap) (locs : List Loc) (ls : Array Slot), S8 = (if v3 = 0 then S else (if (S (3 + i) 5) = 0 then (let S7 : Sv := us S (3 + i) 6 0; S7) else S)) → Wd E s H locs (fo μ r S8) → lv_has ls 2 [(1, .int v3), (0, .ref (ea E r (3 + i)))] → W p l e (rmO 0 0) s m ([.ref (ea E r (3 + i))] : List Value).toArray below meth c H locs 0 0 (MQ below (va_Qv (fun μ' => μ' = fo μ r (p_X1_followDevices S i)) (fun μ' t => MB E μ' t.heap) (AA E)) ([.ref (ea E r (3 + i))] : List Value).toArray s 0 0 (AA E)) (F0 m 38 ls []) := by
      intro S8 H locs ls eS8 hW hl
      refine lv_aload_n F.1 F.2.1 dX1_followDevices_38 rfl (lv_at hl 1 rfl) ?_
      refine lv_iload_n F.1 F.2.1 dX1_followDevices_39 rfl (lv_at hl 0 rfl) ?_
      refine jput F hT hW fw_X1_18 ft_1_5 (oLin hr hi) (by decide) (rn12 hr) (rLin hr hi) (znar (by first | assumption | ((try clear hq); subst_vars; (try dsimp only); repeat' (first | exact Or.inl rfl | exact Or.inr rfl | refine iteZ ?_ ?_)))) (zfit (by first | assumption | ((try clear hq); subst_vars; (try dsimp only); repeat' (first | exact Or.inl rfl | exact Or.inr rfl | refine iteZ ?_ ?_)))) dX1_followDevices_40 (fun S10 H locs eS10 hW => ?_)
      have hq : S10 = p_X1_followDevices S i := by
        subst eS10
        subst eS8
        subst ev3
        exact (rfl).symm
      exact jrv F hr0 hlk hW dX1_followDevices_43 (congrArg (fun z => fo μ r z) hq)
    refine lv_if_eq (tgt := 38) F.1 F.2.1 dX1_followDevices_23 (by decide) (fun h5 => ?_) (fun h5 => ?_)
    · exact hJ9 _ _ _ _ (if_pos h5).symm hW (lv_sub hl [0, 1] rfl)
    · refine lv_aload_n F.1 F.2.1 dX1_followDevices_26 rfl (lv_at hl 1 rfl) ?_
      refine jget F hT hW fw_X1_18 (oLin hr hi) (by decide) (rLin hr hi) dX1_followDevices_27 ?_
      refine lv_if_ne (tgt := 38) F.1 F.2.1 dX1_followDevices_30 (by decide) (fun h6 => ?_) (fun h6 => ?_)
      · exact hJ9 _ _ _ _ ((if_neg h5).trans (if_neg h6)).symm hW (lv_sub hl [0, 1] rfl)
      · refine lv_aload_n F.1 F.2.1 dX1_followDevices_33 rfl (lv_at hl 1 rfl) ?_
        refine lv_iconst (v := 0) F.1 F.2.1 dX1_followDevices_34 (by decide) ?_
        refine jput F hT hW fw_X1_21 ft_1_6 (oLin hr hi) (by decide) (rn12 hr) (rLin hr hi) rfl rfl dX1_followDevices_35 (fun S7 H locs eS7 hW => ?_)
        subst eS7
        exact hJ9 _ _ _ _ ((if_neg h5).trans (if_pos h6)).symm hW (lv_sub hl [0, 1] rfl)
  refine lv_if_eq (tgt := 20) F.1 F.2.1 dX1_followDevices_4 (by decide) (fun h1 => ?_) (fun h1 => ?_)
  · refine lv_iconst (v := 0) F.1 F.2.1 dX1_followDevices_20 (by decide) ?_
    exact hJ4 _ _ _ _ (if_pos h1).symm hW (lv_sub hl [0] rfl)
  · refine lv_aload_n F.1 F.2.1 dX1_followDevices_7 rfl (lv_at hl 0 rfl) ?_
    refine jget F hT hW fw_X1_25 (oLin hr hi) (by decide) (rLin hr hi) dX1_followDevices_8 ?_
    refine lv_bipush (v := (-6)) F.1 F.2.1 dX1_followDevices_11 (by decide) ?_
    refine lv_icmp_ne (tgt := 20) F.1 F.2.1 dX1_followDevices_13 (by decide) (fun h2 => ?_) (fun h2 => ?_)
    · refine lv_iconst (v := 0) F.1 F.2.1 dX1_followDevices_20 (by decide) ?_
      exact hJ4 _ _ _ _ ((if_neg h1).trans (if_neg h2)).symm hW (lv_sub hl [0] rfl)
    · refine lv_iconst (v := 1) F.1 F.2.1 dX1_followDevices_16 (by decide) ?_
      refine lv_goto (tgt := 21) F.1 F.2.1 dX1_followDevices_17 (by decide) ?_
      exact hJ4 _ _ _ _ ((if_neg h1).trans (if_pos h2)).symm hW (lv_sub hl [0] rfl)

def p_X1_moveDevice (S : Sv) (i : Nat) (d : Nat) (up : Int32) : Sv :=
  let v2 : Int32 := (if up = 0 then (S (3 + i) 8) &&& (((1 : Int32) <<< ((nI d) &&& 31)) ^^^ (-1)) else (S (3 + i) 8) ||| ((1 : Int32) <<< ((nI d) &&& 31)))
  let S4 : Sv := us S (3 + i) 8 v2
  let S5 : Sv := p_X1_followDevices S4 i
  S5
set_option maxHeartbeats 4000000 in
set_option maxRecDepth 100000 in
theorem c_X1_moveDevice (l : Launch) (E : mE) (μ : Mu) (r : Nat) (hr : r < 11) (S : Sv) (i : Nat) (xd : Int32) (d : Nat) (exd : xd = nI d) (up : Int32) (hi : i < 12) : CtV l E yX1_moveDevice cX1_moveDevice 4 1 21 [.ref (ea E r (3 + i)), .int xd, .int up] (fo μ r S) (fun μ' => μ' = fo μ r (p_X1_moveDevice S i d up)) := by
  subst exd
  refine jMet (by decide +kernel) (Nat.le_of_ble_eq_true rfl) ?_
  intro p e s m below meth c ls F hT hr0 hlk hW hl
  have F : CallFix p m c cX1_moveDevice 4 s _ TB RX1 := F
  have hl : lv_has ls 4 [(0, .ref (ea E r (3 + i))), (1, .int (nI d)), (2, .int up)] := hl
  refine lv_iconst (v := 1) F.1 F.2.1 dX1_moveDevice_0 (by decide) ?_
  refine lv_iload_n F.1 F.2.1 dX1_moveDevice_1 rfl (lv_at hl 1 rfl) ?_
  refine lv_ishl F.1 F.2.1 dX1_moveDevice_2 ?_
  refine lv_istore_n (lv' := [(3, .int ((1 : Int32) <<< ((nI d) &&& 31))), (0, .ref (ea E r (3 + i))), (1, .int (nI d)), (2, .int up)]) F.1 F.2.1 dX1_moveDevice_3 rfl hl (by decide) rfl (fun ls hl => ?_)
  refine lv_aload_n F.1 F.2.1 dX1_moveDevice_4 rfl (lv_at hl 1 rfl) ?_
  refine lv_iload_n F.1 F.2.1 dX1_moveDevice_5 rfl (lv_at hl 3 rfl) ?_
  have hJ3 : ∀ (v2 : Int32) (H : Heap) (locs : List Loc) (ls : Array Slot), v2 = (if up = 0 then (S (3 + i) 8) &&& (((1 : Int32) <<< ((nI d) &&& 31)) ^^^ (-1)) else (S (3 + i) 8) ||| ((1 : Int32) <<< ((nI d) &&& 31))) → Wd E s H locs (fo μ r S) → lv_has ls 4 [(3, .int ((1 : Int32) <<< ((nI d) &&& 31))), (0, .ref (ea E r (3 + i))), (1, .int (nI d)), (2, .int up)] → W p l e (rmO 1 21) s m ([.ref (ea E r (3 + i)), .int (nI d), .int up] : List Value).toArray below meth c H locs 0 0 (MQ below (va_Qv (fun μ' => μ' = fo μ r (p_X1_moveDevice S i d up)) (fun μ' t => MB E μ' t.heap) (AA E)) ([.ref (ea E r (3 + i)), .int (nI d), .int up] : List Value).toArray s 0 0 (AA E)) (F0 m 26 ls [.int v2, .ref (ea E r (3 + i))]) := by
    intro v2 H locs ls ev2 hW hl
    refine jput F hT hW fw_X1_28 ft_1_8 (oLin hr hi) (by decide) (rn12 hr) (rLin hr hi) rfl rfl dX1_moveDevice_26 (fun S4 H locs eS4 hW => ?_)
    refine lv_aload_n F.1 F.2.1 dX1_moveDevice_29 rfl (lv_at hl 1 rfl) ?_
    refine jcvf (jrunV (As := []) (rest := []) F hT hW yc_X1_followDevices yv_X1_followDevices ml_X1_61 (oLin hr hi) (by decide) rfl (c_X1_followDevices l E μ r hr S4 i (by first | assumption | omega)) rfl hl.1 ⟨Nat.le_of_ble_eq_true rfl, Nat.le_of_ble_eq_true rfl⟩ rfl (Nat.le_of_ble_eq_true rfl) ⟨Nat.le_refl _, Nat.le_refl _⟩ dX1_moveDevice_30) hW (fun S5 H locs eS5 hW => ?_)
    have hq : S5 = p_X1_moveDevice S i d up := by
      subst eS5
      subst eS4
      subst ev2
      exact (rfl).symm
    exact jrv F hr0 hlk hW dX1_moveDevice_33 (congrArg (fun z => fo μ r z) hq)
  refine lv_if_eq (tgt := 18) F.1 F.2.1 dX1_moveDevice_6 (by decide) (fun h1 => ?_) (fun h1 => ?_)
  · refine lv_aload_n F.1 F.2.1 dX1_moveDevice_18 rfl (lv_at hl 1 rfl) ?_
    refine jget F hT hW fw_X1_28 (oLin hr hi) (by decide) (rLin hr hi) dX1_moveDevice_19 ?_
    refine lv_iload_n F.1 F.2.1 dX1_moveDevice_22 rfl (lv_at hl 0 rfl) ?_
    refine lv_iconst (v := (-1)) F.1 F.2.1 dX1_moveDevice_23 (by decide) ?_
    refine lv_ixor F.1 F.2.1 dX1_moveDevice_24 ?_
    refine lv_iand F.1 F.2.1 dX1_moveDevice_25 ?_
    exact hJ3 _ _ _ _ (if_pos h1).symm hW (lv_sub hl [0, 1, 2, 3] rfl)
  · refine lv_aload_n F.1 F.2.1 dX1_moveDevice_9 rfl (lv_at hl 1 rfl) ?_
    refine jget F hT hW fw_X1_28 (oLin hr hi) (by decide) (rLin hr hi) dX1_moveDevice_10 ?_
    refine lv_iload_n F.1 F.2.1 dX1_moveDevice_13 rfl (lv_at hl 0 rfl) ?_
    refine lv_ior F.1 F.2.1 dX1_moveDevice_14 ?_
    refine lv_goto (tgt := 26) F.1 F.2.1 dX1_moveDevice_15 (by decide) ?_
    exact hJ3 _ _ _ _ (if_neg h1).symm hW (lv_sub hl [0, 1, 2, 3] rfl)

def p_X1_enterNest (S : Sv) (i : Nat) (pl : Int32) : Sv :=
  let S1 : Sv := us S (3 + i) 7 pl
  let S2 : Sv := us S1 (3 + i) 5 0
  let S3 : Sv := us S2 (3 + i) 11 ((S2 (3 + i) 11) + 1)
  let S4 : Sv := us S3 (3 + i) 14 ((S3 (3 + i) 14) + (S3 (3 + i) 6))
  let S7 : Sv := (if (S4 (3 + i) 6) ≤ (S4 (3 + i) 13) then S4 else (let S6 : Sv := us S4 (3 + i) 13 (S4 (3 + i) 6); S6))
  let S12 : Sv := (if (S7 (3 + i) 2) ≤ 0 then S7 else (if (S7 (3 + i) 6) ≤ (S7 (3 + i) 2) then S7 else (let S11 : Sv := us S7 (3 + i) 15 ((S7 (3 + i) 15) + 1); S11)))
  S12
set_option maxHeartbeats 4000000 in
set_option maxRecDepth 100000 in
theorem c_X1_enterNest (l : Launch) (E : mE) (μ : Mu) (r : Nat) (hr : r < 11) (S : Sv) (i : Nat) (pl : Int32) (hi : i < 12) : CtV l E yX1_enterNest cX1_enterNest 2 0 0 [.ref (ea E r (3 + i)), .int pl] (fo μ r S) (fun μ' => μ' = fo μ r (p_X1_enterNest S i pl)) := by
  refine jMet (by decide +kernel) (Nat.le_of_ble_eq_true rfl) ?_
  intro p e s m below meth c ls F hT hr0 hlk hW hl
  have F : CallFix p m c cX1_enterNest 2 s _ TB RX1 := F
  have hl : lv_has ls 2 [(0, .ref (ea E r (3 + i))), (1, .int pl)] := hl
  refine lv_aload_n F.1 F.2.1 dX1_enterNest_0 rfl (lv_at hl 0 rfl) ?_
  refine lv_iload_n F.1 F.2.1 dX1_enterNest_1 rfl (lv_at hl 1 rfl) ?_
  refine jput F hT hW fw_X1_25 ft_1_7 (oLin hr hi) (by decide) (rn12 hr) (rLin hr hi) rfl rfl dX1_enterNest_2 (fun S1 H locs eS1 hW => ?_)
  refine lv_aload_n F.1 F.2.1 dX1_enterNest_5 rfl (lv_at hl 0 rfl) ?_
  refine lv_iconst (v := 0) F.1 F.2.1 dX1_enterNest_6 (by decide) ?_
  refine jput F hT hW fw_X1_18 ft_1_5 (oLin hr hi) (by decide) (rn12 hr) (rLin hr hi) (znar (Or.inl rfl)) (zfit (Or.inl rfl)) dX1_enterNest_7 (fun S2 H locs eS2 hW => ?_)
  refine lv_aload_n F.1 F.2.1 dX1_enterNest_10 rfl (lv_at hl 0 rfl) ?_
  refine lv_dup F.1 F.2.1 dX1_enterNest_11 rfl ?_
  refine jget F hT hW fw_X1_37 (oLin hr hi) (by decide) (rLin hr hi) dX1_enterNest_12 ?_
  refine lv_iconst (v := 1) F.1 F.2.1 dX1_enterNest_15 (by decide) ?_
  refine lv_iadd F.1 F.2.1 dX1_enterNest_16 ?_
  refine jput F hT hW fw_X1_37 ft_1_11 (oLin hr hi) (by decide) (rn12 hr) (rLin hr hi) rfl rfl dX1_enterNest_17 (fun S3 H locs eS3 hW => ?_)
  refine lv_aload_n F.1 F.2.1 dX1_enterNest_20 rfl (lv_at hl 0 rfl) ?_
  refine lv_dup F.1 F.2.1 dX1_enterNest_21 rfl ?_
  refine jget F hT hW fw_X1_46 (oLin hr hi) (by decide) (rLin hr hi) dX1_enterNest_22 ?_
  refine lv_aload_n F.1 F.2.1 dX1_enterNest_25 rfl (lv_at hl 0 rfl) ?_
  refine jget F hT hW fw_X1_21 (oLin hr hi) (by decide) (rLin hr hi) dX1_enterNest_26 ?_
  refine lv_iadd F.1 F.2.1 dX1_enterNest_29 ?_
  refine jput F hT hW fw_X1_46 ft_1_14 (oLin hr hi) (by decide) (rn12 hr) (rLin hr hi) rfl rfl dX1_enterNest_30 (fun S4 H locs eS4 hW => ?_)
  refine lv_aload_n F.1 F.2.1 dX1_enterNest_33 rfl (lv_at hl 0 rfl) ?_
  refine jget F hT hW fw_X1_21 (oLin hr hi) (by decide) (rLin hr hi) dX1_enterNest_34 ?_
  refine lv_aload_n F.1 F.2.1 dX1_enterNest_37 rfl (lv_at hl 0 rfl) ?_
  refine jget F hT hW fw_X1_43 (oLin hr hi) (by decide) (rLin hr hi) dX1_enterNest_38 ?_
  have hJ8 : ∀ (S7 : Sv) (H : Heap) (locs : List Loc) (ls : Array Slot), S7 = (if (S4 (3 + i) 6) ≤ (S4 (3 + i) 13) then S4 else (let S6 : Sv := us S4 (3 + i) 13 (S4 (3 + i) 6); S6)) → Wd E s H locs (fo μ r S7) → lv_has ls 2 [(0, .ref (ea E r (3 + i))), (1, .int pl)] → W p l e (rmO 0 0) s m ([.ref (ea E r (3 + i)), .int pl] : List Value).toArray below meth c H locs 0 0 (MQ below (va_Qv (fun μ' => μ' = fo μ r (p_X1_enterNest S i pl)) (fun μ' t => MB E μ' t.heap) (AA E)) ([.ref (ea E r (3 + i)), .int pl] : List Value).toArray s 0 0 (AA E)) (F0 m 52 ls []) := by
    intro S7 H locs ls eS7 hW hl
    refine lv_aload_n F.1 F.2.1 dX1_enterNest_52 rfl (lv_at hl 0 rfl) ?_
    refine jget F hT hW fw_X1_58 (oLin hr hi) (by decide) (rLin hr hi) dX1_enterNest_53 ?_
    have hJ13 : ∀ (S12 : Sv) (H : Heap) (locs : List Loc) (ls : Array Slot), S12 = (if (S7 (3 + i) 2) ≤ 0 then S7 else (if (S7 (3 + i) 6) ≤ (S7 (3 + i) 2) then S7 else (let S11 : Sv := us S7 (3 + i) 15 ((S7 (3 + i) 15) + 1); S11))) → Wd E s H locs (fo μ r S12) → lv_has ls 2 [(0, .ref (ea E r (3 + i))), (1, .int pl)] → W p l e (rmO 0 0) s m ([.ref (ea E r (3 + i)), .int pl] : List Value).toArray below meth c H locs 0 0 (MQ below (va_Qv (fun μ' => μ' = fo μ r (p_X1_enterNest S i pl)) (fun μ' t => MB E μ' t.heap) (AA E)) ([.ref (ea E r (3 + i)), .int pl] : List Value).toArray s 0 0 (AA E)) (F0 m 80 ls []) := by
      intro S12 H locs ls eS12 hW hl
      have hq : S12 = p_X1_enterNest S i pl := by
        subst eS12
        subst eS7
        subst eS4
        subst eS3
        subst eS2
        subst eS1
        exact (rfl).symm
      exact jrv F hr0 hlk hW dX1_enterNest_80 (congrArg (fun z => fo μ r z) hq)
    refine lv_if_le (tgt := 80) F.1 F.2.1 dX1_enterNest_56 (by decide) (fun h9 => ?_) (fun h9 => ?_)
    · exact hJ13 _ _ _ _ (if_pos h9).symm hW (lv_sub hl [0, 1] rfl)
    · refine lv_aload_n F.1 F.2.1 dX1_enterNest_59 rfl (lv_at hl 0 rfl) ?_
      refine jget F hT hW fw_X1_21 (oLin hr hi) (by decide) (rLin hr hi) dX1_enterNest_60 ?_
      refine lv_aload_n F.1 F.2.1 dX1_enterNest_63 rfl (lv_at hl 0 rfl) ?_
      refine jget F hT hW fw_X1_58 (oLin hr hi) (by decide) (rLin hr hi) dX1_enterNest_64 ?_
      refine lv_icmp_le (tgt := 80) F.1 F.2.1 dX1_enterNest_67 (by decide) (fun h10 => ?_) (fun h10 => ?_)
      · exact hJ13 _ _ _ _ ((if_neg h9).trans (if_pos h10)).symm hW (lv_sub hl [0, 1] rfl)
      · refine lv_aload_n F.1 F.2.1 dX1_enterNest_70 rfl (lv_at hl 0 rfl) ?_
        refine lv_dup F.1 F.2.1 dX1_enterNest_71 rfl ?_
        refine jget F hT hW fw_X1_49 (oLin hr hi) (by decide) (rLin hr hi) dX1_enterNest_72 ?_
        refine lv_iconst (v := 1) F.1 F.2.1 dX1_enterNest_75 (by decide) ?_
        refine lv_iadd F.1 F.2.1 dX1_enterNest_76 ?_
        refine jput F hT hW fw_X1_49 ft_1_15 (oLin hr hi) (by decide) (rn12 hr) (rLin hr hi) rfl rfl dX1_enterNest_77 (fun S11 H locs eS11 hW => ?_)
        subst eS11
        exact hJ13 _ _ _ _ ((if_neg h9).trans (if_neg h10)).symm hW (lv_sub hl [0, 1] rfl)
  refine lv_icmp_le (tgt := 52) F.1 F.2.1 dX1_enterNest_41 (by decide) (fun h5 => ?_) (fun h5 => ?_)
  · exact hJ8 _ _ _ _ (if_pos h5).symm hW (lv_sub hl [0, 1] rfl)
  · refine lv_aload_n F.1 F.2.1 dX1_enterNest_44 rfl (lv_at hl 0 rfl) ?_
    refine lv_aload_n F.1 F.2.1 dX1_enterNest_45 rfl (lv_at hl 0 rfl) ?_
    refine jget F hT hW fw_X1_21 (oLin hr hi) (by decide) (rLin hr hi) dX1_enterNest_46 ?_
    refine jput F hT hW fw_X1_43 ft_1_13 (oLin hr hi) (by decide) (rn12 hr) (rLin hr hi) rfl rfl dX1_enterNest_49 (fun S6 H locs eS6 hW => ?_)
    subst eS6
    exact hJ8 _ _ _ _ (if_neg h5).symm hW (lv_sub hl [0, 1] rfl)

def p_X1_leaveNest (S : Sv) (i : Nat) : Sv :=
  let S1 : Sv := us S (3 + i) 7 (-6)
  let S2 : Sv := us S1 (3 + i) 12 ((S1 (3 + i) 12) + 1)
  let S6 : Sv := (if (S2 (3 + i) 3) = 0 then S2 else (let S4 : Sv := us S2 (3 + i) 8 ((S2 (3 + i) 8) &&& ((S2 (3 + i) 8) - 1)); (let S5 : Sv := p_X1_followDevices S4 i; S5)))
  S6
set_option maxHeartbeats 4000000 in
set_option maxRecDepth 100000 in
theorem c_X1_leaveNest (l : Launch) (E : mE) (μ : Mu) (r : Nat) (hr : r < 11) (S : Sv) (i : Nat) (hi : i < 12) : CtV l E yX1_leaveNest cX1_leaveNest 1 1 21 [.ref (ea E r (3 + i))] (fo μ r S) (fun μ' => μ' = fo μ r (p_X1_leaveNest S i)) := by
  refine jMet (by decide +kernel) (Nat.le_of_ble_eq_true rfl) ?_
  intro p e s m below meth c ls F hT hr0 hlk hW hl
  have F : CallFix p m c cX1_leaveNest 1 s _ TB RX1 := F
  have hl : lv_has ls 1 [(0, .ref (ea E r (3 + i)))] := hl
  refine lv_aload_n F.1 F.2.1 dX1_leaveNest_0 rfl (lv_at hl 0 rfl) ?_
  refine lv_bipush (v := (-6)) F.1 F.2.1 dX1_leaveNest_1 (by decide) ?_
  refine jput F hT hW fw_X1_25 ft_1_7 (oLin hr hi) (by decide) (rn12 hr) (rLin hr hi) rfl rfl dX1_leaveNest_3 (fun S1 H locs eS1 hW => ?_)
  refine lv_aload_n F.1 F.2.1 dX1_leaveNest_6 rfl (lv_at hl 0 rfl) ?_
  refine lv_dup F.1 F.2.1 dX1_leaveNest_7 rfl ?_
  refine jget F hT hW fw_X1_40 (oLin hr hi) (by decide) (rLin hr hi) dX1_leaveNest_8 ?_
  refine lv_iconst (v := 1) F.1 F.2.1 dX1_leaveNest_11 (by decide) ?_
  refine lv_iadd F.1 F.2.1 dX1_leaveNest_12 ?_
  refine jput F hT hW fw_X1_40 ft_1_12 (oLin hr hi) (by decide) (rn12 hr) (rLin hr hi) rfl rfl dX1_leaveNest_13 (fun S2 H locs eS2 hW => ?_)
  refine lv_aload_n F.1 F.2.1 dX1_leaveNest_16 rfl (lv_at hl 0 rfl) ?_
  refine jget F hT hW fw_X1_9 (oLin hr hi) (by decide) (rLin hr hi) dX1_leaveNest_17 ?_
  have hJ7 : ∀ (S6 : Sv) (H : Heap) (locs : List Loc) (ls : Array Slot), S6 = (if (S2 (3 + i) 3) = 0 then S2 else (let S4 : Sv := us S2 (3 + i) 8 ((S2 (3 + i) 8) &&& ((S2 (3 + i) 8) - 1)); (let S5 : Sv := p_X1_followDevices S4 i; S5))) → Wd E s H locs (fo μ r S6) → lv_has ls 1 [(0, .ref (ea E r (3 + i)))] → W p l e (rmO 1 21) s m ([.ref (ea E r (3 + i))] : List Value).toArray below meth c H locs 0 0 (MQ below (va_Qv (fun μ' => μ' = fo μ r (p_X1_leaveNest S i)) (fun μ' t => MB E μ' t.heap) (AA E)) ([.ref (ea E r (3 + i))] : List Value).toArray s 0 0 (AA E)) (F0 m 42 ls []) := by
    intro S6 H locs ls eS6 hW hl
    have hq : S6 = p_X1_leaveNest S i := by
      subst eS6
      subst eS2
      subst eS1
      exact (rfl).symm
    exact jrv F hr0 hlk hW dX1_leaveNest_42 (congrArg (fun z => fo μ r z) hq)
  refine lv_if_eq (tgt := 42) F.1 F.2.1 dX1_leaveNest_20 (by decide) (fun h3 => ?_) (fun h3 => ?_)
  · exact hJ7 _ _ _ _ (if_pos h3).symm hW (lv_sub hl [0] rfl)
  · refine lv_aload_n F.1 F.2.1 dX1_leaveNest_23 rfl (lv_at hl 0 rfl) ?_
    refine lv_dup F.1 F.2.1 dX1_leaveNest_24 rfl ?_
    refine jget F hT hW fw_X1_28 (oLin hr hi) (by decide) (rLin hr hi) dX1_leaveNest_25 ?_
    refine lv_aload_n F.1 F.2.1 dX1_leaveNest_28 rfl (lv_at hl 0 rfl) ?_
    refine jget F hT hW fw_X1_28 (oLin hr hi) (by decide) (rLin hr hi) dX1_leaveNest_29 ?_
    refine lv_iconst (v := 1) F.1 F.2.1 dX1_leaveNest_32 (by decide) ?_
    refine lv_isub F.1 F.2.1 dX1_leaveNest_33 ?_
    refine lv_iand F.1 F.2.1 dX1_leaveNest_34 ?_
    refine jput F hT hW fw_X1_28 ft_1_8 (oLin hr hi) (by decide) (rn12 hr) (rLin hr hi) rfl rfl dX1_leaveNest_35 (fun S4 H locs eS4 hW => ?_)
    refine lv_aload_n F.1 F.2.1 dX1_leaveNest_38 rfl (lv_at hl 0 rfl) ?_
    refine jcvf (jrunV (As := []) (rest := []) F hT hW yc_X1_followDevices yv_X1_followDevices ml_X1_61 (oLin hr hi) (by decide) rfl (c_X1_followDevices l E μ r hr S4 i (by first | assumption | omega)) rfl hl.1 ⟨Nat.le_of_ble_eq_true rfl, Nat.le_of_ble_eq_true rfl⟩ rfl (Nat.le_of_ble_eq_true rfl) ⟨Nat.le_refl _, Nat.le_refl _⟩ dX1_leaveNest_39) hW (fun S5 H locs eS5 hW => ?_)
    subst eS5
    subst eS4
    exact hJ7 _ _ _ _ (if_neg h3).symm hW (lv_sub hl [0] rfl)

def p_X1_number (S : Sv) (i : Nat) (wh : Int32) (ag : Int32) (cp : Int32) : Int32 :=
  if wh = 0 then
    (S (3 + i) 0 : Int32)
  else
    if wh = 1 then
      (S (3 + i) 1 : Int32)
    else
      if wh = 2 then
        (S (3 + i) 2 : Int32)
      else
        if wh = 3 then
          let v2 : Int32 := (if (S (3 + i) 3) = 0 then 0 else 1)
          (v2 : Int32)
        else
          if wh = 4 then
            let v5 : Int32 := (if (S (3 + i) 4) = 0 then 0 else 1)
            (v5 : Int32)
          else
            if wh = 5 then
              let v8 : Int32 := (if (S (3 + i) 5) = 0 then 0 else 1)
              (v8 : Int32)
            else
              if wh = 6 then
                let v11 : Int32 := (if (S (3 + i) 5) = 0 then (-6) else S (3 + i) 6)
                (v11 : Int32)
              else
                if wh = 7 then
                  let x13 : Int32 := p_X1_presentRank S i ag cp
                  (x13 : Int32)
                else
                  if wh = 8 then
                    (S (3 + i) 7 : Int32)
                  else
                    if wh = 9 then
                      (S (3 + i) 8 : Int32)
                    else
                      if wh = 10 then
                        (S (3 + i) 9 : Int32)
                      else
                        if wh = 11 then
                          (S (3 + i) 10 : Int32)
                        else
                          if wh = 12 then
                            (S (3 + i) 11 : Int32)
                          else
                            if wh = 13 then
                              (S (3 + i) 12 : Int32)
                            else
                              if wh = 14 then
                                (S (3 + i) 13 : Int32)
                              else
                                if wh = 15 then
                                  (S (3 + i) 14 : Int32)
                                else
                                  if wh = 16 then
                                    (S (3 + i) 15 : Int32)
                                  else
                                    ((-2) : Int32)
set_option maxHeartbeats 4000000 in
set_option maxRecDepth 100000 in
theorem c_X1_number (l : Launch) (E : mE) (μ : Mu) (r : Nat) (hr : r < 11) (S : Sv) (i : Nat) (wh : Int32) (ag : Int32) (cp : Int32) (hi : i < 12) : CtI l E yX1_number cX1_number 4 (some .int) 1 23 [.ref (ea E r (3 + i)), .int wh, .int ag, .int cp] (fo μ r S) (fun x μ' => x = p_X1_number S i wh ag cp ∧ μ' = (fo μ r S)) := by
  refine jMet (by decide +kernel) (Nat.le_of_ble_eq_true rfl) ?_
  intro p e s m below meth c ls F hT hr0 hlk hW hl
  have F : CallFix p m c cX1_number 4 s _ TB RX1 := F
  have hl : lv_has ls 4 [(0, .ref (ea E r (3 + i))), (1, .int wh), (2, .int ag), (3, .int cp)] := hl
  refine lv_iload_n F.1 F.2.1 dX1_number_0 rfl (lv_at hl 1 rfl) ?_
  rcases Decidable.em (wh = 0) with hk1_0 | hk1_0
  · refine lv_tableIn (off := 83) (tgt := 84) F.1 F.2.1 dX1_number_1 (by rw [hk1_0]; decide) (by rw [hk1_0]; decide) (by rw [hk1_0]; rfl) (by decide) ?_
    refine lv_aload_n F.1 F.2.1 dX1_number_84 rfl (lv_at hl 0 rfl) ?_
    refine jget F hT hW fw_X1_52 (oLin hr hi) (by decide) (rLin hr hi) dX1_number_85 ?_
    have hq : (S (3 + i) 0 : Int32) = p_X1_number S i wh ag cp := by
      exact (if_pos hk1_0).symm
    exact jri F hr0 hlk hW rfl dX1_number_88 ⟨hq, rfl⟩
  · rcases Decidable.em (wh = 1) with hk1_1 | hk1_1
    · refine lv_tableIn (off := 88) (tgt := 89) F.1 F.2.1 dX1_number_1 (by rw [hk1_1]; decide) (by rw [hk1_1]; decide) (by rw [hk1_1]; rfl) (by decide) ?_
      refine lv_aload_n F.1 F.2.1 dX1_number_89 rfl (lv_at hl 0 rfl) ?_
      refine jget F hT hW fw_X1_55 (oLin hr hi) (by decide) (rLin hr hi) dX1_number_90 ?_
      have hq : (S (3 + i) 1 : Int32) = p_X1_number S i wh ag cp := by
        exact ((if_neg hk1_0).trans (if_pos hk1_1)).symm
      exact jri F hr0 hlk hW rfl dX1_number_93 ⟨hq, rfl⟩
    · rcases Decidable.em (wh = 2) with hk1_2 | hk1_2
      · refine lv_tableIn (off := 93) (tgt := 94) F.1 F.2.1 dX1_number_1 (by rw [hk1_2]; decide) (by rw [hk1_2]; decide) (by rw [hk1_2]; rfl) (by decide) ?_
        refine lv_aload_n F.1 F.2.1 dX1_number_94 rfl (lv_at hl 0 rfl) ?_
        refine jget F hT hW fw_X1_58 (oLin hr hi) (by decide) (rLin hr hi) dX1_number_95 ?_
        have hq : (S (3 + i) 2 : Int32) = p_X1_number S i wh ag cp := by
          exact ((if_neg hk1_0).trans ((if_neg hk1_1).trans (if_pos hk1_2))).symm
        exact jri F hr0 hlk hW rfl dX1_number_98 ⟨hq, rfl⟩
      · rcases Decidable.em (wh = 3) with hk1_3 | hk1_3
        · refine lv_tableIn (off := 98) (tgt := 99) F.1 F.2.1 dX1_number_1 (by rw [hk1_3]; decide) (by rw [hk1_3]; decide) (by rw [hk1_3]; rfl) (by decide) ?_
          refine lv_aload_n F.1 F.2.1 dX1_number_99 rfl (lv_at hl 0 rfl) ?_
          refine jget F hT hW fw_X1_9 (oLin hr hi) (by decide) (rLin hr hi) dX1_number_100 ?_
          have hJ3 : ∀ (v2 : Int32) (H : Heap) (locs : List Loc) (ls : Array Slot), v2 = (if (S (3 + i) 3) = 0 then 0 else 1) → Wd E s H locs (fo μ r S) → lv_has ls 4 [(0, .ref (ea E r (3 + i))), (1, .int wh), (2, .int ag), (3, .int cp)] → W p l e (rmO 1 23) s m ([.ref (ea E r (3 + i)), .int wh, .int ag, .int cp] : List Value).toArray below meth c H locs 0 0 (MQ below (va_Qi (fun x μ' => x = p_X1_number S i wh ag cp ∧ μ' = (fo μ r S)) (fun μ' t => MB E μ' t.heap) (AA E)) ([.ref (ea E r (3 + i)), .int wh, .int ag, .int cp] : List Value).toArray s 0 0 (AA E)) (F0 m 111 ls [.int v2]) := by
            intro v2 H locs ls ev2 hW hl
            have hq : (v2 : Int32) = p_X1_number S i wh ag cp := by
              subst ev2
              exact ((if_neg hk1_0).trans ((if_neg hk1_1).trans ((if_neg hk1_2).trans (if_pos hk1_3)))).symm
            exact jri F hr0 hlk hW rfl dX1_number_111 ⟨hq, rfl⟩
          refine lv_if_eq (tgt := 110) F.1 F.2.1 dX1_number_103 (by decide) (fun h1 => ?_) (fun h1 => ?_)
          · refine lv_iconst (v := 0) F.1 F.2.1 dX1_number_110 (by decide) ?_
            exact hJ3 _ _ _ _ (if_pos h1).symm hW (lv_sub hl [0, 1, 2, 3] rfl)
          · refine lv_iconst (v := 1) F.1 F.2.1 dX1_number_106 (by decide) ?_
            refine lv_goto (tgt := 111) F.1 F.2.1 dX1_number_107 (by decide) ?_
            exact hJ3 _ _ _ _ (if_neg h1).symm hW (lv_sub hl [0, 1, 2, 3] rfl)
        · rcases Decidable.em (wh = 4) with hk1_4 | hk1_4
          · refine lv_tableIn (off := 111) (tgt := 112) F.1 F.2.1 dX1_number_1 (by rw [hk1_4]; decide) (by rw [hk1_4]; decide) (by rw [hk1_4]; rfl) (by decide) ?_
            refine lv_aload_n F.1 F.2.1 dX1_number_112 rfl (lv_at hl 0 rfl) ?_
            refine jget F hT hW fw_X1_15 (oLin hr hi) (by decide) (rLin hr hi) dX1_number_113 ?_
            have hJ6 : ∀ (v5 : Int32) (H : Heap) (locs : List Loc) (ls : Array Slot), v5 = (if (S (3 + i) 4) = 0 then 0 else 1) → Wd E s H locs (fo μ r S) → lv_has ls 4 [(0, .ref (ea E r (3 + i))), (1, .int wh), (2, .int ag), (3, .int cp)] → W p l e (rmO 1 23) s m ([.ref (ea E r (3 + i)), .int wh, .int ag, .int cp] : List Value).toArray below meth c H locs 0 0 (MQ below (va_Qi (fun x μ' => x = p_X1_number S i wh ag cp ∧ μ' = (fo μ r S)) (fun μ' t => MB E μ' t.heap) (AA E)) ([.ref (ea E r (3 + i)), .int wh, .int ag, .int cp] : List Value).toArray s 0 0 (AA E)) (F0 m 124 ls [.int v5]) := by
              intro v5 H locs ls ev5 hW hl
              have hq : (v5 : Int32) = p_X1_number S i wh ag cp := by
                subst ev5
                exact ((if_neg hk1_0).trans ((if_neg hk1_1).trans ((if_neg hk1_2).trans ((if_neg hk1_3).trans (if_pos hk1_4))))).symm
              exact jri F hr0 hlk hW rfl dX1_number_124 ⟨hq, rfl⟩
            refine lv_if_eq (tgt := 123) F.1 F.2.1 dX1_number_116 (by decide) (fun h4 => ?_) (fun h4 => ?_)
            · refine lv_iconst (v := 0) F.1 F.2.1 dX1_number_123 (by decide) ?_
              exact hJ6 _ _ _ _ (if_pos h4).symm hW (lv_sub hl [0, 1, 2, 3] rfl)
            · refine lv_iconst (v := 1) F.1 F.2.1 dX1_number_119 (by decide) ?_
              refine lv_goto (tgt := 124) F.1 F.2.1 dX1_number_120 (by decide) ?_
              exact hJ6 _ _ _ _ (if_neg h4).symm hW (lv_sub hl [0, 1, 2, 3] rfl)
          · rcases Decidable.em (wh = 5) with hk1_5 | hk1_5
            · refine lv_tableIn (off := 124) (tgt := 125) F.1 F.2.1 dX1_number_1 (by rw [hk1_5]; decide) (by rw [hk1_5]; decide) (by rw [hk1_5]; rfl) (by decide) ?_
              refine lv_aload_n F.1 F.2.1 dX1_number_125 rfl (lv_at hl 0 rfl) ?_
              refine jget F hT hW fw_X1_18 (oLin hr hi) (by decide) (rLin hr hi) dX1_number_126 ?_
              have hJ9 : ∀ (v8 : Int32) (H : Heap) (locs : List Loc) (ls : Array Slot), v8 = (if (S (3 + i) 5) = 0 then 0 else 1) → Wd E s H locs (fo μ r S) → lv_has ls 4 [(0, .ref (ea E r (3 + i))), (1, .int wh), (2, .int ag), (3, .int cp)] → W p l e (rmO 1 23) s m ([.ref (ea E r (3 + i)), .int wh, .int ag, .int cp] : List Value).toArray below meth c H locs 0 0 (MQ below (va_Qi (fun x μ' => x = p_X1_number S i wh ag cp ∧ μ' = (fo μ r S)) (fun μ' t => MB E μ' t.heap) (AA E)) ([.ref (ea E r (3 + i)), .int wh, .int ag, .int cp] : List Value).toArray s 0 0 (AA E)) (F0 m 137 ls [.int v8]) := by
                intro v8 H locs ls ev8 hW hl
                have hq : (v8 : Int32) = p_X1_number S i wh ag cp := by
                  subst ev8
                  exact ((if_neg hk1_0).trans ((if_neg hk1_1).trans ((if_neg hk1_2).trans ((if_neg hk1_3).trans ((if_neg hk1_4).trans (if_pos hk1_5)))))).symm
                exact jri F hr0 hlk hW rfl dX1_number_137 ⟨hq, rfl⟩
              refine lv_if_eq (tgt := 136) F.1 F.2.1 dX1_number_129 (by decide) (fun h7 => ?_) (fun h7 => ?_)
              · refine lv_iconst (v := 0) F.1 F.2.1 dX1_number_136 (by decide) ?_
                exact hJ9 _ _ _ _ (if_pos h7).symm hW (lv_sub hl [0, 1, 2, 3] rfl)
              · refine lv_iconst (v := 1) F.1 F.2.1 dX1_number_132 (by decide) ?_
                refine lv_goto (tgt := 137) F.1 F.2.1 dX1_number_133 (by decide) ?_
                exact hJ9 _ _ _ _ (if_neg h7).symm hW (lv_sub hl [0, 1, 2, 3] rfl)
            · rcases Decidable.em (wh = 6) with hk1_6 | hk1_6
              · refine lv_tableIn (off := 137) (tgt := 138) F.1 F.2.1 dX1_number_1 (by rw [hk1_6]; decide) (by rw [hk1_6]; decide) (by rw [hk1_6]; rfl) (by decide) ?_
                refine lv_aload_n F.1 F.2.1 dX1_number_138 rfl (lv_at hl 0 rfl) ?_
                refine jget F hT hW fw_X1_18 (oLin hr hi) (by decide) (rLin hr hi) dX1_number_139 ?_
                have hJ12 : ∀ (v11 : Int32) (H : Heap) (locs : List Loc) (ls : Array Slot), v11 = (if (S (3 + i) 5) = 0 then (-6) else S (3 + i) 6) → Wd E s H locs (fo μ r S) → lv_has ls 4 [(0, .ref (ea E r (3 + i))), (1, .int wh), (2, .int ag), (3, .int cp)] → W p l e (rmO 1 23) s m ([.ref (ea E r (3 + i)), .int wh, .int ag, .int cp] : List Value).toArray below meth c H locs 0 0 (MQ below (va_Qi (fun x μ' => x = p_X1_number S i wh ag cp ∧ μ' = (fo μ r S)) (fun μ' t => MB E μ' t.heap) (AA E)) ([.ref (ea E r (3 + i)), .int wh, .int ag, .int cp] : List Value).toArray s 0 0 (AA E)) (F0 m 154 ls [.int v11]) := by
                  intro v11 H locs ls ev11 hW hl
                  have hq : (v11 : Int32) = p_X1_number S i wh ag cp := by
                    subst ev11
                    exact ((if_neg hk1_0).trans ((if_neg hk1_1).trans ((if_neg hk1_2).trans ((if_neg hk1_3).trans ((if_neg hk1_4).trans ((if_neg hk1_5).trans (if_pos hk1_6))))))).symm
                  exact jri F hr0 hlk hW rfl dX1_number_154 ⟨hq, rfl⟩
                refine lv_if_eq (tgt := 152) F.1 F.2.1 dX1_number_142 (by decide) (fun h10 => ?_) (fun h10 => ?_)
                · refine lv_bipush (v := (-6)) F.1 F.2.1 dX1_number_152 (by decide) ?_
                  exact hJ12 _ _ _ _ (if_pos h10).symm hW (lv_sub hl [0, 1, 2, 3] rfl)
                · refine lv_aload_n F.1 F.2.1 dX1_number_145 rfl (lv_at hl 0 rfl) ?_
                  refine jget F hT hW fw_X1_21 (oLin hr hi) (by decide) (rLin hr hi) dX1_number_146 ?_
                  refine lv_goto (tgt := 154) F.1 F.2.1 dX1_number_149 (by decide) ?_
                  exact hJ12 _ _ _ _ (if_neg h10).symm hW (lv_sub hl [0, 1, 2, 3] rfl)
              · rcases Decidable.em (wh = 7) with hk1_7 | hk1_7
                · refine lv_tableIn (off := 154) (tgt := 155) F.1 F.2.1 dX1_number_1 (by rw [hk1_7]; decide) (by rw [hk1_7]; decide) (by rw [hk1_7]; rfl) (by decide) ?_
                  refine lv_aload_n F.1 F.2.1 dX1_number_155 rfl (lv_at hl 0 rfl) ?_
                  refine lv_iload_n F.1 F.2.1 dX1_number_156 rfl (lv_at hl 2 rfl) ?_
                  refine lv_iload_n F.1 F.2.1 dX1_number_157 rfl (lv_at hl 3 rfl) ?_
                  refine jcip (jrunV (As := [.int ag, .int cp]) (rest := []) F hT hW yc_X1_presentRank yv_X1_presentRank ml_X1_64 (oLin hr hi) (by decide) rfl (c_X1_presentRank l E μ r hr S i ag cp (by first | assumption | omega)) rfl hl.1 ⟨Nat.le_of_ble_eq_true rfl, Nat.le_of_ble_eq_true rfl⟩ rfl (Nat.le_of_ble_eq_true rfl) ⟨Nat.le_refl _, Nat.le_refl _⟩ dX1_number_158) hW (fun x13 H locs ex13 hW => ?_)
                  have hq : (x13 : Int32) = p_X1_number S i wh ag cp := by
                    subst ex13
                    exact ((if_neg hk1_0).trans ((if_neg hk1_1).trans ((if_neg hk1_2).trans ((if_neg hk1_3).trans ((if_neg hk1_4).trans ((if_neg hk1_5).trans ((if_neg hk1_6).trans (if_pos hk1_7)))))))).symm
                  exact jri F hr0 hlk hW rfl dX1_number_161 ⟨hq, rfl⟩
                · rcases Decidable.em (wh = 8) with hk1_8 | hk1_8
                  · refine lv_tableIn (off := 161) (tgt := 162) F.1 F.2.1 dX1_number_1 (by rw [hk1_8]; decide) (by rw [hk1_8]; decide) (by rw [hk1_8]; rfl) (by decide) ?_
                    refine lv_aload_n F.1 F.2.1 dX1_number_162 rfl (lv_at hl 0 rfl) ?_
                    refine jget F hT hW fw_X1_25 (oLin hr hi) (by decide) (rLin hr hi) dX1_number_163 ?_
                    have hq : (S (3 + i) 7 : Int32) = p_X1_number S i wh ag cp := by
                      exact ((if_neg hk1_0).trans ((if_neg hk1_1).trans ((if_neg hk1_2).trans ((if_neg hk1_3).trans ((if_neg hk1_4).trans ((if_neg hk1_5).trans ((if_neg hk1_6).trans ((if_neg hk1_7).trans (if_pos hk1_8))))))))).symm
                    exact jri F hr0 hlk hW rfl dX1_number_166 ⟨hq, rfl⟩
                  · rcases Decidable.em (wh = 9) with hk1_9 | hk1_9
                    · refine lv_tableIn (off := 166) (tgt := 167) F.1 F.2.1 dX1_number_1 (by rw [hk1_9]; decide) (by rw [hk1_9]; decide) (by rw [hk1_9]; rfl) (by decide) ?_
                      refine lv_aload_n F.1 F.2.1 dX1_number_167 rfl (lv_at hl 0 rfl) ?_
                      refine jget F hT hW fw_X1_28 (oLin hr hi) (by decide) (rLin hr hi) dX1_number_168 ?_
                      have hq : (S (3 + i) 8 : Int32) = p_X1_number S i wh ag cp := by
                        exact ((if_neg hk1_0).trans ((if_neg hk1_1).trans ((if_neg hk1_2).trans ((if_neg hk1_3).trans ((if_neg hk1_4).trans ((if_neg hk1_5).trans ((if_neg hk1_6).trans ((if_neg hk1_7).trans ((if_neg hk1_8).trans (if_pos hk1_9)))))))))).symm
                      exact jri F hr0 hlk hW rfl dX1_number_171 ⟨hq, rfl⟩
                    · rcases Decidable.em (wh = 10) with hk1_10 | hk1_10
                      · refine lv_tableIn (off := 171) (tgt := 172) F.1 F.2.1 dX1_number_1 (by rw [hk1_10]; decide) (by rw [hk1_10]; decide) (by rw [hk1_10]; rfl) (by decide) ?_
                        refine lv_aload_n F.1 F.2.1 dX1_number_172 rfl (lv_at hl 0 rfl) ?_
                        refine jget F hT hW fw_X1_31 (oLin hr hi) (by decide) (rLin hr hi) dX1_number_173 ?_
                        have hq : (S (3 + i) 9 : Int32) = p_X1_number S i wh ag cp := by
                          exact ((if_neg hk1_0).trans ((if_neg hk1_1).trans ((if_neg hk1_2).trans ((if_neg hk1_3).trans ((if_neg hk1_4).trans ((if_neg hk1_5).trans ((if_neg hk1_6).trans ((if_neg hk1_7).trans ((if_neg hk1_8).trans ((if_neg hk1_9).trans (if_pos hk1_10))))))))))).symm
                        exact jri F hr0 hlk hW rfl dX1_number_176 ⟨hq, rfl⟩
                      · rcases Decidable.em (wh = 11) with hk1_11 | hk1_11
                        · refine lv_tableIn (off := 176) (tgt := 177) F.1 F.2.1 dX1_number_1 (by rw [hk1_11]; decide) (by rw [hk1_11]; decide) (by rw [hk1_11]; rfl) (by decide) ?_
                          refine lv_aload_n F.1 F.2.1 dX1_number_177 rfl (lv_at hl 0 rfl) ?_
                          refine jget F hT hW fw_X1_34 (oLin hr hi) (by decide) (rLin hr hi) dX1_number_178 ?_
                          have hq : (S (3 + i) 10 : Int32) = p_X1_number S i wh ag cp := by
                            exact ((if_neg hk1_0).trans ((if_neg hk1_1).trans ((if_neg hk1_2).trans ((if_neg hk1_3).trans ((if_neg hk1_4).trans ((if_neg hk1_5).trans ((if_neg hk1_6).trans ((if_neg hk1_7).trans ((if_neg hk1_8).trans ((if_neg hk1_9).trans ((if_neg hk1_10).trans (if_pos hk1_11)))))))))))).symm
                          exact jri F hr0 hlk hW rfl dX1_number_181 ⟨hq, rfl⟩
                        · rcases Decidable.em (wh = 12) with hk1_12 | hk1_12
                          · refine lv_tableIn (off := 181) (tgt := 182) F.1 F.2.1 dX1_number_1 (by rw [hk1_12]; decide) (by rw [hk1_12]; decide) (by rw [hk1_12]; rfl) (by decide) ?_
                            refine lv_aload_n F.1 F.2.1 dX1_number_182 rfl (lv_at hl 0 rfl) ?_
                            refine jget F hT hW fw_X1_37 (oLin hr hi) (by decide) (rLin hr hi) dX1_number_183 ?_
                            have hq : (S (3 + i) 11 : Int32) = p_X1_number S i wh ag cp := by
                              exact ((if_neg hk1_0).trans ((if_neg hk1_1).trans ((if_neg hk1_2).trans ((if_neg hk1_3).trans ((if_neg hk1_4).trans ((if_neg hk1_5).trans ((if_neg hk1_6).trans ((if_neg hk1_7).trans ((if_neg hk1_8).trans ((if_neg hk1_9).trans ((if_neg hk1_10).trans ((if_neg hk1_11).trans (if_pos hk1_12))))))))))))).symm
                            exact jri F hr0 hlk hW rfl dX1_number_186 ⟨hq, rfl⟩
                          · rcases Decidable.em (wh = 13) with hk1_13 | hk1_13
                            · refine lv_tableIn (off := 186) (tgt := 187) F.1 F.2.1 dX1_number_1 (by rw [hk1_13]; decide) (by rw [hk1_13]; decide) (by rw [hk1_13]; rfl) (by decide) ?_
                              refine lv_aload_n F.1 F.2.1 dX1_number_187 rfl (lv_at hl 0 rfl) ?_
                              refine jget F hT hW fw_X1_40 (oLin hr hi) (by decide) (rLin hr hi) dX1_number_188 ?_
                              have hq : (S (3 + i) 12 : Int32) = p_X1_number S i wh ag cp := by
                                exact ((if_neg hk1_0).trans ((if_neg hk1_1).trans ((if_neg hk1_2).trans ((if_neg hk1_3).trans ((if_neg hk1_4).trans ((if_neg hk1_5).trans ((if_neg hk1_6).trans ((if_neg hk1_7).trans ((if_neg hk1_8).trans ((if_neg hk1_9).trans ((if_neg hk1_10).trans ((if_neg hk1_11).trans ((if_neg hk1_12).trans (if_pos hk1_13)))))))))))))).symm
                              exact jri F hr0 hlk hW rfl dX1_number_191 ⟨hq, rfl⟩
                            · rcases Decidable.em (wh = 14) with hk1_14 | hk1_14
                              · refine lv_tableIn (off := 191) (tgt := 192) F.1 F.2.1 dX1_number_1 (by rw [hk1_14]; decide) (by rw [hk1_14]; decide) (by rw [hk1_14]; rfl) (by decide) ?_
                                refine lv_aload_n F.1 F.2.1 dX1_number_192 rfl (lv_at hl 0 rfl) ?_
                                refine jget F hT hW fw_X1_43 (oLin hr hi) (by decide) (rLin hr hi) dX1_number_193 ?_
                                have hq : (S (3 + i) 13 : Int32) = p_X1_number S i wh ag cp := by
                                  exact ((if_neg hk1_0).trans ((if_neg hk1_1).trans ((if_neg hk1_2).trans ((if_neg hk1_3).trans ((if_neg hk1_4).trans ((if_neg hk1_5).trans ((if_neg hk1_6).trans ((if_neg hk1_7).trans ((if_neg hk1_8).trans ((if_neg hk1_9).trans ((if_neg hk1_10).trans ((if_neg hk1_11).trans ((if_neg hk1_12).trans ((if_neg hk1_13).trans (if_pos hk1_14))))))))))))))).symm
                                exact jri F hr0 hlk hW rfl dX1_number_196 ⟨hq, rfl⟩
                              · rcases Decidable.em (wh = 15) with hk1_15 | hk1_15
                                · refine lv_tableIn (off := 196) (tgt := 197) F.1 F.2.1 dX1_number_1 (by rw [hk1_15]; decide) (by rw [hk1_15]; decide) (by rw [hk1_15]; rfl) (by decide) ?_
                                  refine lv_aload_n F.1 F.2.1 dX1_number_197 rfl (lv_at hl 0 rfl) ?_
                                  refine jget F hT hW fw_X1_46 (oLin hr hi) (by decide) (rLin hr hi) dX1_number_198 ?_
                                  have hq : (S (3 + i) 14 : Int32) = p_X1_number S i wh ag cp := by
                                    exact ((if_neg hk1_0).trans ((if_neg hk1_1).trans ((if_neg hk1_2).trans ((if_neg hk1_3).trans ((if_neg hk1_4).trans ((if_neg hk1_5).trans ((if_neg hk1_6).trans ((if_neg hk1_7).trans ((if_neg hk1_8).trans ((if_neg hk1_9).trans ((if_neg hk1_10).trans ((if_neg hk1_11).trans ((if_neg hk1_12).trans ((if_neg hk1_13).trans ((if_neg hk1_14).trans (if_pos hk1_15)))))))))))))))).symm
                                  exact jri F hr0 hlk hW rfl dX1_number_201 ⟨hq, rfl⟩
                                · rcases Decidable.em (wh = 16) with hk1_16 | hk1_16
                                  · refine lv_tableIn (off := 201) (tgt := 202) F.1 F.2.1 dX1_number_1 (by rw [hk1_16]; decide) (by rw [hk1_16]; decide) (by rw [hk1_16]; rfl) (by decide) ?_
                                    refine lv_aload_n F.1 F.2.1 dX1_number_202 rfl (lv_at hl 0 rfl) ?_
                                    refine jget F hT hW fw_X1_49 (oLin hr hi) (by decide) (rLin hr hi) dX1_number_203 ?_
                                    have hq : (S (3 + i) 15 : Int32) = p_X1_number S i wh ag cp := by
                                      exact ((if_neg hk1_0).trans ((if_neg hk1_1).trans ((if_neg hk1_2).trans ((if_neg hk1_3).trans ((if_neg hk1_4).trans ((if_neg hk1_5).trans ((if_neg hk1_6).trans ((if_neg hk1_7).trans ((if_neg hk1_8).trans ((if_neg hk1_9).trans ((if_neg hk1_10).trans ((if_neg hk1_11).trans ((if_neg hk1_12).trans ((if_neg hk1_13).trans ((if_neg hk1_14).trans ((if_neg hk1_15).trans (if_pos hk1_16))))))))))))))))).symm
                                    exact jri F hr0 hlk hW rfl dX1_number_206 ⟨hq, rfl⟩
                                  · refine lv_tableOut (tgt := 207) F.1 F.2.1 dX1_number_1 (by have := lv_neT (a := 0) hk1_0 rfl; have := lv_neT (a := 1) hk1_1 rfl; have := lv_neT (a := 2) hk1_2 rfl; have := lv_neT (a := 3) hk1_3 rfl; have := lv_neT (a := 4) hk1_4 rfl; have := lv_neT (a := 5) hk1_5 rfl; have := lv_neT (a := 6) hk1_6 rfl; have := lv_neT (a := 7) hk1_7 rfl; have := lv_neT (a := 8) hk1_8 rfl; have := lv_neT (a := 9) hk1_9 rfl; have := lv_neT (a := 10) hk1_10 rfl; have := lv_neT (a := 11) hk1_11 rfl; have := lv_neT (a := 12) hk1_12 rfl; have := lv_neT (a := 13) hk1_13 rfl; have := lv_neT (a := 14) hk1_14 rfl; have := lv_neT (a := 15) hk1_15 rfl; have := lv_neT (a := 16) hk1_16 rfl; omega) (by decide) ?_
                                    refine lv_bipush (v := (-2)) F.1 F.2.1 dX1_number_207 (by decide) ?_
                                    have hq : ((-2) : Int32) = p_X1_number S i wh ag cp := by
                                      exact ((if_neg hk1_0).trans ((if_neg hk1_1).trans ((if_neg hk1_2).trans ((if_neg hk1_3).trans ((if_neg hk1_4).trans ((if_neg hk1_5).trans ((if_neg hk1_6).trans ((if_neg hk1_7).trans ((if_neg hk1_8).trans ((if_neg hk1_9).trans ((if_neg hk1_10).trans ((if_neg hk1_11).trans ((if_neg hk1_12).trans ((if_neg hk1_13).trans ((if_neg hk1_14).trans ((if_neg hk1_15).trans (if_neg hk1_16))))))))))))))))).symm
                                    exact jri F hr0 hlk hW rfl dX1_number_209 ⟨hq, rfl⟩

