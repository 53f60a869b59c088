/-! the reference: its small methods -/
def p_X7_in (a : Int32) (b : Int32) (d : Int32) : Int32 :=
  let v3 : Int32 := (if a < b then 0 else (if d < a then 0 else 1))
  (v3 : Int32)
set_option maxHeartbeats 4000000 in
set_option maxRecDepth 100000 in
theorem c_X7_in (l : Launch) (E : mE) (μ : Mu) (a : Int32) (b : Int32) (d : Int32) : CtI l E yX7_in cX7_in 3 (some .boolean) 0 0 [.int a, .int b, .int d] μ (fun x μ' => x = p_X7_in a b d ∧ μ' = μ) := by
  refine jMet (by decide +kernel) (Nat.le_of_ble_eq_true rfl) ?_
  intro p e s m below meth c ls F hT hr0 hlk hW hl
  have F : CallFix p m c cX7_in 3 s _ TB RX7 := F
  have hl : lv_has ls 3 [(0, .int a), (1, .int b), (2, .int d)] := hl
  refine lv_iload_n F.1 F.2.1 dX7_in_0 rfl (lv_at hl 0 rfl) ?_
  refine lv_iload_n F.1 F.2.1 dX7_in_1 rfl (lv_at hl 1 rfl) ?_
  have hJ4 : ∀ (v3 : Int32) (H : Heap) (locs : List Loc) (ls : Array Slot), v3 = (if a < b then 0 else (if d < a then 0 else 1)) → Wd E s H locs μ → lv_has ls 3 [(0, .int a), (1, .int b), (2, .int d)] → W p l e (rmO 0 0) s m ([.int a, .int b, .int d] : List Value).toArray below meth c H locs 0 0 (MQ below (va_Qi (fun x μ' => x = p_X7_in a b d ∧ μ' = μ) (fun μ' t => MB E μ' t.heap) (AA E)) ([.int a, .int b, .int d] : List Value).toArray s 0 0 (AA E)) (F0 m 15 ls [.int v3]) := by
    intro v3 H locs ls ev3 hW hl
    have hq : (v3 : Int32) = p_X7_in a b d := by
      subst ev3
      exact (rfl).symm
    exact jri F hr0 hlk hW (znar (by first | assumption | ((try clear hq); subst_vars; (try dsimp only); repeat' (first | exact Or.inl rfl | exact Or.inr rfl | refine iteZ ?_ ?_)))) dX7_in_15 ⟨hq, rfl⟩
  refine lv_icmp_lt (tgt := 14) F.1 F.2.1 dX7_in_2 (by decide) (fun h1 => ?_) (fun h1 => ?_)
  · refine lv_iconst (v := 0) F.1 F.2.1 dX7_in_14 (by decide) ?_
    exact hJ4 _ _ _ _ (if_pos h1).symm hW (lv_sub hl [0, 1, 2] rfl)
  · refine lv_iload_n F.1 F.2.1 dX7_in_5 rfl (lv_at hl 0 rfl) ?_
    refine lv_iload_n F.1 F.2.1 dX7_in_6 rfl (lv_at hl 2 rfl) ?_
    refine lv_icmp_gt (tgt := 14) F.1 F.2.1 dX7_in_7 (by decide) (fun h2 => ?_) (fun h2 => ?_)
    · refine lv_iconst (v := 0) F.1 F.2.1 dX7_in_14 (by decide) ?_
      exact hJ4 _ _ _ _ ((if_neg h1).trans (if_pos h2)).symm hW (lv_sub hl [0, 1, 2] rfl)
    · refine lv_iconst (v := 1) F.1 F.2.1 dX7_in_10 (by decide) ?_
      refine lv_goto (tgt := 15) F.1 F.2.1 dX7_in_11 (by decide) ?_
      exact hJ4 _ _ _ _ ((if_neg h1).trans (if_neg h2)).symm hW (lv_sub hl [0, 1, 2] rfl)

def p_X7_least (st : Int32) : Int32 :=
  let v3 : Int32 := (if st = 2 then 1 else (if st = 3 then 1 else 0))
  (v3 : Int32)
set_option maxHeartbeats 4000000 in
set_option maxRecDepth 100000 in
theorem c_X7_least (l : Launch) (E : mE) (μ : Mu) (st : Int32) : CtI l E yX7_least cX7_least 1 (some .int) 0 0 [.int st] μ (fun x μ' => x = p_X7_least st ∧ μ' = μ) := by
  refine jMet (by decide +kernel) (Nat.le_of_ble_eq_true rfl) ?_
  intro p e s m below meth c ls F hT hr0 hlk hW hl
  have F : CallFix p m c cX7_least 1 s _ TB RX7 := F
  have hl : lv_has ls 1 [(0, .int st)] := hl
  refine lv_iload_n F.1 F.2.1 dX7_least_0 rfl (lv_at hl 0 rfl) ?_
  refine lv_iconst (v := 2) F.1 F.2.1 dX7_least_1 (by decide) ?_
  have hJ4 : ∀ (v3 : Int32) (H : Heap) (locs : List Loc) (ls : Array Slot), v3 = (if st = 2 then 1 else (if st = 3 then 1 else 0)) → Wd E s H locs μ → lv_has ls 1 [(0, .int st)] → W p l e (rmO 0 0) s m ([.int st] : List Value).toArray below meth c H locs 0 0 (MQ below (va_Qi (fun x μ' => x = p_X7_least st ∧ μ' = μ) (fun μ' t => MB E μ' t.heap) (AA E)) ([.int st] : List Value).toArray s 0 0 (AA E)) (F0 m 15 ls [.int v3]) := by
    intro v3 H locs ls ev3 hW hl
    have hq : (v3 : Int32) = p_X7_least st := by
      subst ev3
      exact (rfl).symm
    exact jri F hr0 hlk hW rfl dX7_least_15 ⟨hq, rfl⟩
  refine lv_icmp_eq (tgt := 10) F.1 F.2.1 dX7_least_2 (by decide) (fun h1 => ?_) (fun h1 => ?_)
  · refine lv_iconst (v := 1) F.1 F.2.1 dX7_least_10 (by decide) ?_
    refine lv_goto (tgt := 15) F.1 F.2.1 dX7_least_11 (by decide) ?_
    exact hJ4 _ _ _ _ (if_pos h1).symm hW (lv_sub hl [0] rfl)
  · refine lv_iload_n F.1 F.2.1 dX7_least_5 rfl (lv_at hl 0 rfl) ?_
    refine lv_iconst (v := 3) F.1 F.2.1 dX7_least_6 (by decide) ?_
    refine lv_icmp_ne (tgt := 14) F.1 F.2.1 dX7_least_7 (by decide) (fun h2 => ?_) (fun h2 => ?_)
    · refine lv_iconst (v := 0) F.1 F.2.1 dX7_least_14 (by decide) ?_
      exact hJ4 _ _ _ _ ((if_neg h1).trans (if_neg h2)).symm hW (lv_sub hl [0] rfl)
    · refine lv_iconst (v := 1) F.1 F.2.1 dX7_least_10 (by decide) ?_
      refine lv_goto (tgt := 15) F.1 F.2.1 dX7_least_11 (by decide) ?_
      exact hJ4 _ _ _ _ ((if_neg h1).trans (if_pos h2)).symm hW (lv_sub hl [0] rfl)

def p_X7_most (st : Int32) : Int32 :=
  if st = 0 then
    (100 : Int32)
  else
    if st = 1 then
      (31 : Int32)
    else
      if st = 2 then
        (9 : Int32)
      else
        if st = 3 then
          (8 : Int32)
        else
          if st = 4 then
            (9 : Int32)
          else
            if st = 5 then
              (1 : Int32)
            else
              if st = 6 then
                (31 : Int32)
              else
                (1 : Int32)
set_option maxHeartbeats 4000000 in
set_option maxRecDepth 100000 in
theorem c_X7_most (l : Launch) (E : mE) (μ : Mu) (st : Int32) : CtI l E yX7_most cX7_most 1 (some .int) 0 0 [.int st] μ (fun x μ' => x = p_X7_most st ∧ μ' = μ) := by
  refine jMet (by decide +kernel) (Nat.le_of_ble_eq_true rfl) ?_
  intro p e s m below meth c ls F hT hr0 hlk hW hl
  have F : CallFix p m c cX7_most 1 s _ TB RX7 := F
  have hl : lv_has ls 1 [(0, .int st)] := hl
  refine lv_iload_n F.1 F.2.1 dX7_most_0 rfl (lv_at hl 0 rfl) ?_
  rcases Decidable.em (st = 0) with hk1_0 | hk1_0
  · refine lv_tableIn (off := 43) (tgt := 44) F.1 F.2.1 dX7_most_1 (by rw [hk1_0]; decide) (by rw [hk1_0]; decide) (by rw [hk1_0]; rfl) (by decide) ?_
    refine lv_bipush (v := 100) F.1 F.2.1 dX7_most_44 (by decide) ?_
    have hq : (100 : Int32) = p_X7_most st := by
      exact (if_pos hk1_0).symm
    exact jri F hr0 hlk hW rfl dX7_most_46 ⟨hq, rfl⟩
  · rcases Decidable.em (st = 1) with hk1_1 | hk1_1
    · refine lv_tableIn (off := 46) (tgt := 47) F.1 F.2.1 dX7_most_1 (by rw [hk1_1]; decide) (by rw [hk1_1]; decide) (by rw [hk1_1]; rfl) (by decide) ?_
      refine lv_bipush (v := 31) F.1 F.2.1 dX7_most_47 (by decide) ?_
      have hq : (31 : Int32) = p_X7_most st := by
        exact ((if_neg hk1_0).trans (if_pos hk1_1)).symm
      exact jri F hr0 hlk hW rfl dX7_most_49 ⟨hq, rfl⟩
    · rcases Decidable.em (st = 2) with hk1_2 | hk1_2
      · refine lv_tableIn (off := 49) (tgt := 50) F.1 F.2.1 dX7_most_1 (by rw [hk1_2]; decide) (by rw [hk1_2]; decide) (by rw [hk1_2]; rfl) (by decide) ?_
        refine lv_bipush (v := 9) F.1 F.2.1 dX7_most_50 (by decide) ?_
        have hq : (9 : Int32) = p_X7_most st := by
          exact ((if_neg hk1_0).trans ((if_neg hk1_1).trans (if_pos hk1_2))).symm
        exact jri F hr0 hlk hW rfl dX7_most_52 ⟨hq, rfl⟩
      · rcases Decidable.em (st = 3) with hk1_3 | hk1_3
        · refine lv_tableIn (off := 52) (tgt := 53) F.1 F.2.1 dX7_most_1 (by rw [hk1_3]; decide) (by rw [hk1_3]; decide) (by rw [hk1_3]; rfl) (by decide) ?_
          refine lv_bipush (v := 8) F.1 F.2.1 dX7_most_53 (by decide) ?_
          have hq : (8 : Int32) = p_X7_most st := by
            exact ((if_neg hk1_0).trans ((if_neg hk1_1).trans ((if_neg hk1_2).trans (if_pos hk1_3)))).symm
          exact jri F hr0 hlk hW rfl dX7_most_55 ⟨hq, rfl⟩
        · rcases Decidable.em (st = 4) with hk1_4 | hk1_4
          · refine lv_tableIn (off := 49) (tgt := 50) F.1 F.2.1 dX7_most_1 (by rw [hk1_4]; decide) (by rw [hk1_4]; decide) (by rw [hk1_4]; rfl) (by decide) ?_
            refine lv_bipush (v := 9) F.1 F.2.1 dX7_most_50 (by decide) ?_
            have hq : (9 : Int32) = p_X7_most st := by
              exact ((if_neg hk1_0).trans ((if_neg hk1_1).trans ((if_neg hk1_2).trans ((if_neg hk1_3).trans (if_pos hk1_4))))).symm
            exact jri F hr0 hlk hW rfl dX7_most_52 ⟨hq, rfl⟩
          · rcases Decidable.em (st = 5) with hk1_5 | hk1_5
            · refine lv_tableIn (off := 55) (tgt := 56) F.1 F.2.1 dX7_most_1 (by rw [hk1_5]; decide) (by rw [hk1_5]; decide) (by rw [hk1_5]; rfl) (by decide) ?_
              refine lv_iconst (v := 1) F.1 F.2.1 dX7_most_56 (by decide) ?_
              have hq : (1 : Int32) = p_X7_most st := by
                exact ((if_neg hk1_0).trans ((if_neg hk1_1).trans ((if_neg hk1_2).trans ((if_neg hk1_3).trans ((if_neg hk1_4).trans (if_pos hk1_5)))))).symm
              exact jri F hr0 hlk hW rfl dX7_most_57 ⟨hq, rfl⟩
            · rcases Decidable.em (st = 6) with hk1_6 | hk1_6
              · refine lv_tableIn (off := 46) (tgt := 47) F.1 F.2.1 dX7_most_1 (by rw [hk1_6]; decide) (by rw [hk1_6]; decide) (by rw [hk1_6]; rfl) (by decide) ?_
                refine lv_bipush (v := 31) F.1 F.2.1 dX7_most_47 (by decide) ?_
                have hq : (31 : Int32) = p_X7_most st := by
                  exact ((if_neg hk1_0).trans ((if_neg hk1_1).trans ((if_neg hk1_2).trans ((if_neg hk1_3).trans ((if_neg hk1_4).trans ((if_neg hk1_5).trans (if_pos hk1_6))))))).symm
                exact jri F hr0 hlk hW rfl dX7_most_49 ⟨hq, rfl⟩
              · refine lv_tableOut (tgt := 56) F.1 F.2.1 dX7_most_1 (by have := lv_neT (a := 0) hk1_0 rfl; have := lv_neT (a := 1) hk1_1 rfl; have := lv_neT (a := 2) hk1_2 rfl; have := lv_neT (a := 3) hk1_3 rfl; have := lv_neT (a := 4) hk1_4 rfl; have := lv_neT (a := 5) hk1_5 rfl; have := lv_neT (a := 6) hk1_6 rfl; omega) (by decide) ?_
                refine lv_iconst (v := 1) F.1 F.2.1 dX7_most_56 (by decide) ?_
                have hq : (1 : Int32) = p_X7_most st := by
                  exact ((if_neg hk1_0).trans ((if_neg hk1_1).trans ((if_neg hk1_2).trans ((if_neg hk1_3).trans ((if_neg hk1_4).trans ((if_neg hk1_5).trans (if_neg hk1_6))))))).symm
                exact jri F hr0 hlk hW rfl dX7_most_57 ⟨hq, rfl⟩

theorem b_in {a b d : Int32} : p_X7_in a b d = 0 ∨ p_X7_in a b d = 1 := by
  unfold p_X7_in
  dsimp only
  repeat' split
  all_goals simp
theorem in_w {a b d : Int32} : p_X7_in a b d = p_X6_within a b d := by
  unfold p_X7_in p_X6_within
  dsimp only

def p_X7_areSizes (a : Int32) (b : Int32) (d : Int32) : Int32 :=
  let x1 : Int32 := p_X7_in a 0 15
  let v7 : Int32 := (if x1 = 0 then 0 else (let x3 : Int32 := p_X7_in b 1 50; (if x3 = 0 then 0 else (let x5 : Int32 := p_X7_in d 0 500; (if x5 = 0 then 0 else 1)))))
  (v7 : Int32)
set_option maxHeartbeats 4000000 in
set_option maxRecDepth 100000 in
theorem c_X7_areSizes (l : Launch) (E : mE) (μ : Mu) (a : Int32) (b : Int32) (d : Int32) : CtI l E yX7_areSizes cX7_areSizes 3 (some .boolean) 1 22 [.int a, .int b, .int d] μ (fun x μ' => x = p_X7_areSizes a b d ∧ μ' = μ) := by
  refine jMet (by decide +kernel) (Nat.le_of_ble_eq_true rfl) ?_
  intro p e s m below meth c ls F hT hr0 hlk hW hl
  have F : CallFix p m c cX7_areSizes 3 s _ TB RX7 := F
  have hl : lv_has ls 3 [(0, .int a), (1, .int b), (2, .int d)] := hl
  refine lv_iload_n F.1 F.2.1 dX7_areSizes_0 rfl (lv_at hl 0 rfl) ?_
  refine lv_iconst (v := 0) F.1 F.2.1 dX7_areSizes_1 (by decide) ?_
  refine lv_bipush (v := 15) F.1 F.2.1 dX7_areSizes_2 (by decide) ?_
  refine jcip (jrunS (As := [.int a, .int 0, .int 15]) (rest := []) F hT hW yc_X7_in ys_X7_in ml_X7_40 (c_X7_in l E μ a 0 15) rfl hl.1 ⟨Nat.le_of_ble_eq_true rfl, Nat.le_of_ble_eq_true rfl⟩ rfl (Nat.le_of_ble_eq_true rfl) ⟨Nat.le_refl _, Nat.le_refl _⟩ dX7_areSizes_4) hW (fun x1 H locs ex1 hW => ?_)
  have hJ8 : ∀ (v7 : Int32) (H : Heap) (locs : List Loc) (ls : Array Slot), v7 = (if x1 = 0 then 0 else (let x3 : Int32 := p_X7_in b 1 50; (if x3 = 0 then 0 else (let x5 : Int32 := p_X7_in d 0 500; (if x5 = 0 then 0 else 1))))) → Wd E s H locs μ → lv_has ls 3 [(0, .int a), (1, .int b), (2, .int d)] → W p l e (rmO 1 22) s m ([.int a, .int b, .int d] : List Value).toArray below meth c H locs 0 0 (MQ below (va_Qi (fun x μ' => x = p_X7_areSizes a b d ∧ μ' = μ) (fun μ' t => MB E μ' t.heap) (AA E)) ([.int a, .int b, .int d] : List Value).toArray s 0 0 (AA E)) (F0 m 36 ls [.int v7]) := by
    intro v7 H locs ls ev7 hW hl
    have hq : (v7 : Int32) = p_X7_areSizes a b d := by
      subst ev7
      subst ex1
      exact (rfl).symm
    exact jri F hr0 hlk hW (znar (by first | assumption | ((try clear hq); subst_vars; (try dsimp only); repeat' (first | exact Or.inl rfl | exact Or.inr rfl | refine iteZ ?_ ?_)))) dX7_areSizes_36 ⟨hq, rfl⟩
  refine lv_if_eq (tgt := 35) F.1 F.2.1 dX7_areSizes_7 (by decide) (fun h2 => ?_) (fun h2 => ?_)
  · refine lv_iconst (v := 0) F.1 F.2.1 dX7_areSizes_35 (by decide) ?_
    exact hJ8 _ _ _ _ (if_pos h2).symm hW (lv_sub hl [0, 1, 2] rfl)
  · refine lv_iload_n F.1 F.2.1 dX7_areSizes_10 rfl (lv_at hl 1 rfl) ?_
    refine lv_iconst (v := 1) F.1 F.2.1 dX7_areSizes_11 (by decide) ?_
    refine lv_bipush (v := 50) F.1 F.2.1 dX7_areSizes_12 (by decide) ?_
    refine jcip (jrunS (As := [.int b, .int 1, .int 50]) (rest := []) F hT hW yc_X7_in ys_X7_in ml_X7_40 (c_X7_in l E μ b 1 50) rfl hl.1 ⟨Nat.le_of_ble_eq_true rfl, Nat.le_of_ble_eq_true rfl⟩ rfl (Nat.le_of_ble_eq_true rfl) ⟨Nat.le_refl _, Nat.le_refl _⟩ dX7_areSizes_14) hW (fun x3 H locs ex3 hW => ?_)
    refine lv_if_eq (tgt := 35) F.1 F.2.1 dX7_areSizes_17 (by decide) (fun h4 => ?_) (fun h4 => ?_)
    · refine lv_iconst (v := 0) F.1 F.2.1 dX7_areSizes_35 (by decide) ?_
      subst ex3
      exact hJ8 _ _ _ _ ((if_neg h2).trans (if_pos h4)).symm hW (lv_sub hl [0, 1, 2] rfl)
    · refine lv_iload_n F.1 F.2.1 dX7_areSizes_20 rfl (lv_at hl 2 rfl) ?_
      refine lv_iconst (v := 0) F.1 F.2.1 dX7_areSizes_21 (by decide) ?_
      refine lv_sipush (v := 500) F.1 F.2.1 dX7_areSizes_22 (by decide) ?_
      refine jcip (jrunS (As := [.int d, .int 0, .int 500]) (rest := []) F hT hW yc_X7_in ys_X7_in ml_X7_40 (c_X7_in l E μ d 0 500) rfl hl.1 ⟨Nat.le_of_ble_eq_true rfl, Nat.le_of_ble_eq_true rfl⟩ rfl (Nat.le_of_ble_eq_true rfl) ⟨Nat.le_refl _, Nat.le_refl _⟩ dX7_areSizes_25) hW (fun x5 H locs ex5 hW => ?_)
      refine lv_if_eq (tgt := 35) F.1 F.2.1 dX7_areSizes_28 (by decide) (fun h6 => ?_) (fun h6 => ?_)
      · refine lv_iconst (v := 0) F.1 F.2.1 dX7_areSizes_35 (by decide) ?_
        subst ex5
        subst ex3
        exact hJ8 _ _ _ _ ((if_neg h2).trans ((if_neg h4).trans (if_pos h6))).symm hW (lv_sub hl [0, 1, 2] rfl)
      · refine lv_iconst (v := 1) F.1 F.2.1 dX7_areSizes_31 (by decide) ?_
        refine lv_goto (tgt := 36) F.1 F.2.1 dX7_areSizes_32 (by decide) ?_
        subst ex5
        subst ex3
        exact hJ8 _ _ _ _ ((if_neg h2).trans ((if_neg h4).trans (if_neg h6))).symm hW (lv_sub hl [0, 1, 2] rfl)

def p_X7_isLine (S : Sv) (ln : Int32) : Int32 :=
  let x1 : Int32 := p_X7_in ln 0 ((S 1 8) - 1)
  (x1 : Int32)

set_option maxHeartbeats 4000000 in
set_option maxRecDepth 100000 in
theorem c_X7_isLine (l : Launch) (E : mE) (μ : Mu) (S : Sv) (ln : Int32) : CtI l E yX7_isLine cX7_isLine 2 (some .boolean) 1 22 [.ref (ea E 13 0), .int ln] (fo μ 13 S) (fun x μ' => x = p_X7_isLine S ln ∧ μ' = (fo μ 13 S)) := by
  refine jMet (by decide +kernel) (Nat.le_of_ble_eq_true rfl) ?_
  intro p e s m below meth c ls F hT hr0 hlk hW hl
  have F : CallFix p m c cX7_isLine 2 s _ TB RX7 := F
  have hl : lv_has ls 2 [(0, .ref (ea E 13 0)), (1, .int ln)] := hl
  refine lv_iload_n F.1 F.2.1 dX7_isLine_0 rfl (lv_at hl 1 rfl) ?_
  refine lv_iconst (v := 0) F.1 F.2.1 dX7_isLine_1 (by decide) ?_
  refine lv_aload_n F.1 F.2.1 dX7_isLine_2 rfl (lv_at hl 0 rfl) ?_
  refine jgetR F hT hW fw_X7_7 oM0 (by decide) rfl dX7_isLine_3 ?_
  refine lv_bipush (v := 8) F.1 F.2.1 dX7_isLine_6 (by decide) ?_
  refine jiald F hT hW 8 oM1 (by omega) (by decide) (lI 8) rfl dX7_isLine_8 ?_
  refine lv_iconst (v := 1) F.1 F.2.1 dX7_isLine_9 (by decide) ?_
  refine lv_isub F.1 F.2.1 dX7_isLine_10 ?_
  refine jcip (jrunS (As := [.int ln, .int 0, .int ((S 1 8) - 1)]) (rest := []) F hT hW yc_X7_in ys_X7_in ml_X7_40 (c_X7_in l E (fo μ 13 S) ln 0 ((S 1 8) - 1)) rfl hl.1 ⟨Nat.le_of_ble_eq_true rfl, Nat.le_of_ble_eq_true rfl⟩ rfl (Nat.le_of_ble_eq_true rfl) ⟨Nat.le_refl _, Nat.le_refl _⟩ dX7_isLine_11) hW (fun x1 H locs ex1 hW => ?_)
  have hq : (x1 : Int32) = p_X7_isLine S ln := by
    subst ex1
    exact (rfl).symm
  exact jri F hr0 hlk hW (znar (by first | assumption | ((try clear hq); subst_vars; (try dsimp only); repeat' (first | exact Or.inl rfl | exact Or.inr rfl | exact b_in | refine iteZ ?_ ?_)))) dX7_isLine_14 ⟨hq, rfl⟩

def p_X7_of (S : Sv) (li : Nat) (wh : Nat) : Int32 :=
  (S 1 (20 + 16 * li + wh) : Int32)

set_option maxHeartbeats 4000000 in
set_option maxRecDepth 100000 in
theorem c_X7_of (l : Launch) (E : mE) (μ : Mu) (S : Sv) (xl : Int32) (li : Nat) (exl : xl = nI li) (xw : Int32) (wh : Nat) (exw : xw = nI wh) (hli : li < 12) (hwh : wh < 16) : CtI l E yX7_of cX7_of 3 (some .int) 0 0 [.ref (ea E 13 0), .int xl, .int xw] (fo μ 13 S) (fun x μ' => x = p_X7_of S li wh ∧ μ' = (fo μ 13 S)) := by
  subst exl
  subst exw
  refine jMet (by decide +kernel) (Nat.le_of_ble_eq_true rfl) ?_
  intro p e s m below meth c ls F hT hr0 hlk hW hl
  have F : CallFix p m c cX7_of 3 s _ TB RX7 := F
  have hl : lv_has ls 3 [(0, .ref (ea E 13 0)), (1, .int (nI li)), (2, .int (nI wh))] := hl
  refine lv_aload_n F.1 F.2.1 dX7_of_0 rfl (lv_at hl 0 rfl) ?_
  refine jgetR F hT hW fw_X7_7 oM0 (by decide) rfl dX7_of_1 ?_
  refine lv_bipush (v := 20) F.1 F.2.1 dX7_of_4 (by decide) ?_
  refine lv_bipush (v := 16) F.1 F.2.1 dX7_of_6 (by decide) ?_
  refine lv_iload_n F.1 F.2.1 dX7_of_8 rfl (lv_at hl 1 rfl) ?_
  refine lv_imul F.1 F.2.1 dX7_of_9 ?_
  refine lv_iadd F.1 F.2.1 dX7_of_10 ?_
  refine lv_iload_n F.1 F.2.1 dX7_of_11 rfl (lv_at hl 2 rfl) ?_
  refine lv_iadd F.1 F.2.1 dX7_of_12 ?_
  refine jiald F hT hW (20 + 16 * li + wh) oM1 (by omega) (by decide) (ia (ia (lI 20) (im (lI 16) rfl)) rfl) rfl dX7_of_13 ?_
  have hq : (S 1 (20 + 16 * li + wh) : Int32) = p_X7_of S li wh := by
    exact (rfl).symm
  exact jri F hr0 hlk hW rfl dX7_of_14 ⟨hq, rfl⟩

def p_X7_book (S : Sv) (li : Nat) (wh : Nat) (v : Int32) (mr : Int32) : Sv :=
  let v2 : Int32 := (if mr = 0 then v else (S 1 (20 + 16 * li + wh)) + v)
  let S4 : Sv := us S 1 (20 + 16 * li + wh) v2
  S4

set_option maxHeartbeats 4000000 in
set_option maxRecDepth 100000 in
theorem c_X7_book (l : Launch) (E : mE) (μ : Mu) (S : Sv) (xl : Int32) (li : Nat) (exl : xl = nI li) (xw : Int32) (wh : Nat) (exw : xw = nI wh) (v : Int32) (mr : Int32) (hli : li < 12) (hwh : wh < 16) : CtV l E yX7_book cX7_book 6 0 0 [.ref (ea E 13 0), .int xl, .int xw, .int v, .int mr] (fo μ 13 S) (fun μ' => μ' = fo μ 13 (p_X7_book S li wh v mr)) := by
  subst exl
  subst exw
  refine jMet (by decide +kernel) (Nat.le_of_ble_eq_true rfl) ?_
  intro p e s m below meth c ls F hT hr0 hlk hW hl
  have F : CallFix p m c cX7_book 6 s _ TB RX7 := F
  have hl : lv_has ls 6 [(0, .ref (ea E 13 0)), (1, .int (nI li)), (2, .int (nI wh)), (3, .int v), (4, .int mr)] := hl
  refine lv_bipush (v := 20) F.1 F.2.1 dX7_book_0 (by decide) ?_
  refine lv_bipush (v := 16) F.1 F.2.1 dX7_book_2 (by decide) ?_
  refine lv_iload_n F.1 F.2.1 dX7_book_4 rfl (lv_at hl 1 rfl) ?_
  refine lv_imul F.1 F.2.1 dX7_book_5 ?_
  refine lv_iadd F.1 F.2.1 dX7_book_6 ?_
  refine lv_iload_n F.1 F.2.1 dX7_book_7 rfl (lv_at hl 2 rfl) ?_
  refine lv_iadd F.1 F.2.1 dX7_book_8 ?_
  refine lv_istore (lv' := [(5, .int ((20 + (16 * (nI li))) + (nI wh))), (0, .ref (ea E 13 0)), (1, .int (nI li)), (2, .int (nI wh)), (3, .int v), (4, .int mr)]) F.1 F.2.1 dX7_book_9 hl (by decide) rfl (fun ls hl => ?_)
  refine lv_aload_n F.1 F.2.1 dX7_book_11 rfl (lv_at hl 1 rfl) ?_
  refine jgetR F hT hW fw_X7_7 oM0 (by decide) rfl dX7_book_12 ?_
  refine lv_iload F.1 F.2.1 dX7_book_15 (lv_at hl 0 rfl) ?_
  refine lv_iload F.1 F.2.1 dX7_book_17 (lv_at hl 5 rfl) ?_
  have hJ3 : ∀ (v2 : Int32) (H : Heap) (locs : List Loc) (ls : Array Slot), v2 = (if mr = 0 then v else (S 1 (20 + 16 * li + wh)) + v) → Wd E s H locs (fo μ 13 S) → lv_has ls 6 [(5, .int ((20 + (16 * (nI li))) + (nI wh))), (0, .ref (ea E 13 0)), (1, .int (nI li)), (2, .int (nI wh)), (3, .int v), (4, .int mr)] → W p l e (rmO 0 0) s m ([.ref (ea E 13 0), .int (nI li), .int (nI wh), .int v, .int mr] : List Value).toArray below meth c H locs 0 0 (MQ below (va_Qv (fun μ' => μ' = fo μ 13 (p_X7_book S li wh v mr)) (fun μ' t => MB E μ' t.heap) (AA E)) ([.ref (ea E 13 0), .int (nI li), .int (nI wh), .int v, .int mr] : List Value).toArray s 0 0 (AA E)) (F0 m 35 ls [.int v2, .int ((20 + (16 * (nI li))) + (nI wh)), .ref (ea E 13 1)]) := by
    intro v2 H locs ls ev2 hW hl
    refine jiast F hT hW (20 + 16 * li + wh) oM1 (by decide) (by omega) (by decide) (ia (ia (lI 20) (im (lI 16) rfl)) rfl) rfl dX7_book_35 (fun S4 H locs eS4 hW => ?_)
    have hq : S4 = p_X7_book S li wh v mr := by
      subst eS4
      subst ev2
      exact (rfl).symm
    exact jrv F hr0 hlk hW dX7_book_36 (congrArg (fun z => fo μ 13 z) hq)
  refine lv_if_eq (tgt := 34) F.1 F.2.1 dX7_book_19 (by decide) (fun h1 => ?_) (fun h1 => ?_)
  · refine lv_iload_n F.1 F.2.1 dX7_book_34 rfl (lv_at hl 4 rfl) ?_
    exact hJ3 _ _ _ _ (if_pos h1).symm hW (lv_sub hl [0, 1, 2, 3, 4, 5] rfl)
  · refine lv_aload_n F.1 F.2.1 dX7_book_22 rfl (lv_at hl 1 rfl) ?_
    refine jgetR F hT hW fw_X7_7 oM0 (by decide) rfl dX7_book_23 ?_
    refine lv_iload F.1 F.2.1 dX7_book_26 (lv_at hl 0 rfl) ?_
    refine jiald F hT hW (20 + 16 * li + wh) oM1 (by omega) (by decide) (ia (ia (lI 20) (im (lI 16) rfl)) rfl) rfl dX7_book_28 ?_
    refine lv_iload_n F.1 F.2.1 dX7_book_29 rfl (lv_at hl 4 rfl) ?_
    refine lv_iadd F.1 F.2.1 dX7_book_30 ?_
    refine lv_goto (tgt := 35) F.1 F.2.1 dX7_book_31 (by decide) ?_
    exact hJ3 _ _ _ _ (if_neg h1).symm hW (lv_sub hl [0, 1, 2, 3, 4, 5] rfl)

def p_X7_waits (S : Sv) (li : Nat) : Int32 :=
  let x1 : Int32 := p_X7_of S li 5
  let v3 : Int32 := (if x1 = 1 then 1 else 0)
  (v3 : Int32)

set_option maxHeartbeats 4000000 in
set_option maxRecDepth 100000 in
theorem c_X7_waits (l : Launch) (E : mE) (μ : Mu) (S : Sv) (xl : Int32) (li : Nat) (exl : xl = nI li) (hli : li < 12) : CtI l E yX7_waits cX7_waits 2 (some .boolean) 1 22 [.ref (ea E 13 0), .int xl] (fo μ 13 S) (fun x μ' => x = p_X7_waits S li ∧ μ' = (fo μ 13 S)) := by
  subst exl
  refine jMet (by decide +kernel) (Nat.le_of_ble_eq_true rfl) ?_
  intro p e s m below meth c ls F hT hr0 hlk hW hl
  have F : CallFix p m c cX7_waits 2 s _ TB RX7 := F
  have hl : lv_has ls 2 [(0, .ref (ea E 13 0)), (1, .int (nI li))] := hl
  refine lv_aload_n F.1 F.2.1 dX7_waits_0 rfl (lv_at hl 0 rfl) ?_
  refine lv_iload_n F.1 F.2.1 dX7_waits_1 rfl (lv_at hl 1 rfl) ?_
  refine lv_iconst (v := 5) F.1 F.2.1 dX7_waits_2 (by decide) ?_
  refine jcip (jrunV (As := [.int (nI li), .int 5]) (rest := []) F hT hW yc_X7_of yv_X7_of ml_X7_61 oM0 (by decide) rfl (c_X7_of l E μ S (nI li) li rfl 5 5 (lI 5) (by first | assumption | omega) (by first | assumption | omega)) rfl hl.1 ⟨Nat.le_of_ble_eq_true rfl, Nat.le_of_ble_eq_true rfl⟩ rfl (Nat.le_of_ble_eq_true rfl) ⟨Nat.le_refl _, Nat.le_refl _⟩ dX7_waits_3) hW (fun x1 H locs ex1 hW => ?_)
  refine lv_iconst (v := 1) F.1 F.2.1 dX7_waits_6 (by decide) ?_
  have hJ4 : ∀ (v3 : Int32) (H : Heap) (locs : List Loc) (ls : Array Slot), v3 = (if x1 = 1 then 1 else 0) → Wd E s H locs (fo μ 13 S) → lv_has ls 2 [(0, .ref (ea E 13 0)), (1, .int (nI li))] → W p l e (rmO 1 22) s m ([.ref (ea E 13 0), .int (nI li)] : List Value).toArray below meth c H locs 0 0 (MQ below (va_Qi (fun x μ' => x = p_X7_waits S li ∧ μ' = (fo μ 13 S)) (fun μ' t => MB E μ' t.heap) (AA E)) ([.ref (ea E 13 0), .int (nI li)] : List Value).toArray s 0 0 (AA E)) (F0 m 15 ls [.int v3]) := by
    intro v3 H locs ls ev3 hW hl
    have hq : (v3 : Int32) = p_X7_waits S li := by
      subst ev3
      subst ex1
      exact (rfl).symm
    exact jri F hr0 hlk hW (znar (by first | assumption | ((try clear hq); subst_vars; (try dsimp only); repeat' (first | exact Or.inl rfl | exact Or.inr rfl | refine iteZ ?_ ?_)))) dX7_waits_15 ⟨hq, rfl⟩
  refine lv_icmp_ne (tgt := 14) F.1 F.2.1 dX7_waits_7 (by decide) (fun h2 => ?_) (fun h2 => ?_)
  · refine lv_iconst (v := 0) F.1 F.2.1 dX7_waits_14 (by decide) ?_
    exact hJ4 _ _ _ _ (if_neg h2).symm hW (lv_sub hl [0, 1] rfl)
  · refine lv_iconst (v := 1) F.1 F.2.1 dX7_waits_10 (by decide) ?_
    refine lv_goto (tgt := 15) F.1 F.2.1 dX7_waits_11 (by decide) ?_
    exact hJ4 _ _ _ _ (if_pos h2).symm hW (lv_sub hl [0, 1] rfl)

def p_X7_turn (S : Sv) (li : Nat) (wt : Int32) : Sv :=
  let S1 : Sv := p_X7_book S li 5 wt 0
  let S2 : Sv := p_X7_book S1 li 6 0 0
  S2

set_option maxHeartbeats 4000000 in
set_option maxRecDepth 100000 in
theorem c_X7_turn (l : Launch) (E : mE) (μ : Mu) (S : Sv) (xl : Int32) (li : Nat) (exl : xl = nI li) (wt : Int32) (hli : li < 12) : CtV l E yX7_turn cX7_turn 3 1 25 [.ref (ea E 13 0), .int xl, .int wt] (fo μ 13 S) (fun μ' => μ' = fo μ 13 (p_X7_turn S li wt)) := by
  subst exl
  refine jMet (by decide +kernel) (Nat.le_of_ble_eq_true rfl) ?_
  intro p e s m below meth c ls F hT hr0 hlk hW hl
  have F : CallFix p m c cX7_turn 3 s _ TB RX7 := F
  have hl : lv_has ls 3 [(0, .ref (ea E 13 0)), (1, .int (nI li)), (2, .int wt)] := hl
  refine lv_aload_n F.1 F.2.1 dX7_turn_0 rfl (lv_at hl 0 rfl) ?_
  refine lv_iload_n F.1 F.2.1 dX7_turn_1 rfl (lv_at hl 1 rfl) ?_
  refine lv_iconst (v := 5) F.1 F.2.1 dX7_turn_2 (by decide) ?_
  refine lv_iload_n F.1 F.2.1 dX7_turn_3 rfl (lv_at hl 2 rfl) ?_
  refine lv_iconst (v := 0) F.1 F.2.1 dX7_turn_4 (by decide) ?_
  refine jcvf (jrunV (As := [.int (nI li), .int 5, .int wt, .int 0]) (rest := []) F hT hW yc_X7_book yv_X7_book ml_X7_65 oM0 (by decide) rfl (c_X7_book l E μ S (nI li) li rfl 5 5 (lI 5) wt 0 (by first | assumption | omega) (by first | assumption | omega)) rfl hl.1 ⟨Nat.le_of_ble_eq_true rfl, Nat.le_of_ble_eq_true rfl⟩ rfl (Nat.le_of_ble_eq_true rfl) ⟨Nat.le_refl _, Nat.le_refl _⟩ dX7_turn_5) hW (fun S1 H locs eS1 hW => ?_)
  refine lv_aload_n F.1 F.2.1 dX7_turn_8 rfl (lv_at hl 0 rfl) ?_
  refine lv_iload_n F.1 F.2.1 dX7_turn_9 rfl (lv_at hl 1 rfl) ?_
  refine lv_bipush (v := 6) F.1 F.2.1 dX7_turn_10 (by decide) ?_
  refine lv_iconst (v := 0) F.1 F.2.1 dX7_turn_12 (by decide) ?_
  refine lv_iconst (v := 0) F.1 F.2.1 dX7_turn_13 (by decide) ?_
  refine jcvf (jrunV (As := [.int (nI li), .int 6, .int 0, .int 0]) (rest := []) F hT hW yc_X7_book yv_X7_book ml_X7_65 oM0 (by decide) rfl (c_X7_book l E μ S1 (nI li) li rfl 6 6 (lI 6) 0 0 (by first | assumption | omega) (by first | assumption | omega)) rfl hl.1 ⟨Nat.le_of_ble_eq_true rfl, Nat.le_of_ble_eq_true rfl⟩ rfl (Nat.le_of_ble_eq_true rfl) ⟨Nat.le_refl _, Nat.le_refl _⟩ dX7_turn_14) hW (fun S2 H locs eS2 hW => ?_)
  have hq : S2 = p_X7_turn S li wt := by
    subst eS2
    subst eS1
    exact (rfl).symm
  exact jrv F hr0 hlk hW dX7_turn_17 (congrArg (fun z => fo μ 13 z) hq)

def p_X7_edge (S : Sv) (li : Nat) : Int32 × Sv :=
  let S1 : Sv := p_X7_book S li 8 1 1
  let x2 : Int32 := p_X7_waits S1 li
  if x2 = 0 then
    let x5 : Int32 := p_X7_of S1 li 4
    if x5 = 1 then
      if (S1 1 5) = 0 then
        let S10 : Sv := p_X7_book S1 li 9 1 1
        ((0 : Int32), S10)
      else
        let S9 : Sv := p_X7_turn S1 li 1
        ((1 : Int32), S9)
    else
      let S7 : Sv := p_X7_turn S1 li 1
      ((1 : Int32), S7)
  else
    let S4 : Sv := p_X7_book S1 li 9 1 1
    ((0 : Int32), S4)

set_option maxHeartbeats 4000000 in
set_option maxRecDepth 100000 in
theorem c_X7_edge (l : Launch) (E : mE) (μ : Mu) (S : Sv) (xl : Int32) (li : Nat) (exl : xl = nI li) (hli : li < 12) : CtI l E yX7_edge cX7_edge 2 (some .boolean) 2 47 [.ref (ea E 13 0), .int xl] (fo μ 13 S) (fun x μ' => x = (p_X7_edge S li).1 ∧ μ' = fo μ 13 (p_X7_edge S li).2) := by
  subst exl
  refine jMet (by decide +kernel) (Nat.le_of_ble_eq_true rfl) ?_
  intro p e s m below meth c ls F hT hr0 hlk hW hl
  have F : CallFix p m c cX7_edge 2 s _ TB RX7 := F
  have hl : lv_has ls 2 [(0, .ref (ea E 13 0)), (1, .int (nI li))] := hl
  refine lv_aload_n F.1 F.2.1 dX7_edge_0 rfl (lv_at hl 0 rfl) ?_
  refine lv_iload_n F.1 F.2.1 dX7_edge_1 rfl (lv_at hl 1 rfl) ?_
  refine lv_bipush (v := 8) F.1 F.2.1 dX7_edge_2 (by decide) ?_
  refine lv_iconst (v := 1) F.1 F.2.1 dX7_edge_4 (by decide) ?_
  refine lv_iconst (v := 1) F.1 F.2.1 dX7_edge_5 (by decide) ?_
  refine jcvf (jrunV (As := [.int (nI li), .int 8, .int 1, .int 1]) (rest := []) F hT hW yc_X7_book yv_X7_book ml_X7_65 oM0 (by decide) rfl (c_X7_book l E μ S (nI li) li rfl 8 8 (lI 8) 1 1 (by first | assumption | omega) (by first | assumption | omega)) rfl hl.1 ⟨Nat.le_of_ble_eq_true rfl, Nat.le_of_ble_eq_true rfl⟩ rfl (Nat.le_of_ble_eq_true rfl) ⟨Nat.le_refl _, Nat.le_refl _⟩ dX7_edge_6) hW (fun S1 H locs eS1 hW => ?_)
  refine lv_aload_n F.1 F.2.1 dX7_edge_9 rfl (lv_at hl 0 rfl) ?_
  refine lv_iload_n F.1 F.2.1 dX7_edge_10 rfl (lv_at hl 1 rfl) ?_
  refine jcip (jrunV (As := [.int (nI li)]) (rest := []) F hT hW yc_X7_waits yv_X7_waits ml_X7_69 oM0 (by decide) rfl (c_X7_waits l E μ S1 (nI li) li rfl (by first | assumption | omega)) rfl hl.1 ⟨Nat.le_of_ble_eq_true rfl, Nat.le_of_ble_eq_true rfl⟩ rfl (Nat.le_of_ble_eq_true rfl) ⟨Nat.le_refl _, Nat.le_refl _⟩ dX7_edge_11) hW (fun x2 H locs ex2 hW => ?_)
  refine lv_if_ne (tgt := 36) F.1 F.2.1 dX7_edge_14 (by decide) (fun h3 => ?_) (fun h3 => ?_)
  · refine lv_aload_n F.1 F.2.1 dX7_edge_36 rfl (lv_at hl 0 rfl) ?_
    refine lv_iload_n F.1 F.2.1 dX7_edge_37 rfl (lv_at hl 1 rfl) ?_
    refine lv_bipush (v := 9) F.1 F.2.1 dX7_edge_38 (by decide) ?_
    refine lv_iconst (v := 1) F.1 F.2.1 dX7_edge_40 (by decide) ?_
    refine lv_iconst (v := 1) F.1 F.2.1 dX7_edge_41 (by decide) ?_
    refine jcvf (jrunV (As := [.int (nI li), .int 9, .int 1, .int 1]) (rest := []) F hT hW yc_X7_book yv_X7_book ml_X7_65 oM0 (by decide) rfl (c_X7_book l E μ S1 (nI li) li rfl 9 9 (lI 9) 1 1 (by first | assumption | omega) (by first | assumption | omega)) rfl hl.1 ⟨Nat.le_of_ble_eq_true rfl, Nat.le_of_ble_eq_true rfl⟩ rfl (Nat.le_of_ble_eq_true rfl) ⟨Nat.le_refl _, Nat.le_refl _⟩ dX7_edge_42) hW (fun S4 H locs eS4 hW => ?_)
    refine lv_iconst (v := 0) F.1 F.2.1 dX7_edge_45 (by decide) ?_
    have hq : ((0 : Int32), S4) = p_X7_edge S li := by
      subst eS4
      subst ex2
      subst eS1
      exact (if_neg h3).symm
    exact jri F hr0 hlk hW (znar (Or.inl rfl)) dX7_edge_46 ⟨congrArg Prod.fst hq, congrArg (fun z => fo μ 13 z.2) hq⟩
  · refine lv_aload_n F.1 F.2.1 dX7_edge_17 rfl (lv_at hl 0 rfl) ?_
    refine lv_iload_n F.1 F.2.1 dX7_edge_18 rfl (lv_at hl 1 rfl) ?_
    refine lv_iconst (v := 4) F.1 F.2.1 dX7_edge_19 (by decide) ?_
    refine jcip (jrunV (As := [.int (nI li), .int 4]) (rest := []) F hT hW yc_X7_of yv_X7_of ml_X7_61 oM0 (by decide) rfl (c_X7_of l E μ S1 (nI li) li rfl 4 4 (lI 4) (by first | assumption | omega) (by first | assumption | omega)) rfl hl.1 ⟨Nat.le_of_ble_eq_true rfl, Nat.le_of_ble_eq_true rfl⟩ rfl (Nat.le_of_ble_eq_true rfl) ⟨Nat.le_refl _, Nat.le_refl _⟩ dX7_edge_20) hW (fun x5 H locs ex5 hW => ?_)
    refine lv_iconst (v := 1) F.1 F.2.1 dX7_edge_23 (by decide) ?_
    refine lv_icmp_ne (tgt := 47) F.1 F.2.1 dX7_edge_24 (by decide) (fun h6 => ?_) (fun h6 => ?_)
    · refine lv_aload_n F.1 F.2.1 dX7_edge_47 rfl (lv_at hl 0 rfl) ?_
      refine lv_iload_n F.1 F.2.1 dX7_edge_48 rfl (lv_at hl 1 rfl) ?_
      refine lv_iconst (v := 1) F.1 F.2.1 dX7_edge_49 (by decide) ?_
      refine jcvf (jrunV (As := [.int (nI li), .int 1]) (rest := []) F hT hW yc_X7_turn yv_X7_turn ml_X7_72 oM0 (by decide) rfl (c_X7_turn l E μ S1 (nI li) li rfl 1 (by first | assumption | omega)) rfl hl.1 ⟨Nat.le_of_ble_eq_true rfl, Nat.le_of_ble_eq_true rfl⟩ rfl (Nat.le_of_ble_eq_true rfl) ⟨Nat.le_refl _, Nat.le_refl _⟩ dX7_edge_50) hW (fun S7 H locs eS7 hW => ?_)
      refine lv_iconst (v := 1) F.1 F.2.1 dX7_edge_53 (by decide) ?_
      have hq : ((1 : Int32), S7) = p_X7_edge S li := by
        subst eS7
        subst ex5
        subst ex2
        subst eS1
        exact ((if_pos h3).trans (if_neg h6)).symm
      exact jri F hr0 hlk hW (znar (Or.inr rfl)) dX7_edge_54 ⟨congrArg Prod.fst hq, congrArg (fun z => fo μ 13 z.2) hq⟩
    · refine lv_aload_n F.1 F.2.1 dX7_edge_27 rfl (lv_at hl 0 rfl) ?_
      refine jgetR F hT hW fw_X7_7 oM0 (by decide) rfl dX7_edge_28 ?_
      refine lv_iconst (v := 5) F.1 F.2.1 dX7_edge_31 (by decide) ?_
      refine jiald F hT hW 5 oM1 (by omega) (by decide) (lI 5) rfl dX7_edge_32 ?_
      refine lv_if_ne (tgt := 47) F.1 F.2.1 dX7_edge_33 (by decide) (fun h8 => ?_) (fun h8 => ?_)
      · refine lv_aload_n F.1 F.2.1 dX7_edge_47 rfl (lv_at hl 0 rfl) ?_
        refine lv_iload_n F.1 F.2.1 dX7_edge_48 rfl (lv_at hl 1 rfl) ?_
        refine lv_iconst (v := 1) F.1 F.2.1 dX7_edge_49 (by decide) ?_
        refine jcvf (jrunV (As := [.int (nI li), .int 1]) (rest := []) F hT hW yc_X7_turn yv_X7_turn ml_X7_72 oM0 (by decide) rfl (c_X7_turn l E μ S1 (nI li) li rfl 1 (by first | assumption | omega)) rfl hl.1 ⟨Nat.le_of_ble_eq_true rfl, Nat.le_of_ble_eq_true rfl⟩ rfl (Nat.le_of_ble_eq_true rfl) ⟨Nat.le_refl _, Nat.le_refl _⟩ dX7_edge_50) hW (fun S9 H locs eS9 hW => ?_)
        refine lv_iconst (v := 1) F.1 F.2.1 dX7_edge_53 (by decide) ?_
        have hq : ((1 : Int32), S9) = p_X7_edge S li := by
          subst eS9
          subst ex5
          subst ex2
          subst eS1
          exact ((if_pos h3).trans ((if_pos h6).trans (if_neg h8))).symm
        exact jri F hr0 hlk hW (znar (Or.inr rfl)) dX7_edge_54 ⟨congrArg Prod.fst hq, congrArg (fun z => fo μ 13 z.2) hq⟩
      · refine lv_aload_n F.1 F.2.1 dX7_edge_36 rfl (lv_at hl 0 rfl) ?_
        refine lv_iload_n F.1 F.2.1 dX7_edge_37 rfl (lv_at hl 1 rfl) ?_
        refine lv_bipush (v := 9) F.1 F.2.1 dX7_edge_38 (by decide) ?_
        refine lv_iconst (v := 1) F.1 F.2.1 dX7_edge_40 (by decide) ?_
        refine lv_iconst (v := 1) F.1 F.2.1 dX7_edge_41 (by decide) ?_
        refine jcvf (jrunV (As := [.int (nI li), .int 9, .int 1, .int 1]) (rest := []) F hT hW yc_X7_book yv_X7_book ml_X7_65 oM0 (by decide) rfl (c_X7_book l E μ S1 (nI li) li rfl 9 9 (lI 9) 1 1 (by first | assumption | omega) (by first | assumption | omega)) rfl hl.1 ⟨Nat.le_of_ble_eq_true rfl, Nat.le_of_ble_eq_true rfl⟩ rfl (Nat.le_of_ble_eq_true rfl) ⟨Nat.le_refl _, Nat.le_refl _⟩ dX7_edge_42) hW (fun S10 H locs eS10 hW => ?_)
        refine lv_iconst (v := 0) F.1 F.2.1 dX7_edge_45 (by decide) ?_
        have hq : ((0 : Int32), S10) = p_X7_edge S li := by
          subst eS10
          subst ex5
          subst ex2
          subst eS1
          exact ((if_pos h3).trans ((if_pos h6).trans (if_pos h8))).symm
        exact jri F hr0 hlk hW (znar (Or.inl rfl)) dX7_edge_46 ⟨congrArg Prod.fst hq, congrArg (fun z => fo μ 13 z.2) hq⟩

def q_X7_placeOf_5 (S : Sv) (ln : Int32) (j : Nat) (σ : Int32) : Int32 :=
  let v1 : Int32 := σ
  let v4 : Int32 := (if (S 1 (220 + 4 * j)) = ln then nI j else v1)
  v4
def p_X7_placeOf (S : Sv) (ln : Int32) : Int32 :=
  let v1 : Int32 := (itN (q_X7_placeOf_5 S ln) (cn (S 1 10)) ((-6)))
  (v1 : Int32)

set_option maxHeartbeats 4000000 in
set_option maxRecDepth 100000 in
theorem c_X7_placeOf (l : Launch) (E : mE) (μ : Mu) (S : Sv) (ln : Int32) (hd : Bn (S 1 10) 8) : CtI l E yX7_placeOf cX7_placeOf 4 (some .int) 0 0 [.ref (ea E 13 0), .int ln] (fo μ 13 S) (fun x μ' => x = p_X7_placeOf S ln ∧ μ' = (fo μ 13 S)) := by
  refine jMet (by decide +kernel) (Nat.le_of_ble_eq_true rfl) ?_
  intro p e s m below meth c ls F hT hr0 hlk hW hl
  have F : CallFix p m c cX7_placeOf 4 s _ TB RX7 := F
  have hl : lv_has ls 4 [(0, .ref (ea E 13 0)), (1, .int ln)] := hl
  have hd2 := hd.2
  refine lv_bipush (v := (-6)) F.1 F.2.1 dX7_placeOf_0 (by decide) ?_
  refine lv_istore_n (lv' := [(2, .int (-6)), (0, .ref (ea E 13 0)), (1, .int ln)]) F.1 F.2.1 dX7_placeOf_2 rfl hl (by decide) rfl (fun ls hl => ?_)
  refine lv_iconst (v := 0) F.1 F.2.1 dX7_placeOf_3 (by decide) ?_
  refine lv_istore_n (lv' := [(3, .int 0), (2, .int (-6)), (0, .ref (ea E 13 0)), (1, .int ln)]) F.1 F.2.1 dX7_placeOf_4 rfl hl (by decide) rfl (fun ls hl => ?_)
  have hL2 : ∀ (fu j : Nat) (v1 : Int32) (H : Heap) (locs : List Loc) (ls : Array Slot), j + fu = cn (S 1 10) → (v1) = itN (q_X7_placeOf_5 S ln) j ((-6)) → Wd E s H locs (fo μ 13 S) → lv_has ls 4 [(3, .int (nI j)), (2, .int v1), (0, .ref (ea E 13 0)), (1, .int ln)] → W p l e (rmO 0 0) s m ([.ref (ea E 13 0), .int ln] : List Value).toArray below meth c H locs 0 0 (MQ below (va_Qi (fun x μ' => x = p_X7_placeOf S ln ∧ μ' = (fo μ 13 S)) (fun μ' t => MB E μ' t.heap) (AA E)) ([.ref (ea E 13 0), .int ln] : List Value).toArray s 0 0 (AA E)) (F0 m 5 ls []) := by
    intro fu
    induction fu with
    | zero =>
      intro j v1 H locs ls hj hs  hW hl
      obtain rfl : j = cn (S 1 10) := by omega
      have ev1 := hs
      refine lv_iload_n F.1 F.2.1 dX7_placeOf_5 rfl (lv_at hl 0 rfl) ?_
      refine lv_aload_n F.1 F.2.1 dX7_placeOf_6 rfl (lv_at hl 2 rfl) ?_
      refine jgetR F hT hW fw_X7_7 oM0 (by decide) rfl dX7_placeOf_7 ?_
      refine lv_bipush (v := 10) F.1 F.2.1 dX7_placeOf_10 (by decide) ?_
      refine jiald F hT hW 10 oM1 (by omega) (by decide) (lI 10) rfl dX7_placeOf_12 ?_
      refine lv_icmp_ge (tgt := 44) F.1 F.2.1 dX7_placeOf_13 (by decide) (fun h3 => ?_) (fun h3 => ?_)
      · refine lv_iload_n F.1 F.2.1 dX7_placeOf_44 rfl (lv_at hl 1 rfl) ?_
        have hq : (v1 : Int32) = p_X7_placeOf S ln := by
          subst ev1
          exact (rfl).symm
        exact jri F hr0 hlk hW rfl dX7_placeOf_45 ⟨hq, rfl⟩
      · exact absurd (c_le hd.1 rfl (by omega) (by omega)) h3
    | succ fu ih =>
      intro j v1 H locs ls hj hs  hW hl
      refine lv_iload_n F.1 F.2.1 dX7_placeOf_5 rfl (lv_at hl 0 rfl) ?_
      refine lv_aload_n F.1 F.2.1 dX7_placeOf_6 rfl (lv_at hl 2 rfl) ?_
      refine jgetR F hT hW fw_X7_7 oM0 (by decide) rfl dX7_placeOf_7 ?_
      refine lv_bipush (v := 10) F.1 F.2.1 dX7_placeOf_10 (by decide) ?_
      refine jiald F hT hW 10 oM1 (by omega) (by decide) (lI 10) rfl dX7_placeOf_12 ?_
      refine lv_icmp_ge (tgt := 44) F.1 F.2.1 dX7_placeOf_13 (by decide) (fun h2 => ?_) (fun h2 => ?_)
      · exact absurd h2 (c_nle hd.1 rfl (by omega) (by omega))
      · refine lv_aload_n F.1 F.2.1 dX7_placeOf_16 rfl (lv_at hl 2 rfl) ?_
        refine jgetR F hT hW fw_X7_7 oM0 (by decide) rfl dX7_placeOf_17 ?_
        refine lv_sipush (v := 220) F.1 F.2.1 dX7_placeOf_20 (by decide) ?_
        refine lv_iconst (v := 4) F.1 F.2.1 dX7_placeOf_23 (by decide) ?_
        refine lv_iload_n F.1 F.2.1 dX7_placeOf_24 rfl (lv_at hl 0 rfl) ?_
        refine lv_imul F.1 F.2.1 dX7_placeOf_25 ?_
        refine lv_iadd F.1 F.2.1 dX7_placeOf_26 ?_
        refine jiald F hT hW (220 + 4 * j) oM1 (by omega) (by decide) (ia (lI 220) (im (lI 4) rfl)) rfl dX7_placeOf_27 ?_
        refine lv_iload_n F.1 F.2.1 dX7_placeOf_28 rfl (lv_at hl 3 rfl) ?_
        have hJ5 : ∀ (v4 : Int32) (H : Heap) (locs : List Loc) (ls : Array Slot), v4 = (if (S 1 (220 + 4 * j)) = ln then nI j else v1) → Wd E s H locs (fo μ 13 S) → lv_has ls 4 [(3, .int (nI j)), (2, .int v1), (0, .ref (ea E 13 0)), (1, .int ln)] → W p l e (rmO 0 0) s m ([.ref (ea E 13 0), .int ln] : List Value).toArray below meth c H locs 0 0 (MQ below (va_Qi (fun x μ' => x = p_X7_placeOf S ln ∧ μ' = (fo μ 13 S)) (fun μ' t => MB E μ' t.heap) (AA E)) ([.ref (ea E 13 0), .int ln] : List Value).toArray s 0 0 (AA E)) (F0 m 37 ls [.int v4]) := by
          intro v4 H locs ls ev4 hW hl
          refine lv_istore_n (lv' := [(2, .int v4), (3, .int (nI j)), (0, .ref (ea E 13 0)), (1, .int ln)]) F.1 F.2.1 dX7_placeOf_37 rfl hl (by decide) rfl (fun ls hl => ?_)
          refine lv_iinc (v := nI (j + 1)) (lv' := [(3, .int (nI (j + 1))), (2, .int v4), (0, .ref (ea E 13 0)), (1, .int ln)]) F.1 F.2.1 dX7_placeOf_38 hl (k := 1) rfl (ia rfl rfl) (by decide) rfl (fun ls hl => ?_)
          refine lv_goto (tgt := 5) F.1 F.2.1 dX7_placeOf_41 (by decide) ?_
          subst ev4
          exact ih (j + 1) _ _ _ _ (by omega) (by rw [itN_s, ← hs]; exact (rfl).symm) hW (lv_sub hl [0, 1, 2, 3] rfl)
        refine lv_icmp_ne (tgt := 36) F.1 F.2.1 dX7_placeOf_29 (by decide) (fun h3 => ?_) (fun h3 => ?_)
        · refine lv_iload_n F.1 F.2.1 dX7_placeOf_36 rfl (lv_at hl 1 rfl) ?_
          exact hJ5 _ _ _ _ (if_neg h3).symm hW (lv_sub hl [0, 1, 2, 3] rfl)
        · refine lv_iload_n F.1 F.2.1 dX7_placeOf_32 rfl (lv_at hl 0 rfl) ?_
          refine lv_goto (tgt := 37) F.1 F.2.1 dX7_placeOf_33 (by decide) ?_
          exact hJ5 _ _ _ _ (if_pos h3).symm hW (lv_sub hl [0, 1, 2, 3] rfl)
  exact hL2 (cn (S 1 10)) 0 (-6) _ _ _ (by omega) rfl hW (lv_sub hl [0, 1, 2, 3] rfl)

def p_X7_look (S : Sv) (li : Nat) : Sv :=
  let x1 : Int32 := p_X7_of S li 7
  let v5 : Int32 := (if x1 = 0 then 0 else (let x3 : Int32 := p_X7_placeOf S (nI li); (if 0 ≤ x3 then 0 else 1)))
  let x7 : Int32 := p_X7_waits S li
  let S13 : Sv := (if v5 = x7 then S else (let v10 : Int32 := (if v5 = 0 then 0 else 1); (let S12 : Sv := p_X7_turn S li v10; S12)))
  S13

set_option maxHeartbeats 4000000 in
set_option maxRecDepth 100000 in
theorem c_X7_look (l : Launch) (E : mE) (μ : Mu) (S : Sv) (xl : Int32) (li : Nat) (exl : xl = nI li) (hli : li < 12) (hd : Bn (S 1 10) 8) : CtV l E yX7_look cX7_look 3 2 47 [.ref (ea E 13 0), .int xl] (fo μ 13 S) (fun μ' => μ' = fo μ 13 (p_X7_look S li)) := by
  subst exl
  refine jMet (by decide +kernel) (Nat.le_of_ble_eq_true rfl) ?_
  intro p e s m below meth c ls F hT hr0 hlk hW hl
  have F : CallFix p m c cX7_look 3 s _ TB RX7 := F
  have hl : lv_has ls 3 [(0, .ref (ea E 13 0)), (1, .int (nI li))] := hl
  refine lv_aload_n F.1 F.2.1 dX7_look_0 rfl (lv_at hl 0 rfl) ?_
  refine lv_iload_n F.1 F.2.1 dX7_look_1 rfl (lv_at hl 1 rfl) ?_
  refine lv_bipush (v := 7) F.1 F.2.1 dX7_look_2 (by decide) ?_
  refine jcip (jrunV (As := [.int (nI li), .int 7]) (rest := []) F hT hW yc_X7_of yv_X7_of ml_X7_61 oM0 (by decide) rfl (c_X7_of l E μ S (nI li) li rfl 7 7 (lI 7) (by first | assumption | omega) (by first | assumption | omega)) rfl hl.1 ⟨Nat.le_of_ble_eq_true rfl, Nat.le_of_ble_eq_true rfl⟩ rfl (Nat.le_of_ble_eq_true rfl) ⟨Nat.le_refl _, Nat.le_refl _⟩ dX7_look_4) hW (fun x1 H locs ex1 hW => ?_)
  have hJ6 : ∀ (v5 : Int32) (H : Heap) (locs : List Loc) (ls : Array Slot), v5 = (if x1 = 0 then 0 else (let x3 : Int32 := p_X7_placeOf S (nI li); (if 0 ≤ x3 then 0 else 1))) → Wd E s H locs (fo μ 13 S) → lv_has ls 3 [(0, .ref (ea E 13 0)), (1, .int (nI li))] → W p l e (rmO 2 47) s m ([.ref (ea E 13 0), .int (nI li)] : List Value).toArray below meth c H locs 0 0 (MQ below (va_Qv (fun μ' => μ' = fo μ 13 (p_X7_look S li)) (fun μ' t => MB E μ' t.heap) (AA E)) ([.ref (ea E 13 0), .int (nI li)] : List Value).toArray s 0 0 (AA E)) (F0 m 23 ls [.int v5]) := by
    intro v5 H locs ls ev5 hW hl
    refine lv_istore_n (lv' := [(2, .int v5), (0, .ref (ea E 13 0)), (1, .int (nI li))]) F.1 F.2.1 dX7_look_23 rfl hl (by decide) rfl (fun ls hl => ?_)
    refine lv_iload_n F.1 F.2.1 dX7_look_24 rfl (lv_at hl 0 rfl) ?_
    refine lv_aload_n F.1 F.2.1 dX7_look_25 rfl (lv_at hl 1 rfl) ?_
    refine lv_iload_n F.1 F.2.1 dX7_look_26 rfl (lv_at hl 2 rfl) ?_
    refine jcip (jrunV (As := [.int (nI li)]) (rest := [.int v5]) F hT hW yc_X7_waits yv_X7_waits ml_X7_69 oM0 (by decide) rfl (c_X7_waits l E μ S (nI li) li rfl (by first | assumption | omega)) rfl hl.1 ⟨Nat.le_of_ble_eq_true rfl, Nat.le_of_ble_eq_true rfl⟩ rfl (Nat.le_of_ble_eq_true rfl) ⟨Nat.le_refl _, Nat.le_refl _⟩ dX7_look_27) hW (fun x7 H locs ex7 hW => ?_)
    have hJ14 : ∀ (S13 : Sv) (H : Heap) (locs : List Loc) (ls : Array Slot), S13 = (if v5 = x7 then S else (let v10 : Int32 := (if v5 = 0 then 0 else 1); (let S12 : Sv := p_X7_turn S li v10; S12))) → Wd E s H locs (fo μ 13 S13) → lv_has ls 3 [(2, .int v5), (0, .ref (ea E 13 0)), (1, .int (nI li))] → W p l e (rmO 2 47) s m ([.ref (ea E 13 0), .int (nI li)] : List Value).toArray below meth c H locs 0 0 (MQ below (va_Qv (fun μ' => μ' = fo μ 13 (p_X7_look S li)) (fun μ' t => MB E μ' t.heap) (AA E)) ([.ref (ea E 13 0), .int (nI li)] : List Value).toArray s 0 0 (AA E)) (F0 m 47 ls []) := by
      intro S13 H locs ls eS13 hW hl
      have hq : S13 = p_X7_look S li := by
        subst eS13
        subst ex7
        subst ev5
        subst ex1
        exact (rfl).symm
      exact jrv F hr0 hlk hW dX7_look_47 (congrArg (fun z => fo μ 13 z) hq)
    refine lv_icmp_eq (tgt := 47) F.1 F.2.1 dX7_look_30 (by decide) (fun h8 => ?_) (fun h8 => ?_)
    · exact hJ14 _ _ _ _ (if_pos h8).symm hW (lv_sub hl [0, 1, 2] rfl)
    · refine lv_aload_n F.1 F.2.1 dX7_look_33 rfl (lv_at hl 1 rfl) ?_
      refine lv_iload_n F.1 F.2.1 dX7_look_34 rfl (lv_at hl 2 rfl) ?_
      refine lv_iload_n F.1 F.2.1 dX7_look_35 rfl (lv_at hl 0 rfl) ?_
      have hJ11 : ∀ (v10 : Int32) (H : Heap) (locs : List Loc) (ls : Array Slot), v10 = (if v5 = 0 then 0 else 1) → Wd E s H locs (fo μ 13 S) → lv_has ls 3 [(2, .int v5), (0, .ref (ea E 13 0)), (1, .int (nI li))] → W p l e (rmO 2 47) s m ([.ref (ea E 13 0), .int (nI li)] : List Value).toArray below meth c H locs 0 0 (MQ below (va_Qv (fun μ' => μ' = fo μ 13 (p_X7_look S li)) (fun μ' t => MB E μ' t.heap) (AA E)) ([.ref (ea E 13 0), .int (nI li)] : List Value).toArray s 0 0 (AA E)) (F0 m 44 ls [.int v10, .int (nI li), .ref (ea E 13 0)]) := by
        intro v10 H locs ls ev10 hW hl
        refine jcvf (jrunV (As := [.int (nI li), .int v10]) (rest := []) F hT hW yc_X7_turn yv_X7_turn ml_X7_72 oM0 (by decide) rfl (c_X7_turn l E μ S (nI li) li rfl v10 (by first | assumption | omega)) rfl hl.1 ⟨Nat.le_of_ble_eq_true rfl, Nat.le_of_ble_eq_true rfl⟩ rfl (Nat.le_of_ble_eq_true rfl) ⟨Nat.le_refl _, Nat.le_refl _⟩ dX7_look_44) hW (fun S12 H locs eS12 hW => ?_)
        subst eS12
        subst ev10
        exact hJ14 _ _ _ _ (if_neg h8).symm hW (lv_sub hl [0, 1, 2] rfl)
      refine lv_if_eq (tgt := 43) F.1 F.2.1 dX7_look_36 (by decide) (fun h9 => ?_) (fun h9 => ?_)
      · refine lv_iconst (v := 0) F.1 F.2.1 dX7_look_43 (by decide) ?_
        exact hJ11 _ _ _ _ (if_pos h9).symm hW (lv_sub hl [0, 1, 2] rfl)
      · refine lv_iconst (v := 1) F.1 F.2.1 dX7_look_39 (by decide) ?_
        refine lv_goto (tgt := 44) F.1 F.2.1 dX7_look_40 (by decide) ?_
        exact hJ11 _ _ _ _ (if_neg h9).symm hW (lv_sub hl [0, 1, 2] rfl)
  refine lv_if_eq (tgt := 22) F.1 F.2.1 dX7_look_7 (by decide) (fun h2 => ?_) (fun h2 => ?_)
  · refine lv_iconst (v := 0) F.1 F.2.1 dX7_look_22 (by decide) ?_
    exact hJ6 _ _ _ _ (if_pos h2).symm hW (lv_sub hl [0, 1] rfl)
  · refine lv_aload_n F.1 F.2.1 dX7_look_10 rfl (lv_at hl 0 rfl) ?_
    refine lv_iload_n F.1 F.2.1 dX7_look_11 rfl (lv_at hl 1 rfl) ?_
    refine jcip (jrunV (As := [.int (nI li)]) (rest := []) F hT hW yc_X7_placeOf yv_X7_placeOf ml_X7_79 oM0 (by decide) rfl (c_X7_placeOf l E μ S (nI li) (by first | assumption | omega)) rfl hl.1 ⟨Nat.le_of_ble_eq_true rfl, Nat.le_of_ble_eq_true rfl⟩ rfl (Nat.le_of_ble_eq_true rfl) ⟨Nat.le_refl _, Nat.le_refl _⟩ dX7_look_12) hW (fun x3 H locs ex3 hW => ?_)
    refine lv_if_ge (tgt := 22) F.1 F.2.1 dX7_look_15 (by decide) (fun h4 => ?_) (fun h4 => ?_)
    · refine lv_iconst (v := 0) F.1 F.2.1 dX7_look_22 (by decide) ?_
      subst ex3
      exact hJ6 _ _ _ _ ((if_neg h2).trans (if_pos h4)).symm hW (lv_sub hl [0, 1] rfl)
    · refine lv_iconst (v := 1) F.1 F.2.1 dX7_look_18 (by decide) ?_
      refine lv_goto (tgt := 23) F.1 F.2.1 dX7_look_19 (by decide) ?_
      subst ex3
      exact hJ6 _ _ _ _ ((if_neg h2).trans (if_neg h4)).symm hW (lv_sub hl [0, 1] rfl)

def p_X7_present (S : Sv) (li : Nat) : Int32 :=
  let x1 : Int32 := p_X7_of S li 0
  let x2 : Int32 := p_X7_waits S li
  if x2 = 0 then
    (x1 : Int32)
  else
    if (S 1 0) = 0 then
      (x1 : Int32)
    else
      if x1 < (S 1 1) then
        let x6 : Int32 := p_X7_of S li 6
        let v8 : Int32 := (if (x1 + (x6 / (S 1 0))) ≤ (S 1 1) then x1 + (x6 / (S 1 0)) else S 1 1)
        (v8 : Int32)
      else
        (x1 : Int32)

set_option maxHeartbeats 4000000 in
set_option maxRecDepth 100000 in
theorem c_X7_present (l : Launch) (E : mE) (μ : Mu) (S : Sv) (xl : Int32) (li : Nat) (exl : xl = nI li) (hli : li < 12) : CtI l E yX7_present cX7_present 4 (some .int) 2 43 [.ref (ea E 13 0), .int xl] (fo μ 13 S) (fun x μ' => x = p_X7_present S li ∧ μ' = (fo μ 13 S)) := by
  subst exl
  refine jMet (by decide +kernel) (Nat.le_of_ble_eq_true rfl) ?_
  intro p e s m below meth c ls F hT hr0 hlk hW hl
  have F : CallFix p m c cX7_present 4 s _ TB RX7 := F
  have hl : lv_has ls 4 [(0, .ref (ea E 13 0)), (1, .int (nI li))] := hl
  refine lv_aload_n F.1 F.2.1 dX7_present_0 rfl (lv_at hl 0 rfl) ?_
  refine lv_iload_n F.1 F.2.1 dX7_present_1 rfl (lv_at hl 1 rfl) ?_
  refine lv_iconst (v := 0) F.1 F.2.1 dX7_present_2 (by decide) ?_
  refine jcip (jrunV (As := [.int (nI li), .int 0]) (rest := []) F hT hW yc_X7_of yv_X7_of ml_X7_61 oM0 (by decide) rfl (c_X7_of l E μ S (nI li) li rfl 0 0 (lI 0) (by first | assumption | omega) (by first | assumption | omega)) rfl hl.1 ⟨Nat.le_of_ble_eq_true rfl, Nat.le_of_ble_eq_true rfl⟩ rfl (Nat.le_of_ble_eq_true rfl) ⟨Nat.le_refl _, Nat.le_refl _⟩ dX7_present_3) hW (fun x1 H locs ex1 hW => ?_)
  refine lv_istore_n (lv' := [(2, .int x1), (0, .ref (ea E 13 0)), (1, .int (nI li))]) F.1 F.2.1 dX7_present_6 rfl hl (by decide) rfl (fun ls hl => ?_)
  refine lv_aload_n F.1 F.2.1 dX7_present_7 rfl (lv_at hl 1 rfl) ?_
  refine lv_iload_n F.1 F.2.1 dX7_present_8 rfl (lv_at hl 2 rfl) ?_
  refine jcip (jrunV (As := [.int (nI li)]) (rest := []) F hT hW yc_X7_waits yv_X7_waits ml_X7_69 oM0 (by decide) rfl (c_X7_waits l E μ S (nI li) li rfl (by first | assumption | omega)) rfl hl.1 ⟨Nat.le_of_ble_eq_true rfl, Nat.le_of_ble_eq_true rfl⟩ rfl (Nat.le_of_ble_eq_true rfl) ⟨Nat.le_refl _, Nat.le_refl _⟩ dX7_present_9) hW (fun x2 H locs ex2 hW => ?_)
  refine lv_if_eq (tgt := 34) F.1 F.2.1 dX7_present_12 (by decide) (fun h3 => ?_) (fun h3 => ?_)
  · refine lv_iload_n F.1 F.2.1 dX7_present_34 rfl (lv_at hl 0 rfl) ?_
    have hq : (x1 : Int32) = p_X7_present S li := by
      subst ex2
      subst ex1
      exact (if_pos h3).symm
    exact jri F hr0 hlk hW rfl dX7_present_35 ⟨hq, rfl⟩
  · refine lv_aload_n F.1 F.2.1 dX7_present_15 rfl (lv_at hl 1 rfl) ?_
    refine jgetR F hT hW fw_X7_7 oM0 (by decide) rfl dX7_present_16 ?_
    refine lv_iconst (v := 0) F.1 F.2.1 dX7_present_19 (by decide) ?_
    refine jiald F hT hW 0 oM1 (by omega) (by decide) (lI 0) rfl dX7_present_20 ?_
    refine lv_if_eq (tgt := 34) F.1 F.2.1 dX7_present_21 (by decide) (fun h4 => ?_) (fun h4 => ?_)
    · refine lv_iload_n F.1 F.2.1 dX7_present_34 rfl (lv_at hl 0 rfl) ?_
      have hq : (x1 : Int32) = p_X7_present S li := by
        subst ex2
        subst ex1
        exact ((if_neg h3).trans (if_pos h4)).symm
      exact jri F hr0 hlk hW rfl dX7_present_35 ⟨hq, rfl⟩
    · refine lv_iload_n F.1 F.2.1 dX7_present_24 rfl (lv_at hl 0 rfl) ?_
      refine lv_aload_n F.1 F.2.1 dX7_present_25 rfl (lv_at hl 1 rfl) ?_
      refine jgetR F hT hW fw_X7_7 oM0 (by decide) rfl dX7_present_26 ?_
      refine lv_iconst (v := 1) F.1 F.2.1 dX7_present_29 (by decide) ?_
      refine jiald F hT hW 1 oM1 (by omega) (by decide) (lI 1) rfl dX7_present_30 ?_
      refine lv_icmp_lt (tgt := 36) F.1 F.2.1 dX7_present_31 (by decide) (fun h5 => ?_) (fun h5 => ?_)
      · refine lv_iload_n F.1 F.2.1 dX7_present_36 rfl (lv_at hl 0 rfl) ?_
        refine lv_aload_n F.1 F.2.1 dX7_present_37 rfl (lv_at hl 1 rfl) ?_
        refine lv_iload_n F.1 F.2.1 dX7_present_38 rfl (lv_at hl 2 rfl) ?_
        refine lv_bipush (v := 6) F.1 F.2.1 dX7_present_39 (by decide) ?_
        refine jcip (jrunV (As := [.int (nI li), .int 6]) (rest := [.int x1]) F hT hW yc_X7_of yv_X7_of ml_X7_61 oM0 (by decide) rfl (c_X7_of l E μ S (nI li) li rfl 6 6 (lI 6) (by first | assumption | omega) (by first | assumption | omega)) rfl hl.1 ⟨Nat.le_of_ble_eq_true rfl, Nat.le_of_ble_eq_true rfl⟩ rfl (Nat.le_of_ble_eq_true rfl) ⟨Nat.le_refl _, Nat.le_refl _⟩ dX7_present_41) hW (fun x6 H locs ex6 hW => ?_)
        refine lv_aload_n F.1 F.2.1 dX7_present_44 rfl (lv_at hl 1 rfl) ?_
        refine jgetR F hT hW fw_X7_7 oM0 (by decide) rfl dX7_present_45 ?_
        refine lv_iconst (v := 0) F.1 F.2.1 dX7_present_48 (by decide) ?_
        refine jiald F hT hW 0 oM1 (by omega) (by decide) (lI 0) rfl dX7_present_49 ?_
        refine lv_idiv F.1 F.2.1 dX7_present_50 (by first | assumption | exact nz0 (by assumption)) ?_
        refine lv_iadd F.1 F.2.1 dX7_present_51 ?_
        refine lv_istore_n (lv' := [(3, .int (x1 + (x6 / (S 1 0)))), (2, .int x1), (0, .ref (ea E 13 0)), (1, .int (nI li))]) F.1 F.2.1 dX7_present_52 rfl hl (by decide) rfl (fun ls hl => ?_)
        refine lv_iload_n F.1 F.2.1 dX7_present_53 rfl (lv_at hl 0 rfl) ?_
        refine lv_aload_n F.1 F.2.1 dX7_present_54 rfl (lv_at hl 2 rfl) ?_
        refine jgetR F hT hW fw_X7_7 oM0 (by decide) rfl dX7_present_55 ?_
        refine lv_iconst (v := 1) F.1 F.2.1 dX7_present_58 (by decide) ?_
        refine jiald F hT hW 1 oM1 (by omega) (by decide) (lI 1) rfl dX7_present_59 ?_
        have hJ9 : ∀ (v8 : Int32) (H : Heap) (locs : List Loc) (ls : Array Slot), v8 = (if (x1 + (x6 / (S 1 0))) ≤ (S 1 1) then x1 + (x6 / (S 1 0)) else S 1 1) → Wd E s H locs (fo μ 13 S) → lv_has ls 4 [(3, .int (x1 + (x6 / (S 1 0)))), (2, .int x1), (0, .ref (ea E 13 0)), (1, .int (nI li))] → W p l e (rmO 2 43) s m ([.ref (ea E 13 0), .int (nI li)] : List Value).toArray below meth c H locs 0 0 (MQ below (va_Qi (fun x μ' => x = p_X7_present S li ∧ μ' = (fo μ 13 S)) (fun μ' t => MB E μ' t.heap) (AA E)) ([.ref (ea E 13 0), .int (nI li)] : List Value).toArray s 0 0 (AA E)) (F0 m 73 ls [.int v8]) := by
          intro v8 H locs ls ev8 hW hl
          have hq : (v8 : Int32) = p_X7_present S li := by
            subst ev8
            subst ex6
            subst ex2
            subst ex1
            exact ((if_neg h3).trans ((if_neg h4).trans (if_pos h5))).symm
          exact jri F hr0 hlk hW rfl dX7_present_73 ⟨hq, rfl⟩
        refine lv_icmp_le (tgt := 72) F.1 F.2.1 dX7_present_60 (by decide) (fun h7 => ?_) (fun h7 => ?_)
        · refine lv_iload_n F.1 F.2.1 dX7_present_72 rfl (lv_at hl 0 rfl) ?_
          exact hJ9 _ _ _ _ (if_pos h7).symm hW (lv_sub hl [0, 1, 2, 3] rfl)
        · refine lv_aload_n F.1 F.2.1 dX7_present_63 rfl (lv_at hl 2 rfl) ?_
          refine jgetR F hT hW fw_X7_7 oM0 (by decide) rfl dX7_present_64 ?_
          refine lv_iconst (v := 1) F.1 F.2.1 dX7_present_67 (by decide) ?_
          refine jiald F hT hW 1 oM1 (by omega) (by decide) (lI 1) rfl dX7_present_68 ?_
          refine lv_goto (tgt := 73) F.1 F.2.1 dX7_present_69 (by decide) ?_
          exact hJ9 _ _ _ _ (if_neg h7).symm hW (lv_sub hl [0, 1, 2, 3] rfl)
      · refine lv_iload_n F.1 F.2.1 dX7_present_34 rfl (lv_at hl 0 rfl) ?_
        have hq : (x1 : Int32) = p_X7_present S li := by
          subst ex2
          subst ex1
          exact ((if_neg h3).trans ((if_neg h4).trans (if_neg h5))).symm
        exact jri F hr0 hlk hW rfl dX7_present_35 ⟨hq, rfl⟩

def q_X7_misses_4 (S : Sv) (j : Nat) (σ : Int32) : Int32 :=
  let v1 : Int32 := σ
  let x3 : Int32 := p_X7_of S j 14
  v1 + x3
def p_X7_misses (S : Sv) : Int32 :=
  let v1 : Int32 := (itN (q_X7_misses_4 S) (cn (S 1 8)) (0))
  (v1 : Int32)

set_option maxHeartbeats 4000000 in
set_option maxRecDepth 100000 in
theorem c_X7_misses (l : Launch) (E : mE) (μ : Mu) (S : Sv) (hn : Bn (S 1 8) 12) : CtI l E yX7_misses cX7_misses 3 (some .int) 1 22 [.ref (ea E 13 0)] (fo μ 13 S) (fun x μ' => x = p_X7_misses S ∧ μ' = (fo μ 13 S)) := by
  refine jMet (by decide +kernel) (Nat.le_of_ble_eq_true rfl) ?_
  intro p e s m below meth c ls F hT hr0 hlk hW hl
  have F : CallFix p m c cX7_misses 3 s _ TB RX7 := F
  have hl : lv_has ls 3 [(0, .ref (ea E 13 0))] := hl
  have hn2 := hn.2
  refine lv_iconst (v := 0) F.1 F.2.1 dX7_misses_0 (by decide) ?_
  refine lv_istore_n (lv' := [(1, .int 0), (0, .ref (ea E 13 0))]) F.1 F.2.1 dX7_misses_1 rfl hl (by decide) rfl (fun ls hl => ?_)
  refine lv_iconst (v := 0) F.1 F.2.1 dX7_misses_2 (by decide) ?_
  refine lv_istore_n (lv' := [(2, .int 0), (1, .int 0), (0, .ref (ea E 13 0))]) F.1 F.2.1 dX7_misses_3 rfl hl (by decide) rfl (fun ls hl => ?_)
  have hL2 : ∀ (fu j : Nat) (v1 : Int32) (H : Heap) (locs : List Loc) (ls : Array Slot), j + fu = cn (S 1 8) → (v1) = itN (q_X7_misses_4 S) j (0) → Wd E s H locs (fo μ 13 S) → lv_has ls 3 [(2, .int (nI j)), (1, .int v1), (0, .ref (ea E 13 0))] → W p l e (rmO 1 22) s m ([.ref (ea E 13 0)] : List Value).toArray below meth c H locs 0 0 (MQ below (va_Qi (fun x μ' => x = p_X7_misses S ∧ μ' = (fo μ 13 S)) (fun μ' t => MB E μ' t.heap) (AA E)) ([.ref (ea E 13 0)] : List Value).toArray s 0 0 (AA E)) (F0 m 4 ls []) := by
    intro fu
    induction fu with
    | zero =>
      intro j v1 H locs ls hj hs  hW hl
      obtain rfl : j = cn (S 1 8) := by omega
      have ev1 := hs
      refine lv_iload_n F.1 F.2.1 dX7_misses_4 rfl (lv_at hl 0 rfl) ?_
      refine lv_aload_n F.1 F.2.1 dX7_misses_5 rfl (lv_at hl 2 rfl) ?_
      refine jgetR F hT hW fw_X7_7 oM0 (by decide) rfl dX7_misses_6 ?_
      refine lv_bipush (v := 8) F.1 F.2.1 dX7_misses_9 (by decide) ?_
      refine jiald F hT hW 8 oM1 (by omega) (by decide) (lI 8) rfl dX7_misses_11 ?_
      refine lv_icmp_ge (tgt := 31) F.1 F.2.1 dX7_misses_12 (by decide) (fun h3 => ?_) (fun h3 => ?_)
      · refine lv_iload_n F.1 F.2.1 dX7_misses_31 rfl (lv_at hl 1 rfl) ?_
        have hq : (v1 : Int32) = p_X7_misses S := by
          subst ev1
          exact (rfl).symm
        exact jri F hr0 hlk hW rfl dX7_misses_32 ⟨hq, rfl⟩
      · exact absurd (c_le hn.1 rfl (by omega) (by omega)) h3
    | succ fu ih =>
      intro j v1 H locs ls hj hs  hW hl
      refine lv_iload_n F.1 F.2.1 dX7_misses_4 rfl (lv_at hl 0 rfl) ?_
      refine lv_aload_n F.1 F.2.1 dX7_misses_5 rfl (lv_at hl 2 rfl) ?_
      refine jgetR F hT hW fw_X7_7 oM0 (by decide) rfl dX7_misses_6 ?_
      refine lv_bipush (v := 8) F.1 F.2.1 dX7_misses_9 (by decide) ?_
      refine jiald F hT hW 8 oM1 (by omega) (by decide) (lI 8) rfl dX7_misses_11 ?_
      refine lv_icmp_ge (tgt := 31) F.1 F.2.1 dX7_misses_12 (by decide) (fun h2 => ?_) (fun h2 => ?_)
      · exact absurd h2 (c_nle hn.1 rfl (by omega) (by omega))
      · refine lv_iload_n F.1 F.2.1 dX7_misses_15 rfl (lv_at hl 1 rfl) ?_
        refine lv_aload_n F.1 F.2.1 dX7_misses_16 rfl (lv_at hl 2 rfl) ?_
        refine lv_iload_n F.1 F.2.1 dX7_misses_17 rfl (lv_at hl 0 rfl) ?_
        refine lv_bipush (v := 14) F.1 F.2.1 dX7_misses_18 (by decide) ?_
        refine jcip (jrunV (As := [.int (nI j), .int 14]) (rest := [.int v1]) F hT hW yc_X7_of yv_X7_of ml_X7_61 oM0 (by decide) rfl (c_X7_of l E μ S (nI j) j rfl 14 14 (lI 14) (by first | assumption | omega) (by first | assumption | omega)) rfl hl.1 ⟨Nat.le_of_ble_eq_true rfl, Nat.le_of_ble_eq_true rfl⟩ rfl (Nat.le_of_ble_eq_true rfl) ⟨Nat.le_refl _, Nat.le_refl _⟩ dX7_misses_20) hW (fun x3 H locs ex3 hW => ?_)
        refine lv_iadd F.1 F.2.1 dX7_misses_23 ?_
        refine lv_istore_n (lv' := [(1, .int (v1 + x3)), (2, .int (nI j)), (0, .ref (ea E 13 0))]) F.1 F.2.1 dX7_misses_24 rfl hl (by decide) rfl (fun ls hl => ?_)
        refine lv_iinc (v := nI (j + 1)) (lv' := [(2, .int (nI (j + 1))), (1, .int (v1 + x3)), (0, .ref (ea E 13 0))]) F.1 F.2.1 dX7_misses_25 hl (k := 1) rfl (ia rfl rfl) (by decide) rfl (fun ls hl => ?_)
        refine lv_goto (tgt := 4) F.1 F.2.1 dX7_misses_28 (by decide) ?_
        subst ex3
        exact ih (j + 1) _ _ _ _ (by omega) (by rw [itN_s, ← hs]; exact (rfl).symm) hW (lv_sub hl [0, 1, 2] rfl)
  exact hL2 (cn (S 1 8)) 0 0 _ _ _ (by omega) rfl hW (lv_sub hl [0, 1, 2] rfl)

def q_X7_waiting_4 (S : Sv) (j : Nat) (σ : Int32) : Int32 :=
  let v1 : Int32 := σ
  let x3 : Int32 := p_X7_waits S j
  let v5 : Int32 := (if x3 = 0 then 0 else (1 : Int32) <<< ((nI j) &&& 31))
  v1 ||| v5
def p_X7_waiting (S : Sv) : Int32 :=
  let v1 : Int32 := (itN (q_X7_waiting_4 S) (cn (S 1 8)) (0))
  (v1 : Int32)

set_option maxHeartbeats 4000000 in
set_option maxRecDepth 100000 in
theorem c_X7_waiting (l : Launch) (E : mE) (μ : Mu) (S : Sv) (hn : Bn (S 1 8) 12) : CtI l E yX7_waiting cX7_waiting 3 (some .int) 2 43 [.ref (ea E 13 0)] (fo μ 13 S) (fun x μ' => x = p_X7_waiting S ∧ μ' = (fo μ 13 S)) := by
  refine jMet (by decide +kernel) (Nat.le_of_ble_eq_true rfl) ?_
  intro p e s m below meth c ls F hT hr0 hlk hW hl
  have F : CallFix p m c cX7_waiting 3 s _ TB RX7 := F
  have hl : lv_has ls 3 [(0, .ref (ea E 13 0))] := hl
  have hn2 := hn.2
  refine lv_iconst (v := 0) F.1 F.2.1 dX7_waiting_0 (by decide) ?_
  refine lv_istore_n (lv' := [(1, .int 0), (0, .ref (ea E 13 0))]) F.1 F.2.1 dX7_waiting_1 rfl hl (by decide) rfl (fun ls hl => ?_)
  refine lv_iconst (v := 0) F.1 F.2.1 dX7_waiting_2 (by decide) ?_
  refine lv_istore_n (lv' := [(2, .int 0), (1, .int 0), (0, .ref (ea E 13 0))]) F.1 F.2.1 dX7_waiting_3 rfl hl (by decide) rfl (fun ls hl => ?_)
  have hL2 : ∀ (fu j : Nat) (v1 : Int32) (H : Heap) (locs : List Loc) (ls : Array Slot), j + fu = cn (S 1 8) → (v1) = itN (q_X7_waiting_4 S) j (0) → Wd E s H locs (fo μ 13 S) → lv_has ls 3 [(2, .int (nI j)), (1, .int v1), (0, .ref (ea E 13 0))] → W p l e (rmO 2 43) s m ([.ref (ea E 13 0)] : List Value).toArray below meth c H locs 0 0 (MQ below (va_Qi (fun x μ' => x = p_X7_waiting S ∧ μ' = (fo μ 13 S)) (fun μ' t => MB E μ' t.heap) (AA E)) ([.ref (ea E 13 0)] : List Value).toArray s 0 0 (AA E)) (F0 m 4 ls []) := by
    intro fu
    induction fu with
    | zero =>
      intro j v1 H locs ls hj hs  hW hl
      obtain rfl : j = cn (S 1 8) := by omega
      have ev1 := hs
      refine lv_iload_n F.1 F.2.1 dX7_waiting_4 rfl (lv_at hl 0 rfl) ?_
      refine lv_aload_n F.1 F.2.1 dX7_waiting_5 rfl (lv_at hl 2 rfl) ?_
      refine jgetR F hT hW fw_X7_7 oM0 (by decide) rfl dX7_waiting_6 ?_
      refine lv_bipush (v := 8) F.1 F.2.1 dX7_waiting_9 (by decide) ?_
      refine jiald F hT hW 8 oM1 (by omega) (by decide) (lI 8) rfl dX7_waiting_11 ?_
      refine lv_icmp_ge (tgt := 39) F.1 F.2.1 dX7_waiting_12 (by decide) (fun h3 => ?_) (fun h3 => ?_)
      · refine lv_iload_n F.1 F.2.1 dX7_waiting_39 rfl (lv_at hl 1 rfl) ?_
        have hq : (v1 : Int32) = p_X7_waiting S := by
          subst ev1
          exact (rfl).symm
        exact jri F hr0 hlk hW rfl dX7_waiting_40 ⟨hq, rfl⟩
      · exact absurd (c_le hn.1 rfl (by omega) (by omega)) h3
    | succ fu ih =>
      intro j v1 H locs ls hj hs  hW hl
      refine lv_iload_n F.1 F.2.1 dX7_waiting_4 rfl (lv_at hl 0 rfl) ?_
      refine lv_aload_n F.1 F.2.1 dX7_waiting_5 rfl (lv_at hl 2 rfl) ?_
      refine jgetR F hT hW fw_X7_7 oM0 (by decide) rfl dX7_waiting_6 ?_
      refine lv_bipush (v := 8) F.1 F.2.1 dX7_waiting_9 (by decide) ?_
      refine jiald F hT hW 8 oM1 (by omega) (by decide) (lI 8) rfl dX7_waiting_11 ?_
      refine lv_icmp_ge (tgt := 39) F.1 F.2.1 dX7_waiting_12 (by decide) (fun h2 => ?_) (fun h2 => ?_)
      · exact absurd h2 (c_nle hn.1 rfl (by omega) (by omega))
      · refine lv_iload_n F.1 F.2.1 dX7_waiting_15 rfl (lv_at hl 1 rfl) ?_
        refine lv_aload_n F.1 F.2.1 dX7_waiting_16 rfl (lv_at hl 2 rfl) ?_
        refine lv_iload_n F.1 F.2.1 dX7_waiting_17 rfl (lv_at hl 0 rfl) ?_
        refine jcip (jrunV (As := [.int (nI j)]) (rest := [.int v1]) F hT hW yc_X7_waits yv_X7_waits ml_X7_69 oM0 (by decide) rfl (c_X7_waits l E μ S (nI j) j rfl (by first | assumption | omega)) rfl hl.1 ⟨Nat.le_of_ble_eq_true rfl, Nat.le_of_ble_eq_true rfl⟩ rfl (Nat.le_of_ble_eq_true rfl) ⟨Nat.le_refl _, Nat.le_refl _⟩ dX7_waiting_18) hW (fun x3 H locs ex3 hW => ?_)
        have hJ6 : ∀ (v5 : Int32) (H : Heap) (locs : List Loc) (ls : Array Slot), v5 = (if x3 = 0 then 0 else (1 : Int32) <<< ((nI j) &&& 31)) → Wd E s H locs (fo μ 13 S) → lv_has ls 3 [(2, .int (nI j)), (1, .int v1), (0, .ref (ea E 13 0))] → W p l e (rmO 2 43) s m ([.ref (ea E 13 0)] : List Value).toArray below meth c H locs 0 0 (MQ below (va_Qi (fun x μ' => x = p_X7_waiting S ∧ μ' = (fo μ 13 S)) (fun μ' t => MB E μ' t.heap) (AA E)) ([.ref (ea E 13 0)] : List Value).toArray s 0 0 (AA E)) (F0 m 31 ls [.int v5, .int v1]) := by
          intro v5 H locs ls ev5 hW hl
          refine lv_ior F.1 F.2.1 dX7_waiting_31 ?_
          refine lv_istore_n (lv' := [(1, .int (v1 ||| v5)), (2, .int (nI j)), (0, .ref (ea E 13 0))]) F.1 F.2.1 dX7_waiting_32 rfl hl (by decide) rfl (fun ls hl => ?_)
          refine lv_iinc (v := nI (j + 1)) (lv' := [(2, .int (nI (j + 1))), (1, .int (v1 ||| v5)), (0, .ref (ea E 13 0))]) F.1 F.2.1 dX7_waiting_33 hl (k := 1) rfl (ia rfl rfl) (by decide) rfl (fun ls hl => ?_)
          refine lv_goto (tgt := 4) F.1 F.2.1 dX7_waiting_36 (by decide) ?_
          subst ev5
          subst ex3
          exact ih (j + 1) _ _ _ _ (by omega) (by rw [itN_s, ← hs]; exact (rfl).symm) hW (lv_sub hl [0, 1, 2] rfl)
        refine lv_if_eq (tgt := 30) F.1 F.2.1 dX7_waiting_21 (by decide) (fun h4 => ?_) (fun h4 => ?_)
        · refine lv_iconst (v := 0) F.1 F.2.1 dX7_waiting_30 (by decide) ?_
          exact hJ6 _ _ _ _ (if_pos h4).symm hW (lv_sub hl [0, 1, 2] rfl)
        · refine lv_iconst (v := 1) F.1 F.2.1 dX7_waiting_24 (by decide) ?_
          refine lv_iload_n F.1 F.2.1 dX7_waiting_25 rfl (lv_at hl 0 rfl) ?_
          refine lv_ishl F.1 F.2.1 dX7_waiting_26 ?_
          refine lv_goto (tgt := 31) F.1 F.2.1 dX7_waiting_27 (by decide) ?_
          exact hJ6 _ _ _ _ (if_neg h4).symm hW (lv_sub hl [0, 1, 2] rfl)
  exact hL2 (cn (S 1 8)) 0 0 _ _ _ (by omega) rfl hW (lv_sub hl [0, 1, 2] rfl)

def p_X7_costOf (S : Sv) (li : Nat) : Int32 :=
  let x1 : Int32 := p_X7_of S li 1
  (x1 + (S 1 4) : Int32)

set_option maxHeartbeats 4000000 in
set_option maxRecDepth 100000 in
theorem c_X7_costOf (l : Launch) (E : mE) (μ : Mu) (S : Sv) (xl : Int32) (li : Nat) (exl : xl = nI li) (hli : li < 12) : CtI l E yX7_costOf cX7_costOf 2 (some .int) 1 22 [.ref (ea E 13 0), .int xl] (fo μ 13 S) (fun x μ' => x = p_X7_costOf S li ∧ μ' = (fo μ 13 S)) := by
  subst exl
  refine jMet (by decide +kernel) (Nat.le_of_ble_eq_true rfl) ?_
  intro p e s m below meth c ls F hT hr0 hlk hW hl
  have F : CallFix p m c cX7_costOf 2 s _ TB RX7 := F
  have hl : lv_has ls 2 [(0, .ref (ea E 13 0)), (1, .int (nI li))] := hl
  refine lv_aload_n F.1 F.2.1 dX7_costOf_0 rfl (lv_at hl 0 rfl) ?_
  refine lv_iload_n F.1 F.2.1 dX7_costOf_1 rfl (lv_at hl 1 rfl) ?_
  refine lv_iconst (v := 1) F.1 F.2.1 dX7_costOf_2 (by decide) ?_
  refine jcip (jrunV (As := [.int (nI li), .int 1]) (rest := []) F hT hW yc_X7_of yv_X7_of ml_X7_61 oM0 (by decide) rfl (c_X7_of l E μ S (nI li) li rfl 1 1 (lI 1) (by first | assumption | omega) (by first | assumption | omega)) rfl hl.1 ⟨Nat.le_of_ble_eq_true rfl, Nat.le_of_ble_eq_true rfl⟩ rfl (Nat.le_of_ble_eq_true rfl) ⟨Nat.le_refl _, Nat.le_refl _⟩ dX7_costOf_3) hW (fun x1 H locs ex1 hW => ?_)
  refine lv_aload_n F.1 F.2.1 dX7_costOf_6 rfl (lv_at hl 0 rfl) ?_
  refine jgetR F hT hW fw_X7_7 oM0 (by decide) rfl dX7_costOf_7 ?_
  refine lv_iconst (v := 4) F.1 F.2.1 dX7_costOf_10 (by decide) ?_
  refine jiald F hT hW 4 oM1 (by omega) (by decide) (lI 4) rfl dX7_costOf_11 ?_
  refine lv_iadd F.1 F.2.1 dX7_costOf_12 ?_
  have hq : (x1 + (S 1 4) : Int32) = p_X7_costOf S li := by
    subst ex1
    exact (rfl).symm
  exact jri F hr0 hlk hW rfl dX7_costOf_13 ⟨hq, rfl⟩

def q_X7_keep_2 (S : Sv) (j : Nat) (σ : Sv) : Sv :=
  let S1 : Sv := σ
  let S3 : Sv := us S1 2 j (S1 1 j)
  S3
def p_X7_keep (S : Sv) : Sv :=
  let S1 : Sv := (itN (q_X7_keep_2 S) 280 (S))
  S1

set_option maxHeartbeats 4000000 in
set_option maxRecDepth 100000 in
theorem c_X7_keep (l : Launch) (E : mE) (μ : Mu) (S : Sv) : CtV l E yX7_keep cX7_keep 2 0 0 [.ref (ea E 13 0)] (fo μ 13 S) (fun μ' => μ' = fo μ 13 (p_X7_keep S)) := by
  refine jMet (by decide +kernel) (Nat.le_of_ble_eq_true rfl) ?_
  intro p e s m below meth c ls F hT hr0 hlk hW hl
  have F : CallFix p m c cX7_keep 2 s _ TB RX7 := F
  have hl : lv_has ls 2 [(0, .ref (ea E 13 0))] := hl
  refine lv_iconst (v := 0) F.1 F.2.1 dX7_keep_0 (by decide) ?_
  refine lv_istore_n (lv' := [(1, .int 0), (0, .ref (ea E 13 0))]) F.1 F.2.1 dX7_keep_1 rfl hl (by decide) rfl (fun ls hl => ?_)
  have hL2 : ∀ (fu j : Nat) (S1 : Sv) (H : Heap) (locs : List Loc) (ls : Array Slot), j + fu = 280 → (S1) = itN (q_X7_keep_2 S) j (S) → Wd E s H locs (fo μ 13 S1) → lv_has ls 2 [(1, .int (nI j)), (0, .ref (ea E 13 0))] → W p l e (rmO 0 0) s m ([.ref (ea E 13 0)] : List Value).toArray below meth c H locs 0 0 (MQ below (va_Qv (fun μ' => μ' = fo μ 13 (p_X7_keep S)) (fun μ' t => MB E μ' t.heap) (AA E)) ([.ref (ea E 13 0)] : List Value).toArray s 0 0 (AA E)) (F0 m 2 ls []) := by
    intro fu
    induction fu with
    | zero =>
      intro j S1 H locs ls hj hs  hW hl
      obtain rfl : j = 280 := by omega
      have eS1 := hs
      refine lv_iload_n F.1 F.2.1 dX7_keep_2 rfl (lv_at hl 0 rfl) ?_
      refine lv_sipush (v := 280) F.1 F.2.1 dX7_keep_3 (by decide) ?_
      refine lv_icmp_ge (tgt := 27) F.1 F.2.1 dX7_keep_6 (by decide) (fun h3 => ?_) (fun h3 => ?_)
      · have hq : S1 = p_X7_keep S := by
          subst eS1
          exact (rfl).symm
        exact jrv F hr0 hlk hW dX7_keep_27 (congrArg (fun z => fo μ 13 z) hq)
      · exact absurd (c_le (lI 280) rfl (by omega) (by omega)) h3
    | succ fu ih =>
      intro j S1 H locs ls hj hs  hW hl
      refine lv_iload_n F.1 F.2.1 dX7_keep_2 rfl (lv_at hl 0 rfl) ?_
      refine lv_sipush (v := 280) F.1 F.2.1 dX7_keep_3 (by decide) ?_
      refine lv_icmp_ge (tgt := 27) F.1 F.2.1 dX7_keep_6 (by decide) (fun h2 => ?_) (fun h2 => ?_)
      · exact absurd h2 (c_nle (lI 280) rfl (by omega) (by omega))
      · refine lv_aload_n F.1 F.2.1 dX7_keep_9 rfl (lv_at hl 1 rfl) ?_
        refine jgetR F hT hW fw_X7_13 oM0 (by decide) rfl dX7_keep_10 ?_
        refine lv_iload_n F.1 F.2.1 dX7_keep_13 rfl (lv_at hl 0 rfl) ?_
        refine lv_aload_n F.1 F.2.1 dX7_keep_14 rfl (lv_at hl 1 rfl) ?_
        refine jgetR F hT hW fw_X7_7 oM0 (by decide) rfl dX7_keep_15 ?_
        refine lv_iload_n F.1 F.2.1 dX7_keep_18 rfl (lv_at hl 0 rfl) ?_
        refine jiald F hT hW j oM1 (by omega) (by decide) rfl rfl dX7_keep_19 ?_
        refine jiast F hT hW j oM2 (by decide) (by omega) (by decide) rfl rfl dX7_keep_20 (fun S3 H locs eS3 hW => ?_)
        refine lv_iinc (v := nI (j + 1)) (lv' := [(1, .int (nI (j + 1))), (0, .ref (ea E 13 0))]) F.1 F.2.1 dX7_keep_21 hl (k := 0) rfl (ia rfl rfl) (by decide) rfl (fun ls hl => ?_)
        refine lv_goto (tgt := 2) F.1 F.2.1 dX7_keep_24 (by decide) ?_
        subst eS3
        exact ih (j + 1) _ _ _ _ (by omega) (by rw [itN_s, ← hs]; exact (rfl).symm) hW (lv_sub hl [0, 1] rfl)
  exact hL2 280 0 S _ _ _ (by omega) rfl hW (lv_sub hl [0, 1] rfl)

def q_X7_comeBack_2 (S : Sv) (j : Nat) (σ : Sv) : Sv :=
  let S1 : Sv := σ
  let S3 : Sv := us S1 1 j (S1 2 j)
  S3
def p_X7_comeBack (S : Sv) : Sv :=
  let S1 : Sv := (itN (q_X7_comeBack_2 S) 280 (S))
  S1

set_option maxHeartbeats 4000000 in
set_option maxRecDepth 100000 in
theorem c_X7_comeBack (l : Launch) (E : mE) (μ : Mu) (S : Sv) : CtV l E yX7_comeBack cX7_comeBack 2 0 0 [.ref (ea E 13 0)] (fo μ 13 S) (fun μ' => μ' = fo μ 13 (p_X7_comeBack S)) := by
  refine jMet (by decide +kernel) (Nat.le_of_ble_eq_true rfl) ?_
  intro p e s m below meth c ls F hT hr0 hlk hW hl
  have F : CallFix p m c cX7_comeBack 2 s _ TB RX7 := F
  have hl : lv_has ls 2 [(0, .ref (ea E 13 0))] := hl
  refine lv_iconst (v := 0) F.1 F.2.1 dX7_comeBack_0 (by decide) ?_
  refine lv_istore_n (lv' := [(1, .int 0), (0, .ref (ea E 13 0))]) F.1 F.2.1 dX7_comeBack_1 rfl hl (by decide) rfl (fun ls hl => ?_)
  have hL2 : ∀ (fu j : Nat) (S1 : Sv) (H : Heap) (locs : List Loc) (ls : Array Slot), j + fu = 280 → (S1) = itN (q_X7_comeBack_2 S) j (S) → Wd E s H locs (fo μ 13 S1) → lv_has ls 2 [(1, .int (nI j)), (0, .ref (ea E 13 0))] → W p l e (rmO 0 0) s m ([.ref (ea E 13 0)] : List Value).toArray below meth c H locs 0 0 (MQ below (va_Qv (fun μ' => μ' = fo μ 13 (p_X7_comeBack S)) (fun μ' t => MB E μ' t.heap) (AA E)) ([.ref (ea E 13 0)] : List Value).toArray s 0 0 (AA E)) (F0 m 2 ls []) := by
    intro fu
    induction fu with
    | zero =>
      intro j S1 H locs ls hj hs  hW hl
      obtain rfl : j = 280 := by omega
      have eS1 := hs
      refine lv_iload_n F.1 F.2.1 dX7_comeBack_2 rfl (lv_at hl 0 rfl) ?_
      refine lv_sipush (v := 280) F.1 F.2.1 dX7_comeBack_3 (by decide) ?_
      refine lv_icmp_ge (tgt := 27) F.1 F.2.1 dX7_comeBack_6 (by decide) (fun h3 => ?_) (fun h3 => ?_)
      · have hq : S1 = p_X7_comeBack S := by
          subst eS1
          exact (rfl).symm
        exact jrv F hr0 hlk hW dX7_comeBack_27 (congrArg (fun z => fo μ 13 z) hq)
      · exact absurd (c_le (lI 280) rfl (by omega) (by omega)) h3
    | succ fu ih =>
      intro j S1 H locs ls hj hs  hW hl
      refine lv_iload_n F.1 F.2.1 dX7_comeBack_2 rfl (lv_at hl 0 rfl) ?_
      refine lv_sipush (v := 280) F.1 F.2.1 dX7_comeBack_3 (by decide) ?_
      refine lv_icmp_ge (tgt := 27) F.1 F.2.1 dX7_comeBack_6 (by decide) (fun h2 => ?_) (fun h2 => ?_)
      · exact absurd h2 (c_nle (lI 280) rfl (by omega) (by omega))
      · refine lv_aload_n F.1 F.2.1 dX7_comeBack_9 rfl (lv_at hl 1 rfl) ?_
        refine jgetR F hT hW fw_X7_7 oM0 (by decide) rfl dX7_comeBack_10 ?_
        refine lv_iload_n F.1 F.2.1 dX7_comeBack_13 rfl (lv_at hl 0 rfl) ?_
        refine lv_aload_n F.1 F.2.1 dX7_comeBack_14 rfl (lv_at hl 1 rfl) ?_
        refine jgetR F hT hW fw_X7_13 oM0 (by decide) rfl dX7_comeBack_15 ?_
        refine lv_iload_n F.1 F.2.1 dX7_comeBack_18 rfl (lv_at hl 0 rfl) ?_
        refine jiald F hT hW j oM2 (by omega) (by decide) rfl rfl dX7_comeBack_19 ?_
        refine jiast F hT hW j oM1 (by decide) (by omega) (by decide) rfl rfl dX7_comeBack_20 (fun S3 H locs eS3 hW => ?_)
        refine lv_iinc (v := nI (j + 1)) (lv' := [(1, .int (nI (j + 1))), (0, .ref (ea E 13 0))]) F.1 F.2.1 dX7_comeBack_21 hl (k := 0) rfl (ia rfl rfl) (by decide) rfl (fun ls hl => ?_)
        refine lv_goto (tgt := 2) F.1 F.2.1 dX7_comeBack_24 (by decide) ?_
        subst eS3
        exact ih (j + 1) _ _ _ _ (by omega) (by rw [itN_s, ← hs]; exact (rfl).symm) hW (lv_sub hl [0, 1] rfl)
  exact hL2 280 0 S _ _ _ (by omega) rfl hW (lv_sub hl [0, 1] rfl)

