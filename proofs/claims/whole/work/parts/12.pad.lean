/-! class Pad -/
theorem lgc0 {y : Int64} (h : ¬ lg_cmp y 0 = 0) : ¬ y = 0 := fun e => h (by rw [e]; decide)

def q_X2_lengthOf_2 (ch : Int64) : Nat → Nat → Int32
  | 0, j =>
    (8 : Int32)
  | fu + 1, j =>
    if (lg_cmp ((ch.toUInt64 >>> ((8 * (nI j)).toInt64.toUInt64 &&& Int64.toUInt64 63)).toInt64) 0) = 0 then
      (nI j : Int32)
    else
      let x3 : Int32 := p_X6_within ((((ch.toUInt64 >>> ((8 * (nI j)).toInt64.toUInt64 &&& Int64.toUInt64 63)).toInt64) &&& 255).toInt32) 33 126
      if x3 = 0 then
        (0 : Int32)
      else
        q_X2_lengthOf_2 ch fu (j + 1) 
def p_X2_lengthOf (ch : Int64) : Int32 :=
  q_X2_lengthOf_2 ch 8 0 
set_option maxHeartbeats 4000000 in
set_option maxRecDepth 100000 in
theorem c_X2_lengthOf (l : Launch) (E : mE) (μ : Mu) (ch : Int64) : CtI l E yX2_lengthOf cX2_lengthOf 5 (some .int) 1 22 [.long ch] μ (fun x μ' => x = p_X2_lengthOf ch ∧ μ' = μ) := by
  refine jMet (by decide +kernel) (Nat.le_of_ble_eq_true rfl) ?_
  intro p e s m below meth c ls F hT hr0 hlk hW hl
  have F : CallFix p m c cX2_lengthOf 5 s _ TB RX2 := F
  have hl : lv_has ls 5 [(0, .long ch)] := hl
  refine lv_iconst (v := 0) F.1 F.2.1 dX2_lengthOf_0 (by decide) ?_
  refine lv_istore_n (lv' := [(2, .int 0), (0, .long ch)]) F.1 F.2.1 dX2_lengthOf_1 rfl hl (by decide) rfl (fun ls hl => ?_)
  have hL1 : ∀ (fu j : Nat) (H : Heap) (locs : List Loc) (ls : Array Slot), j + fu = 8 → p_X2_lengthOf ch = q_X2_lengthOf_2 ch fu j  → Wd E s H locs μ → lv_has ls 5 [(2, .int (nI j)), (0, .long ch)] → W p l e (rmO 1 22) s m ([.long ch] : List Value).toArray below meth c H locs 0 0 (MQ below (va_Qi (fun x μ' => x = p_X2_lengthOf ch ∧ μ' = μ) (fun μ' t => MB E μ' t.heap) (AA E)) ([.long ch] : List Value).toArray s 0 0 (AA E)) (F0 m 2 ls []) := by
    intro fu
    induction fu with
    | zero =>
      intro j  H locs ls hj hres  hW hl
      refine lv_iload_n F.1 F.2.1 dX2_lengthOf_2 rfl (lv_at hl 0 rfl) ?_
      refine lv_bipush (v := 8) F.1 F.2.1 dX2_lengthOf_3 (by decide) ?_
      refine lv_icmp_ge (tgt := 47) F.1 F.2.1 dX2_lengthOf_5 (by decide) (fun h2 => ?_) (fun h2 => ?_)
      · refine lv_bipush (v := 8) F.1 F.2.1 dX2_lengthOf_47 (by decide) ?_
        have hq : (8 : Int32) = p_X2_lengthOf ch := by
          exact (hres).symm
        exact jri F hr0 hlk hW rfl dX2_lengthOf_49 ⟨hq, rfl⟩
      · exact absurd (c_le (lI 8) rfl (by omega) (by omega)) h2
    | succ fu ih =>
      intro j  H locs ls hj hres  hW hl
      refine lv_iload_n F.1 F.2.1 dX2_lengthOf_2 rfl (lv_at hl 0 rfl) ?_
      refine lv_bipush (v := 8) F.1 F.2.1 dX2_lengthOf_3 (by decide) ?_
      refine lv_icmp_ge (tgt := 47) F.1 F.2.1 dX2_lengthOf_5 (by decide) (fun h1 => ?_) (fun h1 => ?_)
      · exact absurd h1 (c_nle (lI 8) rfl (by omega) (by omega))
      · refine lv_lload_n F.1 F.2.1 dX2_lengthOf_8 rfl (lv_at hl 1 rfl) ?_
        refine lv_bipush (v := 8) F.1 F.2.1 dX2_lengthOf_9 (by decide) ?_
        refine lv_iload_n F.1 F.2.1 dX2_lengthOf_11 rfl (lv_at hl 0 rfl) ?_
        refine lv_imul F.1 F.2.1 dX2_lengthOf_12 ?_
        refine lv_lushr F.1 F.2.1 dX2_lengthOf_13 rfl ?_
        refine lv_lstore_n (lv' := [(3, .long ((ch.toUInt64 >>> ((8 * (nI j)).toInt64.toUInt64 &&& Int64.toUInt64 63)).toInt64)), (2, .int (nI j)), (0, .long ch)]) F.1 F.2.1 dX2_lengthOf_14 rfl hl (by decide) rfl (fun ls hl => ?_)
        refine lv_lload_n F.1 F.2.1 dX2_lengthOf_15 rfl (lv_at hl 0 rfl) ?_
        refine lv_lconst (v := 0) F.1 F.2.1 dX2_lengthOf_16 (by decide) ?_
        refine W.lcmp F.1 F.2.1 dX2_lengthOf_17 ?_
        refine lv_if_ne (tgt := 23) F.1 F.2.1 dX2_lengthOf_18 (by decide) (fun h2 => ?_) (fun h2 => ?_)
        · refine lv_lload_n F.1 F.2.1 dX2_lengthOf_23 rfl (lv_at hl 0 rfl) ?_
          refine lv_ldc2 (v := 255) F.1 F.2.1 F.2.2.2.1 (F.2.2.2.2 _ wl_X2_23) dX2_lengthOf_24 ?_
          refine lv_land F.1 F.2.1 dX2_lengthOf_27 ?_
          refine lv_l2i F.1 F.2.1 dX2_lengthOf_28 rfl ?_
          refine lv_bipush (v := 33) F.1 F.2.1 dX2_lengthOf_29 (by decide) ?_
          refine lv_bipush (v := 126) F.1 F.2.1 dX2_lengthOf_31 (by decide) ?_
          refine jcip (jrunSN (As := [.int ((((ch.toUInt64 >>> ((8 * (nI j)).toInt64.toUInt64 &&& Int64.toUInt64 63)).toInt64) &&& 255).toInt32), .int 33, .int 126]) (rest := []) F hT hW yc_X6_within ys_X6_within (by decide +kernel) (c_X6_within l E μ ((((ch.toUInt64 >>> ((8 * (nI j)).toInt64.toUInt64 &&& Int64.toUInt64 63)).toInt64) &&& 255).toInt32) 33 126) rfl hl.1 ⟨Nat.le_of_ble_eq_true rfl, Nat.le_of_ble_eq_true rfl⟩ rfl (Nat.le_of_ble_eq_true rfl) ⟨Nat.le_refl _, Nat.le_refl _⟩ dX2_lengthOf_33) hW (fun x3 H locs ex3 hW => ?_)
          refine lv_if_ne (tgt := 41) F.1 F.2.1 dX2_lengthOf_36 (by decide) (fun h4 => ?_) (fun h4 => ?_)
          · refine lv_iinc (v := nI (j + 1)) (lv' := [(2, .int (nI (j + 1))), (3, .long ((ch.toUInt64 >>> ((8 * (nI j)).toInt64.toUInt64 &&& Int64.toUInt64 63)).toInt64)), (0, .long ch)]) F.1 F.2.1 dX2_lengthOf_41 hl (k := 1) rfl (ia rfl rfl) (by decide) rfl (fun ls hl => ?_)
            refine lv_goto (tgt := 2) F.1 F.2.1 dX2_lengthOf_44 (by decide) ?_
            subst ex3
            exact ih (j + 1) _ _ _ (by omega) (hres.trans ((if_neg h2).trans (if_neg h4))) hW (lv_sub hl [0, 2] rfl)
          · refine lv_iconst (v := 0) F.1 F.2.1 dX2_lengthOf_39 (by decide) ?_
            have hq : (0 : Int32) = p_X2_lengthOf ch := by
              subst ex3
              exact ((hres).trans ((if_neg h2).trans (if_pos h4))).symm
            exact jri F hr0 hlk hW rfl dX2_lengthOf_40 ⟨hq, rfl⟩
        · refine lv_iload_n F.1 F.2.1 dX2_lengthOf_21 rfl (lv_at hl 1 rfl) ?_
          have hq : (nI j : Int32) = p_X2_lengthOf ch := by
            exact ((hres).trans (if_pos h2)).symm
          exact jri F hr0 hlk hW rfl dX2_lengthOf_22 ⟨hq, rfl⟩
  exact hL1 8 0 _ _ _ (by omega) (by exact rfl) hW (lv_sub hl [0, 1] rfl)

def p_X2_clear (S : Sv) : Int32 × Sv :=
  let S1 : Sv := us S 5 1 0
  ((S 5 1 : Int32), S1)

set_option maxHeartbeats 4000000 in
set_option maxRecDepth 100000 in
theorem c_X2_clear (l : Launch) (E : mE) (μ : Mu) (S : Sv) : CtI l E yX2_clear cX2_clear 2 (some .int) 0 0 [.ref (ea E 11 5)] (fo μ 11 S) (fun x μ' => x = (p_X2_clear S).1 ∧ μ' = fo μ 11 (p_X2_clear S).2) := by
  refine jMet (by decide +kernel) (Nat.le_of_ble_eq_true rfl) ?_
  intro p e s m below meth c ls F hT hr0 hlk hW hl
  have F : CallFix p m c cX2_clear 2 s _ TB RX2 := F
  have hl : lv_has ls 2 [(0, .ref (ea E 11 5))] := hl
  refine lv_aload_n F.1 F.2.1 dX2_clear_0 rfl (lv_at hl 0 rfl) ?_
  refine jget F hT hW fw_X2_19 oH5 (by decide) rfl dX2_clear_1 ?_
  refine lv_istore_n (lv' := [(1, .int (S 5 1)), (0, .ref (ea E 11 5))]) F.1 F.2.1 dX2_clear_4 rfl hl (by decide) rfl (fun ls hl => ?_)
  refine lv_aload_n F.1 F.2.1 dX2_clear_5 rfl (lv_at hl 1 rfl) ?_
  refine lv_iconst (v := 0) F.1 F.2.1 dX2_clear_6 (by decide) ?_
  refine jput F hT hW fw_X2_19 ft_2_1 oH5 (by decide) (by decide) rfl rfl rfl dX2_clear_7 (fun S1 H locs eS1 hW => ?_)
  refine lv_iload_n F.1 F.2.1 dX2_clear_10 rfl (lv_at hl 0 rfl) ?_
  have hq : ((S 5 1 : Int32), S1) = p_X2_clear S := by
    subst eS1
    exact (rfl).symm
  exact jri F hr0 hlk hW rfl dX2_clear_11 ⟨congrArg Prod.fst hq, congrArg (fun z => fo μ 11 z.2) hq⟩

def p_X2_mayEnd (du : Int32) : Int32 :=
  let v4 : Int32 := (if du = 8 then 1 else (if du = 6 then 1 else (if du = 7 then 1 else 0)))
  (v4 : Int32)
set_option maxHeartbeats 4000000 in
set_option maxRecDepth 100000 in
theorem c_X2_mayEnd (l : Launch) (E : mE) (μ : Mu) (du : Int32) : CtI l E yX2_mayEnd cX2_mayEnd 1 (some .boolean) 0 0 [.int du] μ (fun x μ' => x = p_X2_mayEnd du ∧ μ' = μ) := by
  refine jMet (by decide +kernel) (Nat.le_of_ble_eq_true rfl) ?_
  intro p e s m below meth c ls F hT hr0 hlk hW hl
  have F : CallFix p m c cX2_mayEnd 1 s _ TB RX2 := F
  have hl : lv_has ls 1 [(0, .int du)] := hl
  refine lv_iload_n F.1 F.2.1 dX2_mayEnd_0 rfl (lv_at hl 0 rfl) ?_
  refine lv_bipush (v := 8) F.1 F.2.1 dX2_mayEnd_1 (by decide) ?_
  have hJ5 : ∀ (v4 : Int32) (H : Heap) (locs : List Loc) (ls : Array Slot), v4 = (if du = 8 then 1 else (if du = 6 then 1 else (if du = 7 then 1 else 0))) → Wd E s H locs μ → lv_has ls 1 [(0, .int du)] → W p l e (rmO 0 0) s m ([.int du] : List Value).toArray below meth c H locs 0 0 (MQ below (va_Qi (fun x μ' => x = p_X2_mayEnd du ∧ μ' = μ) (fun μ' t => MB E μ' t.heap) (AA E)) ([.int du] : List Value).toArray s 0 0 (AA E)) (F0 m 23 ls [.int v4]) := by
    intro v4 H locs ls ev4 hW hl
    have hq : (v4 : Int32) = p_X2_mayEnd du := by
      subst ev4
      exact (rfl).symm
    exact jri F hr0 hlk hW (znar (by first | assumption | ((try clear hq); subst_vars; (try dsimp only); repeat' (first | exact Or.inl rfl | exact Or.inr rfl | refine iteZ ?_ ?_)))) dX2_mayEnd_23 ⟨hq, rfl⟩
  refine lv_icmp_eq (tgt := 18) F.1 F.2.1 dX2_mayEnd_3 (by decide) (fun h1 => ?_) (fun h1 => ?_)
  · refine lv_iconst (v := 1) F.1 F.2.1 dX2_mayEnd_18 (by decide) ?_
    refine lv_goto (tgt := 23) F.1 F.2.1 dX2_mayEnd_19 (by decide) ?_
    exact hJ5 _ _ _ _ (if_pos h1).symm hW (lv_sub hl [0] rfl)
  · refine lv_iload_n F.1 F.2.1 dX2_mayEnd_6 rfl (lv_at hl 0 rfl) ?_
    refine lv_bipush (v := 6) F.1 F.2.1 dX2_mayEnd_7 (by decide) ?_
    refine lv_icmp_eq (tgt := 18) F.1 F.2.1 dX2_mayEnd_9 (by decide) (fun h2 => ?_) (fun h2 => ?_)
    · refine lv_iconst (v := 1) F.1 F.2.1 dX2_mayEnd_18 (by decide) ?_
      refine lv_goto (tgt := 23) F.1 F.2.1 dX2_mayEnd_19 (by decide) ?_
      exact hJ5 _ _ _ _ ((if_neg h1).trans (if_pos h2)).symm hW (lv_sub hl [0] rfl)
    · refine lv_iload_n F.1 F.2.1 dX2_mayEnd_12 rfl (lv_at hl 0 rfl) ?_
      refine lv_bipush (v := 7) F.1 F.2.1 dX2_mayEnd_13 (by decide) ?_
      refine lv_icmp_ne (tgt := 22) F.1 F.2.1 dX2_mayEnd_15 (by decide) (fun h3 => ?_) (fun h3 => ?_)
      · refine lv_iconst (v := 0) F.1 F.2.1 dX2_mayEnd_22 (by decide) ?_
        exact hJ5 _ _ _ _ ((if_neg h1).trans ((if_neg h2).trans (if_neg h3))).symm hW (lv_sub hl [0] rfl)
      · refine lv_iconst (v := 1) F.1 F.2.1 dX2_mayEnd_18 (by decide) ?_
        refine lv_goto (tgt := 23) F.1 F.2.1 dX2_mayEnd_19 (by decide) ?_
        exact hJ5 _ _ _ _ ((if_neg h1).trans ((if_neg h2).trans (if_pos h3))).symm hW (lv_sub hl [0] rfl)

def p_X2_dueAfterOrder (sg : Int32) : Int32 :=
  if sg = 104 then
    (3 : Int32)
  else
    if sg = 105 then
      (0 : Int32)
    else
      if sg = 106 then
        (0 : Int32)
      else
        if sg = 107 then
          (0 : Int32)
        else
          if sg = 108 then
            (3 : Int32)
          else
            if sg = 109 then
              (2 : Int32)
            else
              if sg = 110 then
                (2 : Int32)
              else
                if sg = 111 then
                  (0 : Int32)
                else
                  if sg = 112 then
                    (0 : Int32)
                  else
                    if sg = 113 then
                      (0 : Int32)
                    else
                      if sg = 114 then
                        (0 : Int32)
                      else
                        if sg = 115 then
                          (0 : Int32)
                        else
                          if sg = 116 then
                            (5 : Int32)
                          else
                            if sg = 117 then
                              (2 : Int32)
                            else
                              (0 : Int32)
set_option maxHeartbeats 4000000 in
set_option maxRecDepth 100000 in
theorem c_X2_dueAfterOrder (l : Launch) (E : mE) (μ : Mu) (sg : Int32) : CtI l E yX2_dueAfterOrder cX2_dueAfterOrder 1 (some .int) 0 0 [.int sg] μ (fun x μ' => x = p_X2_dueAfterOrder sg ∧ μ' = μ) := by
  refine jMet (by decide +kernel) (Nat.le_of_ble_eq_true rfl) ?_
  intro p e s m below meth c ls F hT hr0 hlk hW hl
  have F : CallFix p m c cX2_dueAfterOrder 1 s _ TB RX2 := F
  have hl : lv_has ls 1 [(0, .int sg)] := hl
  refine lv_iload_n F.1 F.2.1 dX2_dueAfterOrder_0 rfl (lv_at hl 0 rfl) ?_
  rcases Decidable.em (sg = 104) with hk1_0 | hk1_0
  · refine lv_tableIn (off := 73) (tgt := 74) F.1 F.2.1 dX2_dueAfterOrder_1 (by rw [hk1_0]; decide) (by rw [hk1_0]; decide) (by rw [hk1_0]; rfl) (by decide) ?_
    refine lv_iconst (v := 3) F.1 F.2.1 dX2_dueAfterOrder_74 (by decide) ?_
    have hq : (3 : Int32) = p_X2_dueAfterOrder sg := by
      exact (if_pos hk1_0).symm
    exact jri F hr0 hlk hW rfl dX2_dueAfterOrder_75 ⟨hq, rfl⟩
  · rcases Decidable.em (sg = 105) with hk1_1 | hk1_1
    · refine lv_tableIn (off := 77) (tgt := 78) F.1 F.2.1 dX2_dueAfterOrder_1 (by rw [hk1_1]; decide) (by rw [hk1_1]; decide) (by rw [hk1_1]; rfl) (by decide) ?_
      refine lv_iconst (v := 0) F.1 F.2.1 dX2_dueAfterOrder_78 (by decide) ?_
      have hq : (0 : Int32) = p_X2_dueAfterOrder sg := by
        exact ((if_neg hk1_0).trans (if_pos hk1_1)).symm
      exact jri F hr0 hlk hW rfl dX2_dueAfterOrder_79 ⟨hq, rfl⟩
    · rcases Decidable.em (sg = 106) with hk1_2 | hk1_2
      · refine lv_tableIn (off := 77) (tgt := 78) F.1 F.2.1 dX2_dueAfterOrder_1 (by rw [hk1_2]; decide) (by rw [hk1_2]; decide) (by rw [hk1_2]; rfl) (by decide) ?_
        refine lv_iconst (v := 0) F.1 F.2.1 dX2_dueAfterOrder_78 (by decide) ?_
        have hq : (0 : Int32) = p_X2_dueAfterOrder sg := by
          exact ((if_neg hk1_0).trans ((if_neg hk1_1).trans (if_pos hk1_2))).symm
        exact jri F hr0 hlk hW rfl dX2_dueAfterOrder_79 ⟨hq, rfl⟩
      · rcases Decidable.em (sg = 107) with hk1_3 | hk1_3
        · refine lv_tableIn (off := 77) (tgt := 78) F.1 F.2.1 dX2_dueAfterOrder_1 (by rw [hk1_3]; decide) (by rw [hk1_3]; decide) (by rw [hk1_3]; rfl) (by decide) ?_
          refine lv_iconst (v := 0) F.1 F.2.1 dX2_dueAfterOrder_78 (by decide) ?_
          have hq : (0 : Int32) = p_X2_dueAfterOrder sg := by
            exact ((if_neg hk1_0).trans ((if_neg hk1_1).trans ((if_neg hk1_2).trans (if_pos hk1_3)))).symm
          exact jri F hr0 hlk hW rfl dX2_dueAfterOrder_79 ⟨hq, rfl⟩
        · rcases Decidable.em (sg = 108) with hk1_4 | hk1_4
          · refine lv_tableIn (off := 73) (tgt := 74) F.1 F.2.1 dX2_dueAfterOrder_1 (by rw [hk1_4]; decide) (by rw [hk1_4]; decide) (by rw [hk1_4]; rfl) (by decide) ?_
            refine lv_iconst (v := 3) F.1 F.2.1 dX2_dueAfterOrder_74 (by decide) ?_
            have hq : (3 : Int32) = p_X2_dueAfterOrder sg := by
              exact ((if_neg hk1_0).trans ((if_neg hk1_1).trans ((if_neg hk1_2).trans ((if_neg hk1_3).trans (if_pos hk1_4))))).symm
            exact jri F hr0 hlk hW rfl dX2_dueAfterOrder_75 ⟨hq, rfl⟩
          · rcases Decidable.em (sg = 109) with hk1_5 | hk1_5
            · refine lv_tableIn (off := 71) (tgt := 72) F.1 F.2.1 dX2_dueAfterOrder_1 (by rw [hk1_5]; decide) (by rw [hk1_5]; decide) (by rw [hk1_5]; rfl) (by decide) ?_
              refine lv_iconst (v := 2) F.1 F.2.1 dX2_dueAfterOrder_72 (by decide) ?_
              have hq : (2 : Int32) = p_X2_dueAfterOrder sg := by
                exact ((if_neg hk1_0).trans ((if_neg hk1_1).trans ((if_neg hk1_2).trans ((if_neg hk1_3).trans ((if_neg hk1_4).trans (if_pos hk1_5)))))).symm
              exact jri F hr0 hlk hW rfl dX2_dueAfterOrder_73 ⟨hq, rfl⟩
            · rcases Decidable.em (sg = 110) with hk1_6 | hk1_6
              · refine lv_tableIn (off := 71) (tgt := 72) F.1 F.2.1 dX2_dueAfterOrder_1 (by rw [hk1_6]; decide) (by rw [hk1_6]; decide) (by rw [hk1_6]; rfl) (by decide) ?_
                refine lv_iconst (v := 2) F.1 F.2.1 dX2_dueAfterOrder_72 (by decide) ?_
                have hq : (2 : Int32) = p_X2_dueAfterOrder sg := by
                  exact ((if_neg hk1_0).trans ((if_neg hk1_1).trans ((if_neg hk1_2).trans ((if_neg hk1_3).trans ((if_neg hk1_4).trans ((if_neg hk1_5).trans (if_pos hk1_6))))))).symm
                exact jri F hr0 hlk hW rfl dX2_dueAfterOrder_73 ⟨hq, rfl⟩
              · rcases Decidable.em (sg = 111) with hk1_7 | hk1_7
                · refine lv_tableIn (off := 77) (tgt := 78) F.1 F.2.1 dX2_dueAfterOrder_1 (by rw [hk1_7]; decide) (by rw [hk1_7]; decide) (by rw [hk1_7]; rfl) (by decide) ?_
                  refine lv_iconst (v := 0) F.1 F.2.1 dX2_dueAfterOrder_78 (by decide) ?_
                  have hq : (0 : Int32) = p_X2_dueAfterOrder sg := by
                    exact ((if_neg hk1_0).trans ((if_neg hk1_1).trans ((if_neg hk1_2).trans ((if_neg hk1_3).trans ((if_neg hk1_4).trans ((if_neg hk1_5).trans ((if_neg hk1_6).trans (if_pos hk1_7)))))))).symm
                  exact jri F hr0 hlk hW rfl dX2_dueAfterOrder_79 ⟨hq, rfl⟩
                · rcases Decidable.em (sg = 112) with hk1_8 | hk1_8
                  · refine lv_tableIn (off := 77) (tgt := 78) F.1 F.2.1 dX2_dueAfterOrder_1 (by rw [hk1_8]; decide) (by rw [hk1_8]; decide) (by rw [hk1_8]; rfl) (by decide) ?_
                    refine lv_iconst (v := 0) F.1 F.2.1 dX2_dueAfterOrder_78 (by decide) ?_
                    have hq : (0 : Int32) = p_X2_dueAfterOrder sg := by
                      exact ((if_neg hk1_0).trans ((if_neg hk1_1).trans ((if_neg hk1_2).trans ((if_neg hk1_3).trans ((if_neg hk1_4).trans ((if_neg hk1_5).trans ((if_neg hk1_6).trans ((if_neg hk1_7).trans (if_pos hk1_8))))))))).symm
                    exact jri F hr0 hlk hW rfl dX2_dueAfterOrder_79 ⟨hq, rfl⟩
                  · rcases Decidable.em (sg = 113) with hk1_9 | hk1_9
                    · refine lv_tableIn (off := 77) (tgt := 78) F.1 F.2.1 dX2_dueAfterOrder_1 (by rw [hk1_9]; decide) (by rw [hk1_9]; decide) (by rw [hk1_9]; rfl) (by decide) ?_
                      refine lv_iconst (v := 0) F.1 F.2.1 dX2_dueAfterOrder_78 (by decide) ?_
                      have hq : (0 : Int32) = p_X2_dueAfterOrder sg := by
                        exact ((if_neg hk1_0).trans ((if_neg hk1_1).trans ((if_neg hk1_2).trans ((if_neg hk1_3).trans ((if_neg hk1_4).trans ((if_neg hk1_5).trans ((if_neg hk1_6).trans ((if_neg hk1_7).trans ((if_neg hk1_8).trans (if_pos hk1_9)))))))))).symm
                      exact jri F hr0 hlk hW rfl dX2_dueAfterOrder_79 ⟨hq, rfl⟩
                    · rcases Decidable.em (sg = 114) with hk1_10 | hk1_10
                      · refine lv_tableIn (off := 77) (tgt := 78) F.1 F.2.1 dX2_dueAfterOrder_1 (by rw [hk1_10]; decide) (by rw [hk1_10]; decide) (by rw [hk1_10]; rfl) (by decide) ?_
                        refine lv_iconst (v := 0) F.1 F.2.1 dX2_dueAfterOrder_78 (by decide) ?_
                        have hq : (0 : Int32) = p_X2_dueAfterOrder sg := by
                          exact ((if_neg hk1_0).trans ((if_neg hk1_1).trans ((if_neg hk1_2).trans ((if_neg hk1_3).trans ((if_neg hk1_4).trans ((if_neg hk1_5).trans ((if_neg hk1_6).trans ((if_neg hk1_7).trans ((if_neg hk1_8).trans ((if_neg hk1_9).trans (if_pos hk1_10))))))))))).symm
                        exact jri F hr0 hlk hW rfl dX2_dueAfterOrder_79 ⟨hq, rfl⟩
                      · rcases Decidable.em (sg = 115) with hk1_11 | hk1_11
                        · refine lv_tableIn (off := 77) (tgt := 78) F.1 F.2.1 dX2_dueAfterOrder_1 (by rw [hk1_11]; decide) (by rw [hk1_11]; decide) (by rw [hk1_11]; rfl) (by decide) ?_
                          refine lv_iconst (v := 0) F.1 F.2.1 dX2_dueAfterOrder_78 (by decide) ?_
                          have hq : (0 : Int32) = p_X2_dueAfterOrder sg := by
                            exact ((if_neg hk1_0).trans ((if_neg hk1_1).trans ((if_neg hk1_2).trans ((if_neg hk1_3).trans ((if_neg hk1_4).trans ((if_neg hk1_5).trans ((if_neg hk1_6).trans ((if_neg hk1_7).trans ((if_neg hk1_8).trans ((if_neg hk1_9).trans ((if_neg hk1_10).trans (if_pos hk1_11)))))))))))).symm
                          exact jri F hr0 hlk hW rfl dX2_dueAfterOrder_79 ⟨hq, rfl⟩
                        · rcases Decidable.em (sg = 116) with hk1_12 | hk1_12
                          · refine lv_tableIn (off := 75) (tgt := 76) F.1 F.2.1 dX2_dueAfterOrder_1 (by rw [hk1_12]; decide) (by rw [hk1_12]; decide) (by rw [hk1_12]; rfl) (by decide) ?_
                            refine lv_iconst (v := 5) F.1 F.2.1 dX2_dueAfterOrder_76 (by decide) ?_
                            have hq : (5 : Int32) = p_X2_dueAfterOrder sg := by
                              exact ((if_neg hk1_0).trans ((if_neg hk1_1).trans ((if_neg hk1_2).trans ((if_neg hk1_3).trans ((if_neg hk1_4).trans ((if_neg hk1_5).trans ((if_neg hk1_6).trans ((if_neg hk1_7).trans ((if_neg hk1_8).trans ((if_neg hk1_9).trans ((if_neg hk1_10).trans ((if_neg hk1_11).trans (if_pos hk1_12))))))))))))).symm
                            exact jri F hr0 hlk hW rfl dX2_dueAfterOrder_77 ⟨hq, rfl⟩
                          · rcases Decidable.em (sg = 117) with hk1_13 | hk1_13
                            · refine lv_tableIn (off := 71) (tgt := 72) F.1 F.2.1 dX2_dueAfterOrder_1 (by rw [hk1_13]; decide) (by rw [hk1_13]; decide) (by rw [hk1_13]; rfl) (by decide) ?_
                              refine lv_iconst (v := 2) F.1 F.2.1 dX2_dueAfterOrder_72 (by decide) ?_
                              have hq : (2 : Int32) = p_X2_dueAfterOrder sg := by
                                exact ((if_neg hk1_0).trans ((if_neg hk1_1).trans ((if_neg hk1_2).trans ((if_neg hk1_3).trans ((if_neg hk1_4).trans ((if_neg hk1_5).trans ((if_neg hk1_6).trans ((if_neg hk1_7).trans ((if_neg hk1_8).trans ((if_neg hk1_9).trans ((if_neg hk1_10).trans ((if_neg hk1_11).trans ((if_neg hk1_12).trans (if_pos hk1_13)))))))))))))).symm
                              exact jri F hr0 hlk hW rfl dX2_dueAfterOrder_73 ⟨hq, rfl⟩
                            · refine lv_tableOut (tgt := 78) F.1 F.2.1 dX2_dueAfterOrder_1 (by have := lv_neT (a := 104) hk1_0 rfl; have := lv_neT (a := 105) hk1_1 rfl; have := lv_neT (a := 106) hk1_2 rfl; have := lv_neT (a := 107) hk1_3 rfl; have := lv_neT (a := 108) hk1_4 rfl; have := lv_neT (a := 109) hk1_5 rfl; have := lv_neT (a := 110) hk1_6 rfl; have := lv_neT (a := 111) hk1_7 rfl; have := lv_neT (a := 112) hk1_8 rfl; have := lv_neT (a := 113) hk1_9 rfl; have := lv_neT (a := 114) hk1_10 rfl; have := lv_neT (a := 115) hk1_11 rfl; have := lv_neT (a := 116) hk1_12 rfl; have := lv_neT (a := 117) hk1_13 rfl; omega) (by decide) ?_
                              refine lv_iconst (v := 0) F.1 F.2.1 dX2_dueAfterOrder_78 (by decide) ?_
                              have hq : (0 : Int32) = p_X2_dueAfterOrder sg := by
                                exact ((if_neg hk1_0).trans ((if_neg hk1_1).trans ((if_neg hk1_2).trans ((if_neg hk1_3).trans ((if_neg hk1_4).trans ((if_neg hk1_5).trans ((if_neg hk1_6).trans ((if_neg hk1_7).trans ((if_neg hk1_8).trans ((if_neg hk1_9).trans ((if_neg hk1_10).trans ((if_neg hk1_11).trans ((if_neg hk1_12).trans (if_neg hk1_13)))))))))))))).symm
                              exact jri F hr0 hlk hW rfl dX2_dueAfterOrder_79 ⟨hq, rfl⟩

def p_X2_dueAfterDigit (sg : Int32) (du : Int32) : Int32 :=
  let x1 : Int32 := p_X6_within sg 48 57
  let v3 : Int32 := (if x1 = 0 then 0 else du)
  (v3 : Int32)
set_option maxHeartbeats 4000000 in
set_option maxRecDepth 100000 in
theorem c_X2_dueAfterDigit (l : Launch) (E : mE) (μ : Mu) (sg : Int32) (du : Int32) : CtI l E yX2_dueAfterDigit cX2_dueAfterDigit 2 (some .int) 1 22 [.int sg, .int du] μ (fun x μ' => x = p_X2_dueAfterDigit sg du ∧ μ' = μ) := by
  refine jMet (by decide +kernel) (Nat.le_of_ble_eq_true rfl) ?_
  intro p e s m below meth c ls F hT hr0 hlk hW hl
  have F : CallFix p m c cX2_dueAfterDigit 2 s _ TB RX2 := F
  have hl : lv_has ls 2 [(0, .int sg), (1, .int du)] := hl
  refine lv_iload_n F.1 F.2.1 dX2_dueAfterDigit_0 rfl (lv_at hl 0 rfl) ?_
  refine lv_bipush (v := 48) F.1 F.2.1 dX2_dueAfterDigit_1 (by decide) ?_
  refine lv_bipush (v := 57) F.1 F.2.1 dX2_dueAfterDigit_3 (by decide) ?_
  refine jcip (jrunSN (As := [.int sg, .int 48, .int 57]) (rest := []) F hT hW yc_X6_within ys_X6_within (by decide +kernel) (c_X6_within l E μ sg 48 57) rfl hl.1 ⟨Nat.le_of_ble_eq_true rfl, Nat.le_of_ble_eq_true rfl⟩ rfl (Nat.le_of_ble_eq_true rfl) ⟨Nat.le_refl _, Nat.le_refl _⟩ dX2_dueAfterDigit_5) hW (fun x1 H locs ex1 hW => ?_)
  have hJ4 : ∀ (v3 : Int32) (H : Heap) (locs : List Loc) (ls : Array Slot), v3 = (if x1 = 0 then 0 else du) → Wd E s H locs μ → lv_has ls 2 [(0, .int sg), (1, .int du)] → W p l e (rmO 1 22) s m ([.int sg, .int du] : List Value).toArray below meth c H locs 0 0 (MQ below (va_Qi (fun x μ' => x = p_X2_dueAfterDigit sg du ∧ μ' = μ) (fun μ' t => MB E μ' t.heap) (AA E)) ([.int sg, .int du] : List Value).toArray s 0 0 (AA E)) (F0 m 16 ls [.int v3]) := by
    intro v3 H locs ls ev3 hW hl
    have hq : (v3 : Int32) = p_X2_dueAfterDigit sg du := by
      subst ev3
      subst ex1
      exact (rfl).symm
    exact jri F hr0 hlk hW rfl dX2_dueAfterDigit_16 ⟨hq, rfl⟩
  refine lv_if_eq (tgt := 15) F.1 F.2.1 dX2_dueAfterDigit_8 (by decide) (fun h2 => ?_) (fun h2 => ?_)
  · refine lv_iconst (v := 0) F.1 F.2.1 dX2_dueAfterDigit_15 (by decide) ?_
    exact hJ4 _ _ _ _ (if_pos h2).symm hW (lv_sub hl [0, 1] rfl)
  · refine lv_iload_n F.1 F.2.1 dX2_dueAfterDigit_11 rfl (lv_at hl 1 rfl) ?_
    refine lv_goto (tgt := 16) F.1 F.2.1 dX2_dueAfterDigit_12 (by decide) ?_
    exact hJ4 _ _ _ _ (if_neg h2).symm hW (lv_sub hl [0, 1] rfl)

def p_X2_dueAfter (du : Int32) (sg : Int32) : Int32 :=
  if sg = 59 then
    let x21 : Int32 := p_X2_mayEnd du
    let v23 : Int32 := (if x21 = 0 then 0 else 1)
    (v23 : Int32)
  else
    if du = 1 then
      let x2 : Int32 := p_X2_dueAfterOrder sg
      (x2 : Int32)
    else
      if du = 2 then
        let x3 : Int32 := p_X6_within sg 65 76
        let v5 : Int32 := (if x3 = 0 then 0 else 8)
        (v5 : Int32)
      else
        if du = 3 then
          let x7 : Int32 := p_X6_within sg 65 76
          let v9 : Int32 := (if x7 = 0 then 0 else 4)
          (v9 : Int32)
        else
          if du = 4 then
            let x11 : Int32 := p_X6_within sg 48 51
            let v13 : Int32 := (if x11 = 0 then 0 else 8)
            (v13 : Int32)
          else
            if du = 5 then
              let v17 : Int32 := (if sg = 48 then 8 else (let x16 : Int32 := p_X2_dueAfterDigit sg 6; x16))
              (v17 : Int32)
            else
              if du = 6 then
                let x19 : Int32 := p_X2_dueAfterDigit sg 7
                (x19 : Int32)
              else
                if du = 7 then
                  let x20 : Int32 := p_X2_dueAfterDigit sg 8
                  (x20 : Int32)
                else
                  (0 : Int32)
set_option maxHeartbeats 4000000 in
set_option maxRecDepth 100000 in
theorem c_X2_dueAfter (l : Launch) (E : mE) (μ : Mu) (du : Int32) (sg : Int32) : CtI l E yX2_dueAfter cX2_dueAfter 2 (some .int) 2 43 [.int du, .int sg] μ (fun x μ' => x = p_X2_dueAfter du sg ∧ μ' = μ) := by
  refine jMet (by decide +kernel) (Nat.le_of_ble_eq_true rfl) ?_
  intro p e s m below meth c ls F hT hr0 hlk hW hl
  have F : CallFix p m c cX2_dueAfter 2 s _ TB RX2 := F
  have hl : lv_has ls 2 [(0, .int du), (1, .int sg)] := hl
  refine lv_iload_n F.1 F.2.1 dX2_dueAfter_0 rfl (lv_at hl 1 rfl) ?_
  refine lv_bipush (v := 59) F.1 F.2.1 dX2_dueAfter_1 (by decide) ?_
  refine lv_icmp_ne (tgt := 19) F.1 F.2.1 dX2_dueAfter_3 (by decide) (fun h1 => ?_) (fun h1 => ?_)
  · refine lv_iload_n F.1 F.2.1 dX2_dueAfter_19 rfl (lv_at hl 0 rfl) ?_
    rcases Decidable.em (du = 1) with hk20_0 | hk20_0
    · refine lv_tableIn (off := 44) (tgt := 64) F.1 F.2.1 dX2_dueAfter_20 (by rw [hk20_0]; decide) (by rw [hk20_0]; decide) (by rw [hk20_0]; rfl) (by decide) ?_
      refine lv_iload_n F.1 F.2.1 dX2_dueAfter_64 rfl (lv_at hl 1 rfl) ?_
      refine jcip (jrunS (As := [.int sg]) (rest := []) F hT hW yc_X2_dueAfterOrder ys_X2_dueAfterOrder ml_X2_37 (c_X2_dueAfterOrder l E μ sg) rfl hl.1 ⟨Nat.le_of_ble_eq_true rfl, Nat.le_of_ble_eq_true rfl⟩ rfl (Nat.le_of_ble_eq_true rfl) ⟨Nat.le_refl _, Nat.le_refl _⟩ dX2_dueAfter_65) hW (fun x2 H locs ex2 hW => ?_)
      have hq : (x2 : Int32) = p_X2_dueAfter du sg := by
        subst ex2
        exact ((if_neg h1).trans (if_pos hk20_0)).symm
      exact jri F hr0 hlk hW rfl dX2_dueAfter_68 ⟨hq, rfl⟩
    · rcases Decidable.em (du = 2) with hk20_1 | hk20_1
      · refine lv_tableIn (off := 49) (tgt := 69) F.1 F.2.1 dX2_dueAfter_20 (by rw [hk20_1]; decide) (by rw [hk20_1]; decide) (by rw [hk20_1]; rfl) (by decide) ?_
        refine lv_iload_n F.1 F.2.1 dX2_dueAfter_69 rfl (lv_at hl 1 rfl) ?_
        refine lv_bipush (v := 65) F.1 F.2.1 dX2_dueAfter_70 (by decide) ?_
        refine lv_bipush (v := 76) F.1 F.2.1 dX2_dueAfter_72 (by decide) ?_
        refine jcip (jrunSN (As := [.int sg, .int 65, .int 76]) (rest := []) F hT hW yc_X6_within ys_X6_within (by decide +kernel) (c_X6_within l E μ sg 65 76) rfl hl.1 ⟨Nat.le_of_ble_eq_true rfl, Nat.le_of_ble_eq_true rfl⟩ rfl (Nat.le_of_ble_eq_true rfl) ⟨Nat.le_refl _, Nat.le_refl _⟩ dX2_dueAfter_74) hW (fun x3 H locs ex3 hW => ?_)
        have hJ6 : ∀ (v5 : Int32) (H : Heap) (locs : List Loc) (ls : Array Slot), v5 = (if x3 = 0 then 0 else 8) → Wd E s H locs μ → lv_has ls 2 [(0, .int du), (1, .int sg)] → W p l e (rmO 2 43) s m ([.int du, .int sg] : List Value).toArray below meth c H locs 0 0 (MQ below (va_Qi (fun x μ' => x = p_X2_dueAfter du sg ∧ μ' = μ) (fun μ' t => MB E μ' t.heap) (AA E)) ([.int du, .int sg] : List Value).toArray s 0 0 (AA E)) (F0 m 86 ls [.int v5]) := by
          intro v5 H locs ls ev5 hW hl
          have hq : (v5 : Int32) = p_X2_dueAfter du sg := by
            subst ev5
            subst ex3
            exact ((if_neg h1).trans ((if_neg hk20_0).trans (if_pos hk20_1))).symm
          exact jri F hr0 hlk hW rfl dX2_dueAfter_86 ⟨hq, rfl⟩
        refine lv_if_eq (tgt := 85) F.1 F.2.1 dX2_dueAfter_77 (by decide) (fun h4 => ?_) (fun h4 => ?_)
        · refine lv_iconst (v := 0) F.1 F.2.1 dX2_dueAfter_85 (by decide) ?_
          exact hJ6 _ _ _ _ (if_pos h4).symm hW (lv_sub hl [0, 1] rfl)
        · refine lv_bipush (v := 8) F.1 F.2.1 dX2_dueAfter_80 (by decide) ?_
          refine lv_goto (tgt := 86) F.1 F.2.1 dX2_dueAfter_82 (by decide) ?_
          exact hJ6 _ _ _ _ (if_neg h4).symm hW (lv_sub hl [0, 1] rfl)
      · rcases Decidable.em (du = 3) with hk20_2 | hk20_2
        · refine lv_tableIn (off := 67) (tgt := 87) F.1 F.2.1 dX2_dueAfter_20 (by rw [hk20_2]; decide) (by rw [hk20_2]; decide) (by rw [hk20_2]; rfl) (by decide) ?_
          refine lv_iload_n F.1 F.2.1 dX2_dueAfter_87 rfl (lv_at hl 1 rfl) ?_
          refine lv_bipush (v := 65) F.1 F.2.1 dX2_dueAfter_88 (by decide) ?_
          refine lv_bipush (v := 76) F.1 F.2.1 dX2_dueAfter_90 (by decide) ?_
          refine jcip (jrunSN (As := [.int sg, .int 65, .int 76]) (rest := []) F hT hW yc_X6_within ys_X6_within (by decide +kernel) (c_X6_within l E μ sg 65 76) rfl hl.1 ⟨Nat.le_of_ble_eq_true rfl, Nat.le_of_ble_eq_true rfl⟩ rfl (Nat.le_of_ble_eq_true rfl) ⟨Nat.le_refl _, Nat.le_refl _⟩ dX2_dueAfter_92) hW (fun x7 H locs ex7 hW => ?_)
          have hJ10 : ∀ (v9 : Int32) (H : Heap) (locs : List Loc) (ls : Array Slot), v9 = (if x7 = 0 then 0 else 4) → Wd E s H locs μ → lv_has ls 2 [(0, .int du), (1, .int sg)] → W p l e (rmO 2 43) s m ([.int du, .int sg] : List Value).toArray below meth c H locs 0 0 (MQ below (va_Qi (fun x μ' => x = p_X2_dueAfter du sg ∧ μ' = μ) (fun μ' t => MB E μ' t.heap) (AA E)) ([.int du, .int sg] : List Value).toArray s 0 0 (AA E)) (F0 m 103 ls [.int v9]) := by
            intro v9 H locs ls ev9 hW hl
            have hq : (v9 : Int32) = p_X2_dueAfter du sg := by
              subst ev9
              subst ex7
              exact ((if_neg h1).trans ((if_neg hk20_0).trans ((if_neg hk20_1).trans (if_pos hk20_2)))).symm
            exact jri F hr0 hlk hW rfl dX2_dueAfter_103 ⟨hq, rfl⟩
          refine lv_if_eq (tgt := 102) F.1 F.2.1 dX2_dueAfter_95 (by decide) (fun h8 => ?_) (fun h8 => ?_)
          · refine lv_iconst (v := 0) F.1 F.2.1 dX2_dueAfter_102 (by decide) ?_
            exact hJ10 _ _ _ _ (if_pos h8).symm hW (lv_sub hl [0, 1] rfl)
          · refine lv_iconst (v := 4) F.1 F.2.1 dX2_dueAfter_98 (by decide) ?_
            refine lv_goto (tgt := 103) F.1 F.2.1 dX2_dueAfter_99 (by decide) ?_
            exact hJ10 _ _ _ _ (if_neg h8).symm hW (lv_sub hl [0, 1] rfl)
        · rcases Decidable.em (du = 4) with hk20_3 | hk20_3
          · refine lv_tableIn (off := 84) (tgt := 104) F.1 F.2.1 dX2_dueAfter_20 (by rw [hk20_3]; decide) (by rw [hk20_3]; decide) (by rw [hk20_3]; rfl) (by decide) ?_
            refine lv_iload_n F.1 F.2.1 dX2_dueAfter_104 rfl (lv_at hl 1 rfl) ?_
            refine lv_bipush (v := 48) F.1 F.2.1 dX2_dueAfter_105 (by decide) ?_
            refine lv_bipush (v := 51) F.1 F.2.1 dX2_dueAfter_107 (by decide) ?_
            refine jcip (jrunSN (As := [.int sg, .int 48, .int 51]) (rest := []) F hT hW yc_X6_within ys_X6_within (by decide +kernel) (c_X6_within l E μ sg 48 51) rfl hl.1 ⟨Nat.le_of_ble_eq_true rfl, Nat.le_of_ble_eq_true rfl⟩ rfl (Nat.le_of_ble_eq_true rfl) ⟨Nat.le_refl _, Nat.le_refl _⟩ dX2_dueAfter_109) hW (fun x11 H locs ex11 hW => ?_)
            have hJ14 : ∀ (v13 : Int32) (H : Heap) (locs : List Loc) (ls : Array Slot), v13 = (if x11 = 0 then 0 else 8) → Wd E s H locs μ → lv_has ls 2 [(0, .int du), (1, .int sg)] → W p l e (rmO 2 43) s m ([.int du, .int sg] : List Value).toArray below meth c H locs 0 0 (MQ below (va_Qi (fun x μ' => x = p_X2_dueAfter du sg ∧ μ' = μ) (fun μ' t => MB E μ' t.heap) (AA E)) ([.int du, .int sg] : List Value).toArray s 0 0 (AA E)) (F0 m 121 ls [.int v13]) := by
              intro v13 H locs ls ev13 hW hl
              have hq : (v13 : Int32) = p_X2_dueAfter du sg := by
                subst ev13
                subst ex11
                exact ((if_neg h1).trans ((if_neg hk20_0).trans ((if_neg hk20_1).trans ((if_neg hk20_2).trans (if_pos hk20_3))))).symm
              exact jri F hr0 hlk hW rfl dX2_dueAfter_121 ⟨hq, rfl⟩
            refine lv_if_eq (tgt := 120) F.1 F.2.1 dX2_dueAfter_112 (by decide) (fun h12 => ?_) (fun h12 => ?_)
            · refine lv_iconst (v := 0) F.1 F.2.1 dX2_dueAfter_120 (by decide) ?_
              exact hJ14 _ _ _ _ (if_pos h12).symm hW (lv_sub hl [0, 1] rfl)
            · refine lv_bipush (v := 8) F.1 F.2.1 dX2_dueAfter_115 (by decide) ?_
              refine lv_goto (tgt := 121) F.1 F.2.1 dX2_dueAfter_117 (by decide) ?_
              exact hJ14 _ _ _ _ (if_neg h12).symm hW (lv_sub hl [0, 1] rfl)
          · rcases Decidable.em (du = 5) with hk20_4 | hk20_4
            · refine lv_tableIn (off := 102) (tgt := 122) F.1 F.2.1 dX2_dueAfter_20 (by rw [hk20_4]; decide) (by rw [hk20_4]; decide) (by rw [hk20_4]; rfl) (by decide) ?_
              refine lv_iload_n F.1 F.2.1 dX2_dueAfter_122 rfl (lv_at hl 1 rfl) ?_
              refine lv_bipush (v := 48) F.1 F.2.1 dX2_dueAfter_123 (by decide) ?_
              have hJ18 : ∀ (v17 : Int32) (H : Heap) (locs : List Loc) (ls : Array Slot), v17 = (if sg = 48 then 8 else (let x16 : Int32 := p_X2_dueAfterDigit sg 6; x16)) → Wd E s H locs μ → lv_has ls 2 [(0, .int du), (1, .int sg)] → W p l e (rmO 2 43) s m ([.int du, .int sg] : List Value).toArray below meth c H locs 0 0 (MQ below (va_Qi (fun x μ' => x = p_X2_dueAfter du sg ∧ μ' = μ) (fun μ' t => MB E μ' t.heap) (AA E)) ([.int du, .int sg] : List Value).toArray s 0 0 (AA E)) (F0 m 139 ls [.int v17]) := by
                intro v17 H locs ls ev17 hW hl
                have hq : (v17 : Int32) = p_X2_dueAfter du sg := by
                  subst ev17
                  exact ((if_neg h1).trans ((if_neg hk20_0).trans ((if_neg hk20_1).trans ((if_neg hk20_2).trans ((if_neg hk20_3).trans (if_pos hk20_4)))))).symm
                exact jri F hr0 hlk hW rfl dX2_dueAfter_139 ⟨hq, rfl⟩
              refine lv_icmp_ne (tgt := 133) F.1 F.2.1 dX2_dueAfter_125 (by decide) (fun h15 => ?_) (fun h15 => ?_)
              · refine lv_iload_n F.1 F.2.1 dX2_dueAfter_133 rfl (lv_at hl 1 rfl) ?_
                refine lv_bipush (v := 6) F.1 F.2.1 dX2_dueAfter_134 (by decide) ?_
                refine jcip (jrunS (As := [.int sg, .int 6]) (rest := []) F hT hW yc_X2_dueAfterDigit ys_X2_dueAfterDigit ml_X2_41 (c_X2_dueAfterDigit l E μ sg 6) rfl hl.1 ⟨Nat.le_of_ble_eq_true rfl, Nat.le_of_ble_eq_true rfl⟩ rfl (Nat.le_of_ble_eq_true rfl) ⟨Nat.le_refl _, Nat.le_refl _⟩ dX2_dueAfter_136) hW (fun x16 H locs ex16 hW => ?_)
                subst ex16
                exact hJ18 _ _ _ _ (if_neg h15).symm hW (lv_sub hl [0, 1] rfl)
              · refine lv_bipush (v := 8) F.1 F.2.1 dX2_dueAfter_128 (by decide) ?_
                refine lv_goto (tgt := 139) F.1 F.2.1 dX2_dueAfter_130 (by decide) ?_
                exact hJ18 _ _ _ _ (if_pos h15).symm hW (lv_sub hl [0, 1] rfl)
            · rcases Decidable.em (du = 6) with hk20_5 | hk20_5
              · refine lv_tableIn (off := 120) (tgt := 140) F.1 F.2.1 dX2_dueAfter_20 (by rw [hk20_5]; decide) (by rw [hk20_5]; decide) (by rw [hk20_5]; rfl) (by decide) ?_
                refine lv_iload_n F.1 F.2.1 dX2_dueAfter_140 rfl (lv_at hl 1 rfl) ?_
                refine lv_bipush (v := 7) F.1 F.2.1 dX2_dueAfter_141 (by decide) ?_
                refine jcip (jrunS (As := [.int sg, .int 7]) (rest := []) F hT hW yc_X2_dueAfterDigit ys_X2_dueAfterDigit ml_X2_41 (c_X2_dueAfterDigit l E μ sg 7) rfl hl.1 ⟨Nat.le_of_ble_eq_true rfl, Nat.le_of_ble_eq_true rfl⟩ rfl (Nat.le_of_ble_eq_true rfl) ⟨Nat.le_refl _, Nat.le_refl _⟩ dX2_dueAfter_143) hW (fun x19 H locs ex19 hW => ?_)
                have hq : (x19 : Int32) = p_X2_dueAfter du sg := by
                  subst ex19
                  exact ((if_neg h1).trans ((if_neg hk20_0).trans ((if_neg hk20_1).trans ((if_neg hk20_2).trans ((if_neg hk20_3).trans ((if_neg hk20_4).trans (if_pos hk20_5))))))).symm
                exact jri F hr0 hlk hW rfl dX2_dueAfter_146 ⟨hq, rfl⟩
              · rcases Decidable.em (du = 7) with hk20_6 | hk20_6
                · refine lv_tableIn (off := 127) (tgt := 147) F.1 F.2.1 dX2_dueAfter_20 (by rw [hk20_6]; decide) (by rw [hk20_6]; decide) (by rw [hk20_6]; rfl) (by decide) ?_
                  refine lv_iload_n F.1 F.2.1 dX2_dueAfter_147 rfl (lv_at hl 1 rfl) ?_
                  refine lv_bipush (v := 8) F.1 F.2.1 dX2_dueAfter_148 (by decide) ?_
                  refine jcip (jrunS (As := [.int sg, .int 8]) (rest := []) F hT hW yc_X2_dueAfterDigit ys_X2_dueAfterDigit ml_X2_41 (c_X2_dueAfterDigit l E μ sg 8) rfl hl.1 ⟨Nat.le_of_ble_eq_true rfl, Nat.le_of_ble_eq_true rfl⟩ rfl (Nat.le_of_ble_eq_true rfl) ⟨Nat.le_refl _, Nat.le_refl _⟩ dX2_dueAfter_150) hW (fun x20 H locs ex20 hW => ?_)
                  have hq : (x20 : Int32) = p_X2_dueAfter du sg := by
                    subst ex20
                    exact ((if_neg h1).trans ((if_neg hk20_0).trans ((if_neg hk20_1).trans ((if_neg hk20_2).trans ((if_neg hk20_3).trans ((if_neg hk20_4).trans ((if_neg hk20_5).trans (if_pos hk20_6)))))))).symm
                  exact jri F hr0 hlk hW rfl dX2_dueAfter_153 ⟨hq, rfl⟩
                · refine lv_tableOut (tgt := 154) F.1 F.2.1 dX2_dueAfter_20 (by have := lv_neT (a := 1) hk20_0 rfl; have := lv_neT (a := 2) hk20_1 rfl; have := lv_neT (a := 3) hk20_2 rfl; have := lv_neT (a := 4) hk20_3 rfl; have := lv_neT (a := 5) hk20_4 rfl; have := lv_neT (a := 6) hk20_5 rfl; have := lv_neT (a := 7) hk20_6 rfl; omega) (by decide) ?_
                  refine lv_iconst (v := 0) F.1 F.2.1 dX2_dueAfter_154 (by decide) ?_
                  have hq : (0 : Int32) = p_X2_dueAfter du sg := by
                    exact ((if_neg h1).trans ((if_neg hk20_0).trans ((if_neg hk20_1).trans ((if_neg hk20_2).trans ((if_neg hk20_3).trans ((if_neg hk20_4).trans ((if_neg hk20_5).trans (if_neg hk20_6)))))))).symm
                  exact jri F hr0 hlk hW rfl dX2_dueAfter_155 ⟨hq, rfl⟩
  · refine lv_iload_n F.1 F.2.1 dX2_dueAfter_6 rfl (lv_at hl 0 rfl) ?_
    refine jcip (jrunS (As := [.int du]) (rest := []) F hT hW yc_X2_mayEnd ys_X2_mayEnd ml_X2_33 (c_X2_mayEnd l E μ du) rfl hl.1 ⟨Nat.le_of_ble_eq_true rfl, Nat.le_of_ble_eq_true rfl⟩ rfl (Nat.le_of_ble_eq_true rfl) ⟨Nat.le_refl _, Nat.le_refl _⟩ dX2_dueAfter_7) hW (fun x21 H locs ex21 hW => ?_)
    have hJ24 : ∀ (v23 : Int32) (H : Heap) (locs : List Loc) (ls : Array Slot), v23 = (if x21 = 0 then 0 else 1) → Wd E s H locs μ → lv_has ls 2 [(0, .int du), (1, .int sg)] → W p l e (rmO 2 43) s m ([.int du, .int sg] : List Value).toArray below meth c H locs 0 0 (MQ below (va_Qi (fun x μ' => x = p_X2_dueAfter du sg ∧ μ' = μ) (fun μ' t => MB E μ' t.heap) (AA E)) ([.int du, .int sg] : List Value).toArray s 0 0 (AA E)) (F0 m 18 ls [.int v23]) := by
      intro v23 H locs ls ev23 hW hl
      have hq : (v23 : Int32) = p_X2_dueAfter du sg := by
        subst ev23
        subst ex21
        exact (if_pos h1).symm
      exact jri F hr0 hlk hW rfl dX2_dueAfter_18 ⟨hq, rfl⟩
    refine lv_if_eq (tgt := 17) F.1 F.2.1 dX2_dueAfter_10 (by decide) (fun h22 => ?_) (fun h22 => ?_)
    · refine lv_iconst (v := 0) F.1 F.2.1 dX2_dueAfter_17 (by decide) ?_
      exact hJ24 _ _ _ _ (if_pos h22).symm hW (lv_sub hl [0, 1] rfl)
    · refine lv_iconst (v := 1) F.1 F.2.1 dX2_dueAfter_13 (by decide) ?_
      refine lv_goto (tgt := 18) F.1 F.2.1 dX2_dueAfter_14 (by decide) ?_
      exact hJ24 _ _ _ _ (if_neg h22).symm hW (lv_sub hl [0, 1] rfl)

def q_X2_firstFault_4 (S : Sv) : Nat → Nat → Int32 → Int32
  | 0, j, v1 =>
    let x4 : Int32 := p_X2_mayEnd v1
    let v6 : Int32 := (if x4 = 0 then S 5 1 else (-6))
    (v6 : Int32)
  | fu + 1, j, v1 =>
    let x3 : Int32 := p_X2_dueAfter v1 (S 6 j)
    if x3 = 0 then
      (nI j : Int32)
    else
      q_X2_firstFault_4 S fu (j + 1) x3
def p_X2_firstFault (S : Sv) : Int32 :=
  q_X2_firstFault_4 S (cn (S 5 1)) 0 1

set_option maxHeartbeats 4000000 in
set_option maxRecDepth 100000 in
theorem c_X2_firstFault (l : Launch) (E : mE) (μ : Mu) (S : Sv) (hp : Bn (S 5 1) 80) : CtI l E yX2_firstFault cX2_firstFault 3 (some .int) 3 64 [.ref (ea E 11 5)] (fo μ 11 S) (fun x μ' => x = p_X2_firstFault S ∧ μ' = (fo μ 11 S)) := by
  refine jMet (by decide +kernel) (Nat.le_of_ble_eq_true rfl) ?_
  intro p e s m below meth c ls F hT hr0 hlk hW hl
  have F : CallFix p m c cX2_firstFault 3 s _ TB RX2 := F
  have hl : lv_has ls 3 [(0, .ref (ea E 11 5))] := hl
  have hp2 := hp.2
  refine lv_iconst (v := 1) F.1 F.2.1 dX2_firstFault_0 (by decide) ?_
  refine lv_istore_n (lv' := [(1, .int 1), (0, .ref (ea E 11 5))]) F.1 F.2.1 dX2_firstFault_1 rfl hl (by decide) rfl (fun ls hl => ?_)
  refine lv_iconst (v := 0) F.1 F.2.1 dX2_firstFault_2 (by decide) ?_
  refine lv_istore_n (lv' := [(2, .int 0), (1, .int 1), (0, .ref (ea E 11 5))]) F.1 F.2.1 dX2_firstFault_3 rfl hl (by decide) rfl (fun ls hl => ?_)
  have hL2 : ∀ (fu j : Nat) (v1 : Int32) (H : Heap) (locs : List Loc) (ls : Array Slot), j + fu = cn (S 5 1) → p_X2_firstFault S = q_X2_firstFault_4 S fu j v1 → Wd E s H locs (fo μ 11 S) → lv_has ls 3 [(2, .int (nI j)), (1, .int v1), (0, .ref (ea E 11 5))] → W p l e (rmO 3 64) s m ([.ref (ea E 11 5)] : List Value).toArray below meth c H locs 0 0 (MQ below (va_Qi (fun x μ' => x = p_X2_firstFault S ∧ μ' = (fo μ 11 S)) (fun μ' t => MB E μ' t.heap) (AA E)) ([.ref (ea E 11 5)] : List Value).toArray s 0 0 (AA E)) (F0 m 4 ls []) := by
    intro fu
    induction fu with
    | zero =>
      intro j v1 H locs ls hj hres  hW hl
      refine lv_iload_n F.1 F.2.1 dX2_firstFault_4 rfl (lv_at hl 0 rfl) ?_
      refine lv_aload_n F.1 F.2.1 dX2_firstFault_5 rfl (lv_at hl 2 rfl) ?_
      refine jget F hT hW fw_X2_19 oH5 (by decide) rfl dX2_firstFault_6 ?_
      refine lv_icmp_ge (tgt := 35) F.1 F.2.1 dX2_firstFault_9 (by decide) (fun h3 => ?_) (fun h3 => ?_)
      · refine lv_iload_n F.1 F.2.1 dX2_firstFault_35 rfl (lv_at hl 1 rfl) ?_
        refine jcip (jrunS (As := [.int v1]) (rest := []) F hT hW yc_X2_mayEnd ys_X2_mayEnd ml_X2_33 (c_X2_mayEnd l E (fo μ 11 S) v1) rfl hl.1 ⟨Nat.le_of_ble_eq_true rfl, Nat.le_of_ble_eq_true rfl⟩ rfl (Nat.le_of_ble_eq_true rfl) ⟨Nat.le_refl _, Nat.le_refl _⟩ dX2_firstFault_36) hW (fun x4 H locs ex4 hW => ?_)
        have hJ7 : ∀ (v6 : Int32) (H : Heap) (locs : List Loc) (ls : Array Slot), v6 = (if x4 = 0 then S 5 1 else (-6)) → Wd E s H locs (fo μ 11 S) → lv_has ls 3 [(2, .int (nI j)), (1, .int v1), (0, .ref (ea E 11 5))] → W p l e (rmO 3 64) s m ([.ref (ea E 11 5)] : List Value).toArray below meth c H locs 0 0 (MQ below (va_Qi (fun x μ' => x = p_X2_firstFault S ∧ μ' = (fo μ 11 S)) (fun μ' t => MB E μ' t.heap) (AA E)) ([.ref (ea E 11 5)] : List Value).toArray s 0 0 (AA E)) (F0 m 51 ls [.int v6]) := by
          intro v6 H locs ls ev6 hW hl
          have hq : (v6 : Int32) = p_X2_firstFault S := by
            subst ev6
            subst ex4
            exact (hres).symm
          exact jri F hr0 hlk hW rfl dX2_firstFault_51 ⟨hq, rfl⟩
        refine lv_if_eq (tgt := 47) F.1 F.2.1 dX2_firstFault_39 (by decide) (fun h5 => ?_) (fun h5 => ?_)
        · refine lv_aload_n F.1 F.2.1 dX2_firstFault_47 rfl (lv_at hl 2 rfl) ?_
          refine jget F hT hW fw_X2_19 oH5 (by decide) rfl dX2_firstFault_48 ?_
          exact hJ7 _ _ _ _ (if_pos h5).symm hW (lv_sub hl [0, 1, 2] rfl)
        · refine lv_bipush (v := (-6)) F.1 F.2.1 dX2_firstFault_42 (by decide) ?_
          refine lv_goto (tgt := 51) F.1 F.2.1 dX2_firstFault_44 (by decide) ?_
          exact hJ7 _ _ _ _ (if_neg h5).symm hW (lv_sub hl [0, 1, 2] rfl)
      · exact absurd (c_le hp.1 rfl (by omega) (by omega)) h3
    | succ fu ih =>
      intro j v1 H locs ls hj hres  hW hl
      refine lv_iload_n F.1 F.2.1 dX2_firstFault_4 rfl (lv_at hl 0 rfl) ?_
      refine lv_aload_n F.1 F.2.1 dX2_firstFault_5 rfl (lv_at hl 2 rfl) ?_
      refine jget F hT hW fw_X2_19 oH5 (by decide) rfl dX2_firstFault_6 ?_
      refine lv_icmp_ge (tgt := 35) F.1 F.2.1 dX2_firstFault_9 (by decide) (fun h2 => ?_) (fun h2 => ?_)
      · exact absurd h2 (c_nle hp.1 rfl (by omega) (by omega))
      · refine lv_iload_n F.1 F.2.1 dX2_firstFault_12 rfl (lv_at hl 1 rfl) ?_
        refine lv_aload_n F.1 F.2.1 dX2_firstFault_13 rfl (lv_at hl 2 rfl) ?_
        refine jgetR F hT hW fw_X2_9 oH5 (by decide) rfl dX2_firstFault_14 ?_
        refine lv_iload_n F.1 F.2.1 dX2_firstFault_17 rfl (lv_at hl 0 rfl) ?_
        refine jcald F hT hW j oH6 (by omega) (by decide) rfl rfl dX2_firstFault_18 ?_
        refine jcip (jrunS (As := [.int v1, .int (S 6 j)]) (rest := []) F hT hW yc_X2_dueAfter ys_X2_dueAfter ml_X2_29 (c_X2_dueAfter l E (fo μ 11 S) v1 (S 6 j)) rfl hl.1 ⟨Nat.le_of_ble_eq_true rfl, Nat.le_of_ble_eq_true rfl⟩ rfl (Nat.le_of_ble_eq_true rfl) ⟨Nat.le_refl _, Nat.le_refl _⟩ dX2_firstFault_19) hW (fun x3 H locs ex3 hW => ?_)
        refine lv_istore_n (lv' := [(1, .int x3), (2, .int (nI j)), (0, .ref (ea E 11 5))]) F.1 F.2.1 dX2_firstFault_22 rfl hl (by decide) rfl (fun ls hl => ?_)
        refine lv_iload_n F.1 F.2.1 dX2_firstFault_23 rfl (lv_at hl 0 rfl) ?_
        refine lv_if_ne (tgt := 29) F.1 F.2.1 dX2_firstFault_24 (by decide) (fun h4 => ?_) (fun h4 => ?_)
        · refine lv_iinc (v := nI (j + 1)) (lv' := [(2, .int (nI (j + 1))), (1, .int x3), (0, .ref (ea E 11 5))]) F.1 F.2.1 dX2_firstFault_29 hl (k := 1) rfl (ia rfl rfl) (by decide) rfl (fun ls hl => ?_)
          refine lv_goto (tgt := 4) F.1 F.2.1 dX2_firstFault_32 (by decide) ?_
          subst ex3
          exact ih (j + 1) _ _ _ _ (by omega) (hres.trans (if_neg h4)) hW (lv_sub hl [0, 1, 2] rfl)
        · refine lv_iload_n F.1 F.2.1 dX2_firstFault_27 rfl (lv_at hl 1 rfl) ?_
          have hq : (nI j : Int32) = p_X2_firstFault S := by
            subst ex3
            exact ((hres).trans (if_pos h4)).symm
          exact jri F hr0 hlk hW rfl dX2_firstFault_28 ⟨hq, rfl⟩
  exact hL2 (cn (S 5 1)) 0 1 _ _ _ (by omega) (by exact rfl) hW (lv_sub hl [0, 1, 2] rfl)

def p_X2_signAt (S : Sv) (ix : Int32) : Int32 :=
  let x1 : Int32 := p_X6_within ix 0 ((S 5 1) - 1)
  let v3 : Int32 := (if x1 = 0 then 0 else S 6 (cn ix))
  (v3 : Int32)

set_option maxHeartbeats 4000000 in
set_option maxRecDepth 100000 in
theorem c_X2_signAt (l : Launch) (E : mE) (μ : Mu) (S : Sv) (ix : Int32) (hp : Bn (S 5 1) 80) (hch : ∀ j, j < 80 → narrow .char (.int (S 6 j)) = .int (S 6 j)) : CtI l E yX2_signAt cX2_signAt 2 (some .char) 1 22 [.ref (ea E 11 5), .int ix] (fo μ 11 S) (fun x μ' => x = p_X2_signAt S ix ∧ μ' = (fo μ 11 S)) := by
  refine jMet (by decide +kernel) (Nat.le_of_ble_eq_true rfl) ?_
  intro p e s m below meth c ls F hT hr0 hlk hW hl
  have F : CallFix p m c cX2_signAt 2 s _ TB RX2 := F
  have hl : lv_has ls 2 [(0, .ref (ea E 11 5)), (1, .int ix)] := hl
  refine lv_iload_n F.1 F.2.1 dX2_signAt_0 rfl (lv_at hl 1 rfl) ?_
  refine lv_iconst (v := 0) F.1 F.2.1 dX2_signAt_1 (by decide) ?_
  refine lv_aload_n F.1 F.2.1 dX2_signAt_2 rfl (lv_at hl 0 rfl) ?_
  refine jget F hT hW fw_X2_19 oH5 (by decide) rfl dX2_signAt_3 ?_
  refine lv_iconst (v := 1) F.1 F.2.1 dX2_signAt_6 (by decide) ?_
  refine lv_isub F.1 F.2.1 dX2_signAt_7 ?_
  refine jcip (jrunSN (As := [.int ix, .int 0, .int ((S 5 1) - 1)]) (rest := []) F hT hW yc_X6_within ys_X6_within (by decide +kernel) (c_X6_within l E (fo μ 11 S) ix 0 ((S 5 1) - 1)) rfl hl.1 ⟨Nat.le_of_ble_eq_true rfl, Nat.le_of_ble_eq_true rfl⟩ rfl (Nat.le_of_ble_eq_true rfl) ⟨Nat.le_refl _, Nat.le_refl _⟩ dX2_signAt_8) hW (fun x1 H locs ex1 hW => ?_)
  have hJ4 : ∀ (v3 : Int32) (H : Heap) (locs : List Loc) (ls : Array Slot), v3 = (if x1 = 0 then 0 else S 6 (cn ix)) → Wd E s H locs (fo μ 11 S) → lv_has ls 2 [(0, .ref (ea E 11 5)), (1, .int ix)] → W p l e (rmO 1 22) s m ([.ref (ea E 11 5), .int ix] : List Value).toArray below meth c H locs 0 0 (MQ below (va_Qi (fun x μ' => x = p_X2_signAt S ix ∧ μ' = (fo μ 11 S)) (fun μ' t => MB E μ' t.heap) (AA E)) ([.ref (ea E 11 5), .int ix] : List Value).toArray s 0 0 (AA E)) (F0 m 24 ls [.int v3]) := by
    intro v3 H locs ls ev3 hW hl
    have hcr : narrow .char (.int v3) = .int v3 := by
      have hp2 := hp.2
      rw [ev3]
      by_cases hz : x1 = 0
      · rw [if_pos hz]; rfl
      · rw [if_neg hz]
        obtain ⟨hl1, hl2⟩ := wL (a := ix) hp (by decide) (by assumption) hz
        exact hch (cn ix) (by omega)
    have hq : (v3 : Int32) = p_X2_signAt S ix := by
      subst ev3
      subst ex1
      exact (rfl).symm
    exact jri F hr0 hlk hW hcr dX2_signAt_24 ⟨hq, rfl⟩
  refine lv_if_eq (tgt := 23) F.1 F.2.1 dX2_signAt_11 (by decide) (fun h2 => ?_) (fun h2 => ?_)
  · refine lv_iconst (v := 0) F.1 F.2.1 dX2_signAt_23 (by decide) ?_
    exact hJ4 _ _ _ _ (if_pos h2).symm hW (lv_sub hl [0, 1] rfl)
  · obtain ⟨hl1, hl2⟩ := wL (a := ix) hp (by decide) (by assumption) (by assumption)
    have hp2 := hp.2
    refine lv_aload_n F.1 F.2.1 dX2_signAt_14 rfl (lv_at hl 0 rfl) ?_
    refine jgetR F hT hW fw_X2_9 oH5 (by decide) rfl dX2_signAt_15 ?_
    refine lv_iload_n F.1 F.2.1 dX2_signAt_18 rfl (lv_at hl 1 rfl) ?_
    refine jcald F hT hW (cn ix) oH6 (by omega) (by decide) hl1 rfl dX2_signAt_19 ?_
    refine lv_goto (tgt := 24) F.1 F.2.1 dX2_signAt_20 (by decide) ?_
    exact hJ4 _ _ _ _ (if_neg h2).symm hW (lv_sub hl [0, 1] rfl)

def p_X2_orderEndsAt (S : Sv) (ix : Int32) : Int32 :=
  let v4 : Int32 := (if ix = (S 5 1) then 1 else (let x2 : Int32 := p_X2_signAt S ix; (if x2 = 59 then 1 else 0)))
  (v4 : Int32)

set_option maxHeartbeats 4000000 in
set_option maxRecDepth 100000 in
theorem c_X2_orderEndsAt (l : Launch) (E : mE) (μ : Mu) (S : Sv) (ix : Int32) (hp : Bn (S 5 1) 80) (hch : ∀ j, j < 80 → narrow .char (.int (S 6 j)) = .int (S 6 j)) : CtI l E yX2_orderEndsAt cX2_orderEndsAt 2 (some .boolean) 2 43 [.ref (ea E 11 5), .int ix] (fo μ 11 S) (fun x μ' => x = p_X2_orderEndsAt S ix ∧ μ' = (fo μ 11 S)) := by
  refine jMet (by decide +kernel) (Nat.le_of_ble_eq_true rfl) ?_
  intro p e s m below meth c ls F hT hr0 hlk hW hl
  have F : CallFix p m c cX2_orderEndsAt 2 s _ TB RX2 := F
  have hl : lv_has ls 2 [(0, .ref (ea E 11 5)), (1, .int ix)] := hl
  refine lv_iload_n F.1 F.2.1 dX2_orderEndsAt_0 rfl (lv_at hl 1 rfl) ?_
  refine lv_aload_n F.1 F.2.1 dX2_orderEndsAt_1 rfl (lv_at hl 0 rfl) ?_
  refine jget F hT hW fw_X2_19 oH5 (by decide) rfl dX2_orderEndsAt_2 ?_
  have hJ5 : ∀ (v4 : Int32) (H : Heap) (locs : List Loc) (ls : Array Slot), v4 = (if ix = (S 5 1) then 1 else (let x2 : Int32 := p_X2_signAt S ix; (if x2 = 59 then 1 else 0))) → Wd E s H locs (fo μ 11 S) → lv_has ls 2 [(0, .ref (ea E 11 5)), (1, .int ix)] → W p l e (rmO 2 43) s m ([.ref (ea E 11 5), .int ix] : List Value).toArray below meth c H locs 0 0 (MQ below (va_Qi (fun x μ' => x = p_X2_orderEndsAt S ix ∧ μ' = (fo μ 11 S)) (fun μ' t => MB E μ' t.heap) (AA E)) ([.ref (ea E 11 5), .int ix] : List Value).toArray s 0 0 (AA E)) (F0 m 23 ls [.int v4]) := by
    intro v4 H locs ls ev4 hW hl
    have hq : (v4 : Int32) = p_X2_orderEndsAt S ix := by
      subst ev4
      exact (rfl).symm
    exact jri F hr0 hlk hW (znar (by first | assumption | ((try clear hq); subst_vars; (try dsimp only); repeat' (first | exact Or.inl rfl | exact Or.inr rfl | refine iteZ ?_ ?_)))) dX2_orderEndsAt_23 ⟨hq, rfl⟩
  refine lv_icmp_eq (tgt := 18) F.1 F.2.1 dX2_orderEndsAt_5 (by decide) (fun h1 => ?_) (fun h1 => ?_)
  · refine lv_iconst (v := 1) F.1 F.2.1 dX2_orderEndsAt_18 (by decide) ?_
    refine lv_goto (tgt := 23) F.1 F.2.1 dX2_orderEndsAt_19 (by decide) ?_
    exact hJ5 _ _ _ _ (if_pos h1).symm hW (lv_sub hl [0, 1] rfl)
  · refine lv_aload_n F.1 F.2.1 dX2_orderEndsAt_8 rfl (lv_at hl 0 rfl) ?_
    refine lv_iload_n F.1 F.2.1 dX2_orderEndsAt_9 rfl (lv_at hl 1 rfl) ?_
    refine jcip (jrunV (As := [.int ix]) (rest := []) F hT hW yc_X2_signAt yv_X2_signAt ml_X2_45 oH5 (by decide) rfl (c_X2_signAt l E μ S ix (by first | assumption | omega) (by first | assumption | omega)) rfl hl.1 ⟨Nat.le_of_ble_eq_true rfl, Nat.le_of_ble_eq_true rfl⟩ rfl (Nat.le_of_ble_eq_true rfl) ⟨Nat.le_refl _, Nat.le_refl _⟩ dX2_orderEndsAt_10) hW (fun x2 H locs ex2 hW => ?_)
    refine lv_bipush (v := 59) F.1 F.2.1 dX2_orderEndsAt_13 (by decide) ?_
    refine lv_icmp_ne (tgt := 22) F.1 F.2.1 dX2_orderEndsAt_15 (by decide) (fun h3 => ?_) (fun h3 => ?_)
    · refine lv_iconst (v := 0) F.1 F.2.1 dX2_orderEndsAt_22 (by decide) ?_
      subst ex2
      exact hJ5 _ _ _ _ ((if_neg h1).trans (if_neg h3)).symm hW (lv_sub hl [0, 1] rfl)
    · refine lv_iconst (v := 1) F.1 F.2.1 dX2_orderEndsAt_18 (by decide) ?_
      refine lv_goto (tgt := 23) F.1 F.2.1 dX2_orderEndsAt_19 (by decide) ?_
      subst ex2
      exact hJ5 _ _ _ _ ((if_neg h1).trans (if_pos h3)).symm hW (lv_sub hl [0, 1] rfl)

def q_X2_numberBetween_5 (S : Sv) (fr : Nat) (en : Nat) (j : Nat) (σ : Int32) : Int32 :=
  let v1 : Int32 := σ
  let x3 : Int32 := p_X2_signAt S (nI (fr + j))
  ((10 * v1) + x3) - 48
def p_X2_numberBetween (S : Sv) (fr : Nat) (en : Nat) : Int32 :=
  let v1 : Int32 := (itN (q_X2_numberBetween_5 S fr en) (en - fr) (0))
  (v1 : Int32)

set_option maxHeartbeats 4000000 in
set_option maxRecDepth 100000 in
theorem c_X2_numberBetween (l : Launch) (E : mE) (μ : Mu) (S : Sv) (xf : Int32) (fr : Nat) (exf : xf = nI fr) (xe : Int32) (en : Nat) (exe : xe = nI en) (hp : Bn (S 5 1) 80) (hch : ∀ j, j < 80 → narrow .char (.int (S 6 j)) = .int (S 6 j)) (hfe : fr ≤ en) (he : en ≤ 80) : CtI l E yX2_numberBetween cX2_numberBetween 5 (some .int) 2 43 [.ref (ea E 11 5), .int xf, .int xe] (fo μ 11 S) (fun x μ' => x = p_X2_numberBetween S fr en ∧ μ' = (fo μ 11 S)) := by
  subst exf
  subst exe
  refine jMet (by decide +kernel) (Nat.le_of_ble_eq_true rfl) ?_
  intro p e s m below meth c ls F hT hr0 hlk hW hl
  have F : CallFix p m c cX2_numberBetween 5 s _ TB RX2 := F
  have hl : lv_has ls 5 [(0, .ref (ea E 11 5)), (1, .int (nI fr)), (2, .int (nI en))] := hl
  refine lv_iconst (v := 0) F.1 F.2.1 dX2_numberBetween_0 (by decide) ?_
  refine lv_istore_n (lv' := [(3, .int 0), (0, .ref (ea E 11 5)), (1, .int (nI fr)), (2, .int (nI en))]) F.1 F.2.1 dX2_numberBetween_1 rfl hl (by decide) rfl (fun ls hl => ?_)
  refine lv_iload_n F.1 F.2.1 dX2_numberBetween_2 rfl (lv_at hl 2 rfl) ?_
  refine lv_istore (lv' := [(4, .int (nI fr)), (3, .int 0), (0, .ref (ea E 11 5)), (1, .int (nI fr)), (2, .int (nI en))]) F.1 F.2.1 dX2_numberBetween_3 hl (by decide) rfl (fun ls hl => ?_)
  have hL2 : ∀ (fu j : Nat) (v1 : Int32) (H : Heap) (locs : List Loc) (ls : Array Slot), j + fu = en - fr → (v1) = itN (q_X2_numberBetween_5 S fr en) j (0) → Wd E s H locs (fo μ 11 S) → lv_has ls 5 [(4, .int (nI (fr + j))), (3, .int v1), (0, .ref (ea E 11 5)), (1, .int (nI fr)), (2, .int (nI en))] → W p l e (rmO 2 43) s m ([.ref (ea E 11 5), .int (nI fr), .int (nI en)] : List Value).toArray below meth c H locs 0 0 (MQ below (va_Qi (fun x μ' => x = p_X2_numberBetween S fr en ∧ μ' = (fo μ 11 S)) (fun μ' t => MB E μ' t.heap) (AA E)) ([.ref (ea E 11 5), .int (nI fr), .int (nI en)] : List Value).toArray s 0 0 (AA E)) (F0 m 5 ls []) := by
    intro fu
    induction fu with
    | zero =>
      intro j v1 H locs ls hj hs  hW hl
      obtain rfl : j = en - fr := by omega
      have ev1 := hs
      refine lv_iload F.1 F.2.1 dX2_numberBetween_5 (lv_at hl 0 rfl) ?_
      refine lv_iload_n F.1 F.2.1 dX2_numberBetween_7 rfl (lv_at hl 4 rfl) ?_
      refine lv_icmp_ge (tgt := 32) F.1 F.2.1 dX2_numberBetween_8 (by decide) (fun h3 => ?_) (fun h3 => ?_)
      · refine lv_iload_n F.1 F.2.1 dX2_numberBetween_32 rfl (lv_at hl 1 rfl) ?_
        have hq : (v1 : Int32) = p_X2_numberBetween S fr en := by
          subst ev1
          exact (rfl).symm
        exact jri F hr0 hlk hW rfl dX2_numberBetween_33 ⟨hq, rfl⟩
      · exact absurd (c_le rfl rfl (by omega) (by omega)) h3
    | succ fu ih =>
      intro j v1 H locs ls hj hs  hW hl
      refine lv_iload F.1 F.2.1 dX2_numberBetween_5 (lv_at hl 0 rfl) ?_
      refine lv_iload_n F.1 F.2.1 dX2_numberBetween_7 rfl (lv_at hl 4 rfl) ?_
      refine lv_icmp_ge (tgt := 32) F.1 F.2.1 dX2_numberBetween_8 (by decide) (fun h2 => ?_) (fun h2 => ?_)
      · exact absurd h2 (c_nle rfl rfl (by omega) (by omega))
      · refine lv_bipush (v := 10) F.1 F.2.1 dX2_numberBetween_11 (by decide) ?_
        refine lv_iload_n F.1 F.2.1 dX2_numberBetween_13 rfl (lv_at hl 1 rfl) ?_
        refine lv_imul F.1 F.2.1 dX2_numberBetween_14 ?_
        refine lv_aload_n F.1 F.2.1 dX2_numberBetween_15 rfl (lv_at hl 2 rfl) ?_
        refine lv_iload F.1 F.2.1 dX2_numberBetween_16 (lv_at hl 0 rfl) ?_
        refine jcip (jrunV (As := [.int (nI (fr + j))]) (rest := [.int (10 * v1)]) F hT hW yc_X2_signAt yv_X2_signAt ml_X2_45 oH5 (by decide) rfl (c_X2_signAt l E μ S (nI (fr + j)) (by first | assumption | omega) (by first | assumption | omega)) rfl hl.1 ⟨Nat.le_of_ble_eq_true rfl, Nat.le_of_ble_eq_true rfl⟩ rfl (Nat.le_of_ble_eq_true rfl) ⟨Nat.le_refl _, Nat.le_refl _⟩ dX2_numberBetween_18) hW (fun x3 H locs ex3 hW => ?_)
        refine lv_iadd F.1 F.2.1 dX2_numberBetween_21 ?_
        refine lv_bipush (v := 48) F.1 F.2.1 dX2_numberBetween_22 (by decide) ?_
        refine lv_isub F.1 F.2.1 dX2_numberBetween_24 ?_
        refine lv_istore_n (lv' := [(3, .int (((10 * v1) + x3) - 48)), (4, .int (nI (fr + j))), (0, .ref (ea E 11 5)), (1, .int (nI fr)), (2, .int (nI en))]) F.1 F.2.1 dX2_numberBetween_25 rfl hl (by decide) rfl (fun ls hl => ?_)
        refine lv_iinc (v := nI (fr + j + 1)) (lv' := [(4, .int (nI (fr + j + 1))), (3, .int (((10 * v1) + x3) - 48)), (0, .ref (ea E 11 5)), (1, .int (nI fr)), (2, .int (nI en))]) F.1 F.2.1 dX2_numberBetween_26 hl (k := 1) rfl (ia rfl rfl) (by decide) rfl (fun ls hl => ?_)
        refine lv_goto (tgt := 5) F.1 F.2.1 dX2_numberBetween_29 (by decide) ?_
        subst ex3
        exact ih (j + 1) _ _ _ _ (by omega) (by rw [itN_s, ← hs]; exact (rfl).symm) hW (lv_sub hl [0, 1, 2, 3, 4] rfl)
  exact hL2 (en - fr) 0 0 _ _ _ (by omega) rfl hW (lv_sub hl [0, 1, 2, 3, 4] rfl)

theorem lo_le {ch : Int64} : ∀ fu j, j + fu = 8 → Bn (q_X2_lengthOf_2 ch fu j) 8 := by
  intro fu
  induction fu with
  | zero => intro j hj; exact bnI (n := 8) (by decide) (by decide)
  | succ fu ih =>
    intro j hj
    unfold q_X2_lengthOf_2
    dsimp only
    split
    · exact bnI (by omega) (by omega)
    · split
      · exact bnI (n := 0) (by decide) (by decide)
      · exact ih (j + 1) (by omega)

def q_X2_append_39 (S : Sv) (ch : Int64) (x1 : Int32) (j : Nat) (σ : Sv) : Sv :=
  let S5 : Sv := σ
  let S7 : Sv := us S5 6 (cn (S 5 1) + cn x1 - 1 - j) ((((((ch.toUInt64 >>> ((8 * (nI j)).toInt64.toUInt64 &&& Int64.toUInt64 63)).toInt64) &&& 255).toInt32).toUInt32 % 65536).toInt32)
  S7
def p_X2_append (S : Sv) (ch : Int64) : Int32 × Sv :=
  let x1 : Int32 := p_X2_lengthOf ch
  if x1 = 0 then
    (((-2) : Int32), S)
  else
    if ((S 5 1) + x1) ≤ 80 then
      let S4 : Sv := us S 5 1 ((S 5 1) + x1)
      let S5 : Sv := (itN (q_X2_append_39 S ch x1) (cn x1) (S4))
      ((S5 5 1 : Int32), S5)
    else
      (((-4) : Int32), S)

theorem ap_keep {S S0 : Sv} {ch : Int64} {x1 : Int32} : ∀ n p k, ¬ p = 6 → itN (q_X2_append_39 S ch x1) n S0 p k = S0 p k := by
  intro n
  induction n with
  | zero => intro p k _; rfl
  | succ n ih =>
    intro p k hp
    rw [itN_s]
    unfold q_X2_append_39
    dsimp only
    rw [us_ne _ _ (fun z => hp z.1)]
    exact ih p k hp

set_option maxHeartbeats 4000000 in
set_option maxRecDepth 100000 in
theorem c_X2_append (l : Launch) (E : mE) (μ : Mu) (S : Sv) (ch : Int64) (hp : Bn (S 5 1) 80) : CtI l E yX2_append cX2_append 5 (some .int) 2 46 [.ref (ea E 11 5), .long ch] (fo μ 11 S) (fun x μ' => x = (p_X2_append S ch).1 ∧ μ' = fo μ 11 (p_X2_append S ch).2) := by
  refine jMet (by decide +kernel) (Nat.le_of_ble_eq_true rfl) ?_
  intro p e s m below meth c ls F hT hr0 hlk hW hl
  have F : CallFix p m c cX2_append 5 s _ TB RX2 := F
  have hl : lv_has ls 5 [(0, .ref (ea E 11 5)), (1, .long ch)] := hl
  refine lv_lload_n F.1 F.2.1 dX2_append_0 rfl (lv_at hl 1 rfl) ?_
  refine jcip (jrunS (As := [.long ch]) (rest := []) F hT hW yc_X2_lengthOf ys_X2_lengthOf ml_X2_15 (c_X2_lengthOf l E (fo μ 11 S) ch) rfl hl.1 ⟨Nat.le_of_ble_eq_true rfl, Nat.le_of_ble_eq_true rfl⟩ rfl (Nat.le_of_ble_eq_true rfl) ⟨Nat.le_refl _, Nat.le_refl _⟩ dX2_append_1) hW (fun x1 H locs ex1 hW => ?_)
  have hx1 : Bn x1 8 := by rw [ex1]; exact lo_le 8 0 rfl
  have hx2 := hx1.2
  have hp2 := hp.2
  refine lv_istore_n (lv' := [(3, .int x1), (0, .ref (ea E 11 5)), (1, .long ch)]) F.1 F.2.1 dX2_append_4 rfl hl (by decide) rfl (fun ls hl => ?_)
  refine lv_iload_n F.1 F.2.1 dX2_append_5 rfl (lv_at hl 0 rfl) ?_
  refine lv_if_ne (tgt := 12) F.1 F.2.1 dX2_append_6 (by decide) (fun h2 => ?_) (fun h2 => ?_)
  · refine lv_aload_n F.1 F.2.1 dX2_append_12 rfl (lv_at hl 1 rfl) ?_
    refine jget F hT hW fw_X2_19 oH5 (by decide) rfl dX2_append_13 ?_
    refine lv_iload_n F.1 F.2.1 dX2_append_16 rfl (lv_at hl 0 rfl) ?_
    refine lv_iadd F.1 F.2.1 dX2_append_17 ?_
    refine lv_bipush (v := 80) F.1 F.2.1 dX2_append_18 (by decide) ?_
    refine lv_icmp_le (tgt := 26) F.1 F.2.1 dX2_append_20 (by decide) (fun h3 => ?_) (fun h3 => ?_)
    · have h80 := c_ge (ia hp.1 hx1.1) (lI 80) (by assumption) (by omega)
      refine lv_aload_n F.1 F.2.1 dX2_append_26 rfl (lv_at hl 1 rfl) ?_
      refine lv_dup F.1 F.2.1 dX2_append_27 rfl ?_
      refine jget F hT hW fw_X2_19 oH5 (by decide) rfl dX2_append_28 ?_
      refine lv_iload_n F.1 F.2.1 dX2_append_31 rfl (lv_at hl 0 rfl) ?_
      refine lv_iadd F.1 F.2.1 dX2_append_32 ?_
      refine jput F hT hW fw_X2_19 ft_2_1 oH5 (by decide) (by decide) rfl rfl rfl dX2_append_33 (fun S4 H locs eS4 hW => ?_)
      have hS51 : S4 5 1 = nI (cn (S 5 1) + cn x1) := by rw [eS4, us_at]; exact ia hp.1 hx1.1
      refine lv_iconst (v := 0) F.1 F.2.1 dX2_append_36 (by decide) ?_
      refine lv_istore (lv' := [(4, .int 0), (3, .int x1), (0, .ref (ea E 11 5)), (1, .long ch)]) F.1 F.2.1 dX2_append_37 hl (by decide) rfl (fun ls hl => ?_)
      have hL6 : ∀ (fu j : Nat) (S5 : Sv) (H : Heap) (locs : List Loc) (ls : Array Slot), j + fu = cn x1 → (S5) = itN (q_X2_append_39 S ch x1) j (S4) → Wd E s H locs (fo μ 11 S5) → lv_has ls 5 [(4, .int (nI j)), (3, .int x1), (0, .ref (ea E 11 5)), (1, .long ch)] → W p l e (rmO 2 46) s m ([.ref (ea E 11 5), .long ch] : List Value).toArray below meth c H locs 0 0 (MQ below (va_Qi (fun x μ' => x = (p_X2_append S ch).1 ∧ μ' = fo μ 11 (p_X2_append S ch).2) (fun μ' t => MB E μ' t.heap) (AA E)) ([.ref (ea E 11 5), .long ch] : List Value).toArray s 0 0 (AA E)) (F0 m 39 ls []) := by
        intro fu
        induction fu with
        | zero =>
          intro j S5 H locs ls hj hs  hW hl
          obtain rfl : j = cn x1 := by omega
          have eS5 := hs
          refine lv_iload F.1 F.2.1 dX2_append_39 (lv_at hl 0 rfl) ?_
          refine lv_iload_n F.1 F.2.1 dX2_append_41 rfl (lv_at hl 1 rfl) ?_
          refine lv_icmp_ge (tgt := 78) F.1 F.2.1 dX2_append_42 (by decide) (fun h7 => ?_) (fun h7 => ?_)
          · refine lv_aload_n F.1 F.2.1 dX2_append_78 rfl (lv_at hl 2 rfl) ?_
            refine jget F hT hW fw_X2_19 oH5 (by decide) rfl dX2_append_79 ?_
            have hq : ((S5 5 1 : Int32), S5) = p_X2_append S ch := by
              subst eS5
              subst eS4
              subst ex1
              exact ((if_neg h2).trans (if_pos h3)).symm
            exact jri F hr0 hlk hW rfl dX2_append_82 ⟨congrArg Prod.fst hq, congrArg (fun z => fo μ 11 z.2) hq⟩
          · exact absurd (c_le hx1.1 rfl (by omega) (by omega)) h7
        | succ fu ih =>
          intro j S5 H locs ls hj hs  hW hl
          have hk : S5 5 1 = S4 5 1 := by rw [hs]; exact ap_keep _ 5 1 (by decide)
          refine lv_iload F.1 F.2.1 dX2_append_39 (lv_at hl 0 rfl) ?_
          refine lv_iload_n F.1 F.2.1 dX2_append_41 rfl (lv_at hl 1 rfl) ?_
          refine lv_icmp_ge (tgt := 78) F.1 F.2.1 dX2_append_42 (by decide) (fun h6 => ?_) (fun h6 => ?_)
          · exact absurd h6 (c_nle hx1.1 rfl (by omega) (by omega))
          · refine lv_aload_n F.1 F.2.1 dX2_append_45 rfl (lv_at hl 2 rfl) ?_
            refine jgetR F hT hW fw_X2_9 oH5 (by decide) rfl dX2_append_46 ?_
            refine lv_aload_n F.1 F.2.1 dX2_append_49 rfl (lv_at hl 2 rfl) ?_
            refine jget F hT hW fw_X2_19 oH5 (by decide) rfl dX2_append_50 ?_
            refine lv_iconst (v := 1) F.1 F.2.1 dX2_append_53 (by decide) ?_
            refine lv_isub F.1 F.2.1 dX2_append_54 ?_
            refine lv_iload F.1 F.2.1 dX2_append_55 (lv_at hl 0 rfl) ?_
            refine lv_isub F.1 F.2.1 dX2_append_57 ?_
            refine lv_lload_n F.1 F.2.1 dX2_append_58 rfl (lv_at hl 3 rfl) ?_
            refine lv_bipush (v := 8) F.1 F.2.1 dX2_append_59 (by decide) ?_
            refine lv_iload F.1 F.2.1 dX2_append_61 (lv_at hl 0 rfl) ?_
            refine lv_imul F.1 F.2.1 dX2_append_63 ?_
            refine lv_lushr F.1 F.2.1 dX2_append_64 rfl ?_
            refine lv_ldc2 (v := 255) F.1 F.2.1 F.2.2.2.1 (F.2.2.2.2 _ wl_X2_23) dX2_append_65 ?_
            refine lv_land F.1 F.2.1 dX2_append_68 ?_
            refine lv_l2i F.1 F.2.1 dX2_append_69 rfl ?_
            refine lv_i2c F.1 F.2.1 dX2_append_70 rfl ?_
            refine jcast F hT hW (cn (S 5 1) + cn x1 - 1 - j) oH6 (by decide) (by omega) (by decide) (isb (isb (hk.trans hS51) (lI 1) (by omega)) rfl (by omega)) rfl (pk_nc _) dX2_append_71 (fun S7 H locs eS7 hW => ?_)
            refine lv_iinc (v := nI (j + 1)) (lv' := [(4, .int (nI (j + 1))), (3, .int x1), (0, .ref (ea E 11 5)), (1, .long ch)]) F.1 F.2.1 dX2_append_72 hl (k := 0) rfl (ia rfl rfl) (by decide) rfl (fun ls hl => ?_)
            refine lv_goto (tgt := 39) F.1 F.2.1 dX2_append_75 (by decide) ?_
            subst eS7
            exact ih (j + 1) _ _ _ _ (by omega) (by rw [itN_s, ← hs]; exact (rfl).symm) hW (lv_sub hl [0, 1, 2, 3] rfl)
      exact hL6 (cn x1) 0 S4 _ _ _ (by omega) rfl hW (lv_sub hl [0, 1, 2, 3] rfl)
    · refine lv_bipush (v := (-4)) F.1 F.2.1 dX2_append_23 (by decide) ?_
      have hq : (((-4) : Int32), S) = p_X2_append S ch := by
        subst ex1
        exact ((if_neg h2).trans (if_neg h3)).symm
      exact jri F hr0 hlk hW rfl dX2_append_25 ⟨congrArg Prod.fst hq, congrArg (fun z => fo μ 11 z.2) hq⟩
  · refine lv_bipush (v := (-2)) F.1 F.2.1 dX2_append_9 (by decide) ?_
    have hq : (((-2) : Int32), S) = p_X2_append S ch := by
      subst ex1
      exact (if_pos h2).symm
    exact jri F hr0 hlk hW rfl dX2_append_11 ⟨congrArg Prod.fst hq, congrArg (fun z => fo μ 11 z.2) hq⟩

