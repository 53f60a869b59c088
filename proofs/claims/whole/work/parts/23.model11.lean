/-! the reference: a text -/
def Fo (S : Sv) (j : Nat) : Prop := Pk S ∧ Bn (S 0 10) 27 ∧ (S 0 12 = 0 → 3 * cn (S 0 10) ≤ cn (S 0 11) + 1 ∧ 3 * (j + 1) ≤ cn (S 0 11) + 1)
theorem fo_w {S S' : Sv} {j : Nat} (h : Fo S j) (h7 : S' 0 7 = S 0 7) (h10 : S' 0 10 = S 0 10) (h11 : S' 0 11 = S 0 11) (hz : ¬ S' 0 12 = 0) : Fo S' (j + 1) := ⟨h.1.same h7 h11, by rw [h10]; exact h.2.1, fun q => absurd q hz⟩
theorem fo_d {S T : Sv} {j : Nat} (h : Fo S j) (h12 : S 0 12 = 0) (hs : p_X7_sign S = 59) (h7 : T 0 7 = S 0 7) (h10 : T 0 10 = S 0 10) (h11 : T 0 11 = S 0 11 + 1) : Rd T ∧ Fo (p_X7_readOne T) (j + 1) := by
  obtain ⟨hp, hm, hf⟩ := h
  obtain ⟨h1, h2⟩ := hf h12
  obtain ⟨h3, h4⟩ := hp.inc (S' := T) (by rw [hs]; decide) h7 h11
  have hr : Rd T := ⟨h3, by rw [h10]; exact hm, by rw [h10, h4]; exact h1⟩
  obtain ⟨a, b, c, d⟩ := readOne_pk hr
  refine ⟨hr, a, b, fun q => ?_⟩
  obtain ⟨e, f⟩ := d q
  rw [f, h10]
  omega
theorem fo_0 {T : Sv} (h7 : Bn (T 0 7) 80) (h10 : T 0 10 = 0) (h11 : T 0 11 = 0) : Rd T ∧ Fo (p_X7_readOne T) 0 := by
  have e0 : cn (T 0 11) = 0 := by rw [h11]; rfl
  have e1 : cn (T 0 10) = 0 := by rw [h10]; rfl
  have hr : Rd T := ⟨⟨h7, by rw [h11]; exact bnI (n := 0) (by decide) (by decide), by omega⟩, by rw [h10]; exact bnI (n := 0) (by decide) (by decide), by omega⟩
  obtain ⟨a, b, c, d⟩ := readOne_pk hr
  refine ⟨hr, a, b, fun q => ?_⟩
  obtain ⟨e, f⟩ := d q
  rw [f]
  omega

def q_X7_faultOf_19 (S : Sv) : Nat → Nat → Sv → Int32 × Sv
  | 0, j, S5 =>
    let v11 : Int32 := (if (S5 0 12) = 0 then (-6) else S5 0 11)
    ((v11 : Int32), S5)
  | fu + 1, j, S5 =>
    if (S5 0 12) = 0 then
      if (S5 0 7) ≤ (S5 0 11) then
        let v12 : Int32 := (if (S5 0 12) = 0 then (-6) else S5 0 11)
        ((v12 : Int32), S5)
      else
        let x14 : Int32 := p_X7_sign S5
        let v16 : Int32 := (if x14 = 59 then 0 else 1)
        let S18 : Sv := us S5 0 12 v16
        if (S18 0 12) = 0 then
          let S20 : Sv := us S18 0 11 ((S18 0 11) + 1)
          let S21 : Sv := p_X7_readOne S20
          q_X7_faultOf_19 S fu (j + 1) S21
        else
          q_X7_faultOf_19 S fu (j + 1) S18
    else
      let v8 : Int32 := (if (S5 0 12) = 0 then (-6) else S5 0 11)
      ((v8 : Int32), S5)
def p_X7_faultOf (S : Sv) : Int32 × Sv :=
  let S1 : Sv := us S 0 11 0
  let S2 : Sv := us S1 0 10 0
  let S3 : Sv := us S2 0 12 0
  let S4 : Sv := p_X7_readOne S3
  q_X7_faultOf_19 S 27 0 S4

set_option maxHeartbeats 4000000 in
set_option maxRecDepth 100000 in
theorem c_X7_faultOf (l : Launch) (E : mE) (μ : Mu) (S : Sv) (hsg : Bn (S 0 7) 80) : CtI l E yX7_faultOf cX7_faultOf 1 (some .int) 4 88 [.ref (ea E 13 0)] (fo μ 13 S) (fun x μ' => x = (p_X7_faultOf S).1 ∧ μ' = fo μ 13 (p_X7_faultOf S).2) := by
  refine jMet (by decide +kernel) (Nat.le_of_ble_eq_true rfl) ?_
  intro p e s m below meth c ls F hT hr0 hlk hW hl
  have F : CallFix p m c cX7_faultOf 1 s _ TB RX7 := F
  have hl : lv_has ls 1 [(0, .ref (ea E 13 0))] := hl
  refine lv_aload_n F.1 F.2.1 dX7_faultOf_0 rfl (lv_at hl 0 rfl) ?_
  refine lv_iconst (v := 0) F.1 F.2.1 dX7_faultOf_1 (by decide) ?_
  refine jput F hT hW fw_X7_123 ft_7_11 oM0 (by decide) (by decide) rfl rfl rfl dX7_faultOf_2 (fun S1 H locs eS1 hW => ?_)
  refine lv_aload_n F.1 F.2.1 dX7_faultOf_5 rfl (lv_at hl 0 rfl) ?_
  refine lv_iconst (v := 0) F.1 F.2.1 dX7_faultOf_6 (by decide) ?_
  refine jput F hT hW fw_X7_135 ft_7_10 oM0 (by decide) (by decide) rfl rfl rfl dX7_faultOf_7 (fun S2 H locs eS2 hW => ?_)
  refine lv_aload_n F.1 F.2.1 dX7_faultOf_10 rfl (lv_at hl 0 rfl) ?_
  refine lv_iconst (v := 0) F.1 F.2.1 dX7_faultOf_11 (by decide) ?_
  refine jput F hT hW fw_X7_129 ft_7_12 oM0 (by decide) (by decide) rfl (znar (Or.inl rfl)) (zfit (Or.inl rfl)) dX7_faultOf_12 (fun S3 H locs eS3 hW => ?_)
  obtain ⟨rd0, fo0⟩ := fo_0 (T := S3) (by rw [eS3, us_ne _ _ (by decide), eS2, us_ne _ _ (by decide), eS1, us_ne _ _ (by decide)]; exact hsg) (by rw [eS3, us_ne _ _ (by decide), eS2, us_at]) (by rw [eS3, us_ne _ _ (by decide), eS2, us_ne _ _ (by decide), eS1, us_at])
  refine lv_aload_n F.1 F.2.1 dX7_faultOf_15 rfl (lv_at hl 0 rfl) ?_
  refine jcvf (jrunV (As := []) (rest := []) F hT hW yc_X7_readOne yv_X7_readOne ml_X7_141 oM0 (by decide) rfl (c_X7_readOne l E μ S3 rd0) rfl hl.1 ⟨Nat.le_of_ble_eq_true rfl, Nat.le_of_ble_eq_true rfl⟩ rfl (Nat.le_of_ble_eq_true rfl) ⟨Nat.le_refl _, Nat.le_refl _⟩ dX7_faultOf_16) hW (fun S4 H locs eS4 hW => ?_)
  rw [← eS4] at fo0
  have hL6 : ∀ (fu j : Nat) (S5 : Sv) (H : Heap) (locs : List Loc) (ls : Array Slot), j + fu = 27 → p_X7_faultOf S = q_X7_faultOf_19 S fu j S5 → Fo S5 j → Wd E s H locs (fo μ 13 S5) → lv_has ls 1 [(0, .ref (ea E 13 0))] → W p l e (rmO 4 88) s m ([.ref (ea E 13 0)] : List Value).toArray below meth c H locs 0 0 (MQ below (va_Qi (fun x μ' => x = (p_X7_faultOf S).1 ∧ μ' = fo μ 13 (p_X7_faultOf S).2) (fun μ' t => MB E μ' t.heap) (AA E)) ([.ref (ea E 13 0)] : List Value).toArray s 0 0 (AA E)) (F0 m 19 ls []) := by
    intro fu
    induction fu with
    | zero =>
      intro j S5 H locs ls hj hres fox hW hl
      refine lv_aload_n F.1 F.2.1 dX7_faultOf_19 rfl (lv_at hl 0 rfl) ?_
      refine jget F hT hW fw_X7_129 oM0 (by decide) rfl dX7_faultOf_20 ?_
      have hJ9 : ∀ (H : Heap) (locs : List Loc) (ls : Array Slot), Wd E s H locs (fo μ 13 S5) → lv_has ls 1 [(0, .ref (ea E 13 0))] → W p l e (rmO 4 88) s m ([.ref (ea E 13 0)] : List Value).toArray below meth c H locs 0 0 (MQ below (va_Qi (fun x μ' => x = (p_X7_faultOf S).1 ∧ μ' = fo μ 13 (p_X7_faultOf S).2) (fun μ' t => MB E μ' t.heap) (AA E)) ([.ref (ea E 13 0)] : List Value).toArray s 0 0 (AA E)) (F0 m 79 ls []) := by
        intro H locs ls hW hl
        refine lv_aload_n F.1 F.2.1 dX7_faultOf_79 rfl (lv_at hl 0 rfl) ?_
        refine jget F hT hW fw_X7_129 oM0 (by decide) rfl dX7_faultOf_80 ?_
        have hJ12 : ∀ (v11 : Int32) (H : Heap) (locs : List Loc) (ls : Array Slot), v11 = (if (S5 0 12) = 0 then (-6) else S5 0 11) → Wd E s H locs (fo μ 13 S5) → lv_has ls 1 [(0, .ref (ea E 13 0))] → W p l e (rmO 4 88) s m ([.ref (ea E 13 0)] : List Value).toArray below meth c H locs 0 0 (MQ below (va_Qi (fun x μ' => x = (p_X7_faultOf S).1 ∧ μ' = fo μ 13 (p_X7_faultOf S).2) (fun μ' t => MB E μ' t.heap) (AA E)) ([.ref (ea E 13 0)] : List Value).toArray s 0 0 (AA E)) (F0 m 95 ls [.int v11]) := by
          intro v11 H locs ls ev11 hW hl
          have hq : ((v11 : Int32), S5) = p_X7_faultOf S := by
            subst ev11
            exact (hres).symm
          exact jri F hr0 hlk hW rfl dX7_faultOf_95 ⟨congrArg Prod.fst hq, congrArg (fun z => fo μ 13 z.2) hq⟩
        refine lv_if_eq (tgt := 93) F.1 F.2.1 dX7_faultOf_83 (by decide) (fun h10 => ?_) (fun h10 => ?_)
        · refine lv_bipush (v := (-6)) F.1 F.2.1 dX7_faultOf_93 (by decide) ?_
          exact hJ12 _ _ _ _ (if_pos h10).symm hW (lv_sub hl [0] rfl)
        · refine lv_aload_n F.1 F.2.1 dX7_faultOf_86 rfl (lv_at hl 0 rfl) ?_
          refine jget F hT hW fw_X7_123 oM0 (by decide) rfl dX7_faultOf_87 ?_
          refine lv_goto (tgt := 95) F.1 F.2.1 dX7_faultOf_90 (by decide) ?_
          exact hJ12 _ _ _ _ (if_neg h10).symm hW (lv_sub hl [0] rfl)
      refine lv_if_ne (tgt := 79) F.1 F.2.1 dX7_faultOf_23 (by decide) (fun h7 => ?_) (fun h7 => ?_)
      · exact hJ9 _ _ _ hW (lv_sub hl [0] rfl)
      · obtain ⟨hf1, hf2⟩ := fox.2.2 (by assumption)
        have h801 := fox.1.2.1.2
        have h807 := fox.1.1.2
        have hle := fox.1.2.2
        refine lv_aload_n F.1 F.2.1 dX7_faultOf_26 rfl (lv_at hl 0 rfl) ?_
        refine jget F hT hW fw_X7_123 oM0 (by decide) rfl dX7_faultOf_27 ?_
        refine lv_aload_n F.1 F.2.1 dX7_faultOf_30 rfl (lv_at hl 0 rfl) ?_
        refine jget F hT hW fw_X7_108 oM0 (by decide) rfl dX7_faultOf_31 ?_
        refine lv_icmp_ge (tgt := 79) F.1 F.2.1 dX7_faultOf_34 (by decide) (fun h8 => ?_) (fun h8 => ?_)
        · exact hJ9 _ _ _ hW (lv_sub hl [0] rfl)
        · exact absurd (c_le fox.1.1.1 fox.1.2.1.1 (by omega) (by omega)) h8
    | succ fu ih =>
      intro j S5 H locs ls hj hres fox hW hl
      refine lv_aload_n F.1 F.2.1 dX7_faultOf_19 rfl (lv_at hl 0 rfl) ?_
      refine jget F hT hW fw_X7_129 oM0 (by decide) rfl dX7_faultOf_20 ?_
      refine lv_if_ne (tgt := 79) F.1 F.2.1 dX7_faultOf_23 (by decide) (fun h6 => ?_) (fun h6 => ?_)
      · refine lv_aload_n F.1 F.2.1 dX7_faultOf_79 rfl (lv_at hl 0 rfl) ?_
        refine jget F hT hW fw_X7_129 oM0 (by decide) rfl dX7_faultOf_80 ?_
        have hJ9 : ∀ (v8 : Int32) (H : Heap) (locs : List Loc) (ls : Array Slot), v8 = (if (S5 0 12) = 0 then (-6) else S5 0 11) → Wd E s H locs (fo μ 13 S5) → lv_has ls 1 [(0, .ref (ea E 13 0))] → W p l e (rmO 4 88) s m ([.ref (ea E 13 0)] : List Value).toArray below meth c H locs 0 0 (MQ below (va_Qi (fun x μ' => x = (p_X7_faultOf S).1 ∧ μ' = fo μ 13 (p_X7_faultOf S).2) (fun μ' t => MB E μ' t.heap) (AA E)) ([.ref (ea E 13 0)] : List Value).toArray s 0 0 (AA E)) (F0 m 95 ls [.int v8]) := by
          intro v8 H locs ls ev8 hW hl
          have hq : ((v8 : Int32), S5) = p_X7_faultOf S := by
            subst ev8
            exact ((hres).trans (if_neg h6)).symm
          exact jri F hr0 hlk hW rfl dX7_faultOf_95 ⟨congrArg Prod.fst hq, congrArg (fun z => fo μ 13 z.2) hq⟩
        refine lv_if_eq (tgt := 93) F.1 F.2.1 dX7_faultOf_83 (by decide) (fun h7 => ?_) (fun h7 => ?_)
        · refine lv_bipush (v := (-6)) F.1 F.2.1 dX7_faultOf_93 (by decide) ?_
          exact hJ9 _ _ _ _ (if_pos h7).symm hW (lv_sub hl [0] rfl)
        · refine lv_aload_n F.1 F.2.1 dX7_faultOf_86 rfl (lv_at hl 0 rfl) ?_
          refine jget F hT hW fw_X7_123 oM0 (by decide) rfl dX7_faultOf_87 ?_
          refine lv_goto (tgt := 95) F.1 F.2.1 dX7_faultOf_90 (by decide) ?_
          exact hJ9 _ _ _ _ (if_neg h7).symm hW (lv_sub hl [0] rfl)
      · obtain ⟨hf1, hf2⟩ := fox.2.2 (by assumption)
        have h801 := fox.1.2.1.2
        have h807 := fox.1.1.2
        have hle := fox.1.2.2
        refine lv_aload_n F.1 F.2.1 dX7_faultOf_26 rfl (lv_at hl 0 rfl) ?_
        refine jget F hT hW fw_X7_123 oM0 (by decide) rfl dX7_faultOf_27 ?_
        refine lv_aload_n F.1 F.2.1 dX7_faultOf_30 rfl (lv_at hl 0 rfl) ?_
        refine jget F hT hW fw_X7_108 oM0 (by decide) rfl dX7_faultOf_31 ?_
        refine lv_icmp_ge (tgt := 79) F.1 F.2.1 dX7_faultOf_34 (by decide) (fun h10 => ?_) (fun h10 => ?_)
        · refine lv_aload_n F.1 F.2.1 dX7_faultOf_79 rfl (lv_at hl 0 rfl) ?_
          refine jget F hT hW fw_X7_129 oM0 (by decide) rfl dX7_faultOf_80 ?_
          have hJ13 : ∀ (v12 : Int32) (H : Heap) (locs : List Loc) (ls : Array Slot), v12 = (if (S5 0 12) = 0 then (-6) else S5 0 11) → Wd E s H locs (fo μ 13 S5) → lv_has ls 1 [(0, .ref (ea E 13 0))] → W p l e (rmO 4 88) s m ([.ref (ea E 13 0)] : List Value).toArray below meth c H locs 0 0 (MQ below (va_Qi (fun x μ' => x = (p_X7_faultOf S).1 ∧ μ' = fo μ 13 (p_X7_faultOf S).2) (fun μ' t => MB E μ' t.heap) (AA E)) ([.ref (ea E 13 0)] : List Value).toArray s 0 0 (AA E)) (F0 m 95 ls [.int v12]) := by
            intro v12 H locs ls ev12 hW hl
            have hq : ((v12 : Int32), S5) = p_X7_faultOf S := by
              subst ev12
              exact ((hres).trans ((if_pos h6).trans (if_pos h10))).symm
            exact jri F hr0 hlk hW rfl dX7_faultOf_95 ⟨congrArg Prod.fst hq, congrArg (fun z => fo μ 13 z.2) hq⟩
          refine lv_if_eq (tgt := 93) F.1 F.2.1 dX7_faultOf_83 (by decide) (fun h11 => ?_) (fun h11 => ?_)
          · refine lv_bipush (v := (-6)) F.1 F.2.1 dX7_faultOf_93 (by decide) ?_
            exact hJ13 _ _ _ _ (if_pos h11).symm hW (lv_sub hl [0] rfl)
          · refine lv_aload_n F.1 F.2.1 dX7_faultOf_86 rfl (lv_at hl 0 rfl) ?_
            refine jget F hT hW fw_X7_123 oM0 (by decide) rfl dX7_faultOf_87 ?_
            refine lv_goto (tgt := 95) F.1 F.2.1 dX7_faultOf_90 (by decide) ?_
            exact hJ13 _ _ _ _ (if_neg h11).symm hW (lv_sub hl [0] rfl)
        · refine lv_aload_n F.1 F.2.1 dX7_faultOf_37 rfl (lv_at hl 0 rfl) ?_
          refine lv_aload_n F.1 F.2.1 dX7_faultOf_38 rfl (lv_at hl 0 rfl) ?_
          refine jcip (jrunV (As := []) (rest := [.ref (ea E 13 0)]) F hT hW yc_X7_sign yv_X7_sign ml_X7_126 oM0 (by decide) rfl (c_X7_sign l E μ S5 fox.1) rfl hl.1 ⟨Nat.le_of_ble_eq_true rfl, Nat.le_of_ble_eq_true rfl⟩ rfl (Nat.le_of_ble_eq_true rfl) ⟨Nat.le_refl _, Nat.le_refl _⟩ dX7_faultOf_39) hW (fun x14 H locs ex14 hW => ?_)
          refine lv_bipush (v := 59) F.1 F.2.1 dX7_faultOf_42 (by decide) ?_
          have hJ17 : ∀ (v16 : Int32) (H : Heap) (locs : List Loc) (ls : Array Slot), v16 = (if x14 = 59 then 0 else 1) → Wd E s H locs (fo μ 13 S5) → lv_has ls 1 [(0, .ref (ea E 13 0))] → W p l e (rmO 4 88) s m ([.ref (ea E 13 0)] : List Value).toArray below meth c H locs 0 0 (MQ below (va_Qi (fun x μ' => x = (p_X7_faultOf S).1 ∧ μ' = fo μ 13 (p_X7_faultOf S).2) (fun μ' t => MB E μ' t.heap) (AA E)) ([.ref (ea E 13 0)] : List Value).toArray s 0 0 (AA E)) (F0 m 52 ls [.int v16, .ref (ea E 13 0)]) := by
            intro v16 H locs ls ev16 hW hl
            refine jput F hT hW fw_X7_129 ft_7_12 oM0 (by decide) (by decide) rfl (znar (by first | assumption | ((try clear hq); subst_vars; (try dsimp only); repeat' (first | exact Or.inl rfl | exact Or.inr rfl | refine iteZ ?_ ?_)))) (zfit (by first | assumption | ((try clear hq); subst_vars; (try dsimp only); repeat' (first | exact Or.inl rfl | exact Or.inr rfl | refine iteZ ?_ ?_)))) dX7_faultOf_52 (fun S18 H locs eS18 hW => ?_)
            have hs12 : S18 0 12 = v16 := by rw [eS18]; exact us_at _ _ _ _
            refine lv_aload_n F.1 F.2.1 dX7_faultOf_55 rfl (lv_at hl 0 rfl) ?_
            refine jget F hT hW fw_X7_129 oM0 (by decide) rfl dX7_faultOf_56 ?_
            refine lv_if_ne (tgt := 19) F.1 F.2.1 dX7_faultOf_59 (by decide) (fun h19 => ?_) (fun h19 => ?_)
            · subst eS18
              subst ev16
              subst ex14
              exact ih (j + 1) _ _ _ _ (by omega) (hres.trans ((if_pos h6).trans ((if_neg h10).trans (if_neg h19)))) (by first | exact fon | exact fo_w fox (us_ne _ _ (by decide)) (us_ne _ _ (by decide)) (us_ne _ _ (by decide)) (by assumption)) hW (lv_sub hl [0] rfl)
            · have hs59 : p_X7_sign S5 = 59 := by
                have q : S18 0 12 = 0 := by assumption
                rw [hs12, ev16, ex14] at q
                by_cases hq9 : p_X7_sign S5 = 59
                · exact hq9
                · rw [if_neg hq9] at q; exact absurd q (by decide)
              refine lv_aload_n F.1 F.2.1 dX7_faultOf_62 rfl (lv_at hl 0 rfl) ?_
              refine lv_dup F.1 F.2.1 dX7_faultOf_63 rfl ?_
              refine jget F hT hW fw_X7_123 oM0 (by decide) rfl dX7_faultOf_64 ?_
              refine lv_iconst (v := 1) F.1 F.2.1 dX7_faultOf_67 (by decide) ?_
              refine lv_iadd F.1 F.2.1 dX7_faultOf_68 ?_
              refine jput F hT hW fw_X7_123 ft_7_11 oM0 (by decide) (by decide) rfl rfl rfl dX7_faultOf_69 (fun S20 H locs eS20 hW => ?_)
              obtain ⟨rdn, fon⟩ := fo_d (T := S20) fox (by assumption) hs59 (by rw [eS20, us_ne _ _ (by decide), eS18, us_ne _ _ (by decide)]) (by rw [eS20, us_ne _ _ (by decide), eS18, us_ne _ _ (by decide)]) (by rw [eS20, us_at, eS18, us_ne _ _ (by decide)])
              refine lv_aload_n F.1 F.2.1 dX7_faultOf_72 rfl (lv_at hl 0 rfl) ?_
              refine jcvf (jrunV (As := []) (rest := []) F hT hW yc_X7_readOne yv_X7_readOne ml_X7_141 oM0 (by decide) rfl (c_X7_readOne l E μ S20 rdn) rfl hl.1 ⟨Nat.le_of_ble_eq_true rfl, Nat.le_of_ble_eq_true rfl⟩ rfl (Nat.le_of_ble_eq_true rfl) ⟨Nat.le_refl _, Nat.le_refl _⟩ dX7_faultOf_73) hW (fun S21 H locs eS21 hW => ?_)
              rw [← eS21] at fon
              refine lv_goto (tgt := 19) F.1 F.2.1 dX7_faultOf_76 (by decide) ?_
              subst eS21
              subst eS20
              subst eS18
              subst ev16
              subst ex14
              exact ih (j + 1) _ _ _ _ (by omega) (hres.trans ((if_pos h6).trans ((if_neg h10).trans (if_pos h19)))) (by first | exact fon | exact fo_w fox (us_ne _ _ (by decide)) (us_ne _ _ (by decide)) (us_ne _ _ (by decide)) (by assumption)) hW (lv_sub hl [0] rfl)
          refine lv_icmp_eq (tgt := 51) F.1 F.2.1 dX7_faultOf_44 (by decide) (fun h15 => ?_) (fun h15 => ?_)
          · refine lv_iconst (v := 0) F.1 F.2.1 dX7_faultOf_51 (by decide) ?_
            exact hJ17 _ _ _ _ (if_pos h15).symm hW (lv_sub hl [0] rfl)
          · refine lv_iconst (v := 1) F.1 F.2.1 dX7_faultOf_47 (by decide) ?_
            refine lv_goto (tgt := 52) F.1 F.2.1 dX7_faultOf_48 (by decide) ?_
            exact hJ17 _ _ _ _ (if_neg h15).symm hW (lv_sub hl [0] rfl)
  exact hL6 27 0 S4 _ _ _ (by omega) (by subst eS4; subst eS3; subst eS2; subst eS1; exact rfl) fo0 hW (lv_sub hl [0] rfl)

theorem fa_pk {S : Sv} : ∀ fu j (S2 : Sv), Fo S2 j → Pk (q_X7_faultOf_19 S fu j S2).2 ∧ Bn ((q_X7_faultOf_19 S fu j S2).2 0 10) 27 := by
  intro fu
  induction fu with
  | zero => intro j S2 h; exact ⟨h.1, h.2.1⟩
  | succ fu ih =>
    intro j S2 h
    unfold q_X7_faultOf_19
    dsimp only
    split
    · next h12 =>
      split
      · exact ⟨h.1, h.2.1⟩
      · generalize hv : (if p_X7_sign S2 = 59 then (0 : Int32) else 1) = v
        have e12 : us S2 0 12 v 0 12 = v := us_at _ _ _ _
        split
        · next hz =>
          have hs : p_X7_sign S2 = 59 := by
            by_cases hq9 : p_X7_sign S2 = 59
            · exact hq9
            · rw [if_neg hq9] at hv
              rw [e12, ← hv] at hz
              exact absurd hz (by decide)
          exact ih _ _ (fo_d (T := us (us S2 0 12 v) 0 11 (us S2 0 12 v 0 11 + 1)) h h12 hs (by rw [us_ne _ _ (by decide), us_ne _ _ (by decide)]) (by rw [us_ne _ _ (by decide), us_ne _ _ (by decide)]) (by rw [us_at, us_ne _ _ (by decide)])).2
        · next hz => exact ih _ _ (fo_w h (us_ne _ _ (by decide)) (us_ne _ _ (by decide)) (us_ne _ _ (by decide)) hz)
    · exact ⟨h.1, h.2.1⟩
theorem faultOf_pk {S : Sv} (h : Bn (S 0 7) 80) : Pk (p_X7_faultOf S).2 ∧ Bn ((p_X7_faultOf S).2 0 10) 27 :=
  fa_pk _ _ _ (fo_0 (T := us (us (us S 0 11 0) 0 10 0) 0 12 0) (by rw [us_ne _ _ (by decide), us_ne _ _ (by decide), us_ne _ _ (by decide)]; exact h) (by rw [us_ne _ _ (by decide), us_at]) (by rw [us_ne _ _ (by decide), us_ne _ _ (by decide), us_at])).2
theorem fa_f {S : Sv} {p k : Nat} (h1 : ¬ p = 7) (h2 : ¬ (p = 0 ∧ (k = 10 ∨ k = 11 ∨ k = 12))) : ∀ fu j (S2 : Sv), (q_X7_faultOf_19 S fu j S2).2 p k = S2 p k := by
  intro fu
  induction fu with
  | zero => intro j S2; rfl
  | succ fu ih =>
    intro j S2
    unfold q_X7_faultOf_19
    dsimp only
    repeat' split
    all_goals first | rfl | (rw [ih, readOne_f h1 h2, us_ne _ _ (by omega), us_ne _ _ (by omega)]; done) | (rw [ih, us_ne _ _ (by omega)]; done)
theorem faultOf_f {S : Sv} {p k : Nat} (h1 : ¬ p = 7) (h2 : ¬ (p = 0 ∧ (k = 10 ∨ k = 11 ∨ k = 12))) : (p_X7_faultOf S).2 p k = S p k :=
  (fa_f h1 h2 _ _ _).trans ((readOne_f h1 h2).trans (by rw [us_ne _ _ (by omega), us_ne _ _ (by omega), us_ne _ _ (by omega)]))

def p_X7_fault (S : Sv) : Int32 × Sv :=
  let x1 : Int32 := (p_X7_faultOf S).1
  let S2 : Sv := (p_X7_faultOf S).2
  ((x1 : Int32), S2)

set_option maxHeartbeats 4000000 in
set_option maxRecDepth 100000 in
theorem c_X7_fault (l : Launch) (E : mE) (μ : Mu) (S : Sv) (hsg : Bn (S 0 7) 80) : CtI l E yX7_fault cX7_fault 1 (some .int) 5 108 [.ref (ea E 13 0)] (fo μ 13 S) (fun x μ' => x = (p_X7_fault S).1 ∧ μ' = fo μ 13 (p_X7_fault S).2) := by
  refine jMet (by decide +kernel) (Nat.le_of_ble_eq_true rfl) ?_
  intro p e s m below meth c ls F hT hr0 hlk hW hl
  have F : CallFix p m c cX7_fault 1 s _ TB RX7 := F
  have hl : lv_has ls 1 [(0, .ref (ea E 13 0))] := hl
  refine lv_aload_n F.1 F.2.1 dX7_fault_0 rfl (lv_at hl 0 rfl) ?_
  refine jcif (jrunV (As := []) (rest := []) F hT hW yc_X7_faultOf yv_X7_faultOf ml_X7_146 oM0 (by decide) rfl (c_X7_faultOf l E μ S (by first | assumption | omega)) rfl hl.1 ⟨Nat.le_of_ble_eq_true rfl, Nat.le_of_ble_eq_true rfl⟩ rfl (Nat.le_of_ble_eq_true rfl) ⟨Nat.le_refl _, Nat.le_refl _⟩ dX7_fault_1) hW (fun x1 S2 H locs ex1 eS2 hW => ?_)
  have hq : ((x1 : Int32), S2) = p_X7_fault S := by
    subst eS2
    subst ex1
    exact (rfl).symm
  exact jri F hr0 hlk hW rfl dX7_fault_4 ⟨congrArg Prod.fst hq, congrArg (fun z => fo μ 13 z.2) hq⟩

def p_X7_wipe (S : Sv) : Int32 × Sv :=
  let S1 : Sv := us S 0 7 0
  ((S 0 7 : Int32), S1)

set_option maxHeartbeats 4000000 in
set_option maxRecDepth 100000 in
theorem c_X7_wipe (l : Launch) (E : mE) (μ : Mu) (S : Sv) : CtI l E yX7_wipe cX7_wipe 2 (some .int) 0 0 [.ref (ea E 13 0)] (fo μ 13 S) (fun x μ' => x = (p_X7_wipe S).1 ∧ μ' = fo μ 13 (p_X7_wipe S).2) := by
  refine jMet (by decide +kernel) (Nat.le_of_ble_eq_true rfl) ?_
  intro p e s m below meth c ls F hT hr0 hlk hW hl
  have F : CallFix p m c cX7_wipe 2 s _ TB RX7 := F
  have hl : lv_has ls 2 [(0, .ref (ea E 13 0))] := hl
  refine lv_aload_n F.1 F.2.1 dX7_wipe_0 rfl (lv_at hl 0 rfl) ?_
  refine jget F hT hW fw_X7_108 oM0 (by decide) rfl dX7_wipe_1 ?_
  refine lv_istore_n (lv' := [(1, .int (S 0 7)), (0, .ref (ea E 13 0))]) F.1 F.2.1 dX7_wipe_4 rfl hl (by decide) rfl (fun ls hl => ?_)
  refine lv_aload_n F.1 F.2.1 dX7_wipe_5 rfl (lv_at hl 1 rfl) ?_
  refine lv_iconst (v := 0) F.1 F.2.1 dX7_wipe_6 (by decide) ?_
  refine jput F hT hW fw_X7_108 ft_7_7 oM0 (by decide) (by decide) rfl rfl rfl dX7_wipe_7 (fun S1 H locs eS1 hW => ?_)
  refine lv_iload_n F.1 F.2.1 dX7_wipe_10 rfl (lv_at hl 0 rfl) ?_
  have hq : ((S 0 7 : Int32), S1) = p_X7_wipe S := by
    subst eS1
    exact (rfl).symm
  exact jri F hr0 hlk hW rfl dX7_wipe_11 ⟨congrArg Prod.fst hq, congrArg (fun z => fo μ 13 z.2) hq⟩

