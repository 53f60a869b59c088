/-! the reference: undo, save, restore, put -/
theorem pt_id (x : Int32) : x = x := rfl

def q_X7_undo_22 (S : Sv) (j : Nat) (σ : Sv) : Sv :=
  let S3 : Sv := σ
  let S5 : Sv := us S3 1 j (S3 3 ((cn (S 0 3) - 1) * 280 + j))
  S5
def p_X7_undo (S : Sv) : Int32 × Sv :=
  if (S 0 3) = 0 then
    (((-5) : Int32), S)
  else
    let S2 : Sv := us S 0 3 ((S 0 3) - 1)
    let S3 : Sv := (itN (q_X7_undo_22 S) 280 (S2))
    ((S3 0 3 : Int32), S3)

theorem ud_keep {S S0 : Sv} : ∀ n p k, ¬ p = 1 → itN (q_X7_undo_22 S) n S0 p k = S0 p k := by
  intro n
  induction n with
  | zero => intro p k _; rfl
  | succ n ih =>
    intro p k hp
    rw [itN_s]
    unfold q_X7_undo_22
    dsimp only
    rw [us_ne _ _ (by omega)]
    exact ih p k hp

set_option maxHeartbeats 4000000 in
set_option maxRecDepth 100000 in
theorem c_X7_undo (l : Launch) (E : mE) (μ : Mu) (S : Sv) (hu : Bn (S 0 3) 6) : CtI l E yX7_undo cX7_undo 2 (some .int) 0 0 [.ref (ea E 13 0)] (fo μ 13 S) (fun x μ' => x = (p_X7_undo S).1 ∧ μ' = fo μ 13 (p_X7_undo S).2) := by
  refine jMet (by decide +kernel) (Nat.le_of_ble_eq_true rfl) ?_
  intro p e s m below meth c ls F hT hr0 hlk hW hl
  have F : CallFix p m c cX7_undo 2 s _ TB RX7 := F
  have hl : lv_has ls 2 [(0, .ref (ea E 13 0))] := hl
  refine lv_aload_n F.1 F.2.1 dX7_undo_0 rfl (lv_at hl 0 rfl) ?_
  refine jget F hT hW fw_X7_36 oM0 (by decide) rfl dX7_undo_1 ?_
  refine lv_if_ne (tgt := 10) F.1 F.2.1 dX7_undo_4 (by decide) (fun h1 => ?_) (fun h1 => ?_)
  · have hz0 : ¬ S 0 3 = 0 := by assumption
    refine lv_aload_n F.1 F.2.1 dX7_undo_10 rfl (lv_at hl 0 rfl) ?_
    refine lv_dup F.1 F.2.1 dX7_undo_11 rfl ?_
    refine jget F hT hW fw_X7_36 oM0 (by decide) rfl dX7_undo_12 ?_
    refine lv_iconst (v := 1) F.1 F.2.1 dX7_undo_15 (by decide) ?_
    refine lv_isub F.1 F.2.1 dX7_undo_16 ?_
    refine jput F hT hW fw_X7_36 ft_7_3 oM0 (by decide) (by decide) rfl rfl rfl dX7_undo_17 (fun S2 H locs eS2 hW => ?_)
    have hu9 : S2 0 3 = nI (cn (S 0 3) - 1) := by rw [eS2, us_at]; exact isb hu.1 (lI 1) (ntk hu hz0)
    have hu6 := hu.2
    refine lv_iconst (v := 0) F.1 F.2.1 dX7_undo_20 (by decide) ?_
    refine lv_istore_n (lv' := [(1, .int 0), (0, .ref (ea E 13 0))]) F.1 F.2.1 dX7_undo_21 rfl hl (by decide) rfl (fun ls hl => ?_)
    have hL4 : ∀ (fu j : Nat) (S3 : Sv) (H : Heap) (locs : List Loc) (ls : Array Slot), j + fu = 280 → (S3) = itN (q_X7_undo_22 S) j (S2) → Wd E s H locs (fo μ 13 S3) → lv_has ls 2 [(1, .int (nI j)), (0, .ref (ea E 13 0))] → W p l e (rmO 0 0) s m ([.ref (ea E 13 0)] : List Value).toArray below meth c H locs 0 0 (MQ below (va_Qi (fun x μ' => x = (p_X7_undo S).1 ∧ μ' = fo μ 13 (p_X7_undo S).2) (fun μ' t => MB E μ' t.heap) (AA E)) ([.ref (ea E 13 0)] : List Value).toArray s 0 0 (AA E)) (F0 m 22 ls []) := by
      intro fu
      induction fu with
      | zero =>
        intro j S3 H locs ls hj hs  hW hl
        obtain rfl : j = 280 := by omega
        have eS3 := hs
        refine lv_iload_n F.1 F.2.1 dX7_undo_22 rfl (lv_at hl 0 rfl) ?_
        refine lv_sipush (v := 280) F.1 F.2.1 dX7_undo_23 (by decide) ?_
        refine lv_icmp_ge (tgt := 56) F.1 F.2.1 dX7_undo_26 (by decide) (fun h5 => ?_) (fun h5 => ?_)
        · refine lv_aload_n F.1 F.2.1 dX7_undo_56 rfl (lv_at hl 1 rfl) ?_
          refine jget F hT hW fw_X7_36 oM0 (by decide) rfl dX7_undo_57 ?_
          have hq : ((S3 0 3 : Int32), S3) = p_X7_undo S := by
            subst eS3
            subst eS2
            exact (if_neg h1).symm
          exact jri F hr0 hlk hW rfl dX7_undo_60 ⟨congrArg Prod.fst hq, congrArg (fun z => fo μ 13 z.2) hq⟩
        · exact absurd (c_le (lI 280) rfl (by omega) (by omega)) h5
      | succ fu ih =>
        intro j S3 H locs ls hj hs  hW hl
        have hk : S3 0 3 = S2 0 3 := by rw [hs]; exact ud_keep _ 0 3 (by decide)
        refine lv_iload_n F.1 F.2.1 dX7_undo_22 rfl (lv_at hl 0 rfl) ?_
        refine lv_sipush (v := 280) F.1 F.2.1 dX7_undo_23 (by decide) ?_
        refine lv_icmp_ge (tgt := 56) F.1 F.2.1 dX7_undo_26 (by decide) (fun h4 => ?_) (fun h4 => ?_)
        · exact absurd h4 (c_nle (lI 280) rfl (by omega) (by omega))
        · refine lv_aload_n F.1 F.2.1 dX7_undo_29 rfl (lv_at hl 1 rfl) ?_
          refine jgetR F hT hW fw_X7_7 oM0 (by decide) rfl dX7_undo_30 ?_
          refine lv_iload_n F.1 F.2.1 dX7_undo_33 rfl (lv_at hl 0 rfl) ?_
          refine lv_aload_n F.1 F.2.1 dX7_undo_34 rfl (lv_at hl 1 rfl) ?_
          refine jgetR F hT hW fw_X7_16 oM0 (by decide) rfl dX7_undo_35 ?_
          refine lv_aload_n F.1 F.2.1 dX7_undo_38 rfl (lv_at hl 1 rfl) ?_
          refine jget F hT hW fw_X7_36 oM0 (by decide) rfl dX7_undo_39 ?_
          refine lv_sipush (v := 280) F.1 F.2.1 dX7_undo_42 (by decide) ?_
          refine lv_imul F.1 F.2.1 dX7_undo_45 ?_
          refine lv_iload_n F.1 F.2.1 dX7_undo_46 rfl (lv_at hl 0 rfl) ?_
          refine lv_iadd F.1 F.2.1 dX7_undo_47 ?_
          refine jiald F hT hW ((cn (S 0 3) - 1) * 280 + j) oM3 (by omega) (by decide) (ia (im (hk.trans hu9) (lI 280)) rfl) rfl dX7_undo_48 ?_
          refine jiast F hT hW j oM1 (by decide) (by omega) (by decide) rfl rfl dX7_undo_49 (fun S5 H locs eS5 hW => ?_)
          refine lv_iinc (v := nI (j + 1)) (lv' := [(1, .int (nI (j + 1))), (0, .ref (ea E 13 0))]) F.1 F.2.1 dX7_undo_50 hl (k := 0) rfl (ia rfl rfl) (by decide) rfl (fun ls hl => ?_)
          refine lv_goto (tgt := 22) F.1 F.2.1 dX7_undo_53 (by decide) ?_
          subst eS5
          exact ih (j + 1) _ _ _ _ (by omega) (by rw [itN_s, ← hs]; exact (rfl).symm) hW (lv_sub hl [0, 1] rfl)
    exact hL4 280 0 S2 _ _ _ (by omega) rfl hW (lv_sub hl [0, 1] rfl)
  · refine lv_bipush (v := (-5)) F.1 F.2.1 dX7_undo_7 (by decide) ?_
    have hq : (((-5) : Int32), S) = p_X7_undo S := by
      exact (if_pos h1).symm
    exact jri F hr0 hlk hW rfl dX7_undo_9 ⟨congrArg Prod.fst hq, congrArg (fun z => fo μ 13 z.2) hq⟩

def q_X7_save_14 (S : Sv) (sl : Int32) (j : Nat) (σ : Sv) : Sv :=
  let S3 : Sv := σ
  let S5 : Sv := us S3 4 ((cn sl) * 280 + j) (S3 1 j)
  S5
def p_X7_save (S : Sv) (sl : Int32) : Int32 × Sv :=
  let x1 : Int32 := p_X7_in sl 0 1
  if x1 = 0 then
    (((-2) : Int32), S)
  else
    let S3 : Sv := (itN (q_X7_save_14 S sl) 280 (S))
    let S6 : Sv := us S3 5 (cn sl) 1
    ((S6 1 7 : Int32), S6)

set_option maxHeartbeats 4000000 in
set_option maxRecDepth 100000 in
theorem c_X7_save (l : Launch) (E : mE) (μ : Mu) (S : Sv) (sl : Int32) : CtI l E yX7_save cX7_save 3 (some .int) 1 22 [.ref (ea E 13 0), .int sl] (fo μ 13 S) (fun x μ' => x = (p_X7_save S sl).1 ∧ μ' = fo μ 13 (p_X7_save S sl).2) := by
  refine jMet (by decide +kernel) (Nat.le_of_ble_eq_true rfl) ?_
  intro p e s m below meth c ls F hT hr0 hlk hW hl
  have F : CallFix p m c cX7_save 3 s _ TB RX7 := F
  have hl : lv_has ls 3 [(0, .ref (ea E 13 0)), (1, .int sl)] := hl
  refine lv_iload_n F.1 F.2.1 dX7_save_0 rfl (lv_at hl 1 rfl) ?_
  refine lv_iconst (v := 0) F.1 F.2.1 dX7_save_1 (by decide) ?_
  refine lv_iconst (v := 1) F.1 F.2.1 dX7_save_2 (by decide) ?_
  refine jcip (jrunS (As := [.int sl, .int 0, .int 1]) (rest := []) F hT hW yc_X7_in ys_X7_in ml_X7_40 (c_X7_in l E (fo μ 13 S) sl 0 1) rfl hl.1 ⟨Nat.le_of_ble_eq_true rfl, Nat.le_of_ble_eq_true rfl⟩ rfl (Nat.le_of_ble_eq_true rfl) ⟨Nat.le_refl _, Nat.le_refl _⟩ dX7_save_3) hW (fun x1 H locs ex1 hW => ?_)
  refine lv_if_ne (tgt := 12) F.1 F.2.1 dX7_save_6 (by decide) (fun h2 => ?_) (fun h2 => ?_)
  · obtain ⟨hs1, hs2⟩ := wNi (a := sl) (lI 1) (by decide) (by assumption) (by assumption)
    refine lv_iconst (v := 0) F.1 F.2.1 dX7_save_12 (by decide) ?_
    refine lv_istore_n (lv' := [(2, .int 0), (0, .ref (ea E 13 0)), (1, .int sl)]) F.1 F.2.1 dX7_save_13 rfl hl (by decide) rfl (fun ls hl => ?_)
    have hL4 : ∀ (fu j : Nat) (S3 : Sv) (H : Heap) (locs : List Loc) (ls : Array Slot), j + fu = 280 → (S3) = itN (q_X7_save_14 S sl) j (S) → Wd E s H locs (fo μ 13 S3) → lv_has ls 3 [(2, .int (nI j)), (0, .ref (ea E 13 0)), (1, .int sl)] → W p l e (rmO 1 22) s m ([.ref (ea E 13 0), .int sl] : List Value).toArray below meth c H locs 0 0 (MQ below (va_Qi (fun x μ' => x = (p_X7_save S sl).1 ∧ μ' = fo μ 13 (p_X7_save S sl).2) (fun μ' t => MB E μ' t.heap) (AA E)) ([.ref (ea E 13 0), .int sl] : List Value).toArray s 0 0 (AA E)) (F0 m 14 ls []) := by
      intro fu
      induction fu with
      | zero =>
        intro j S3 H locs ls hj hs  hW hl
        obtain rfl : j = 280 := by omega
        have eS3 := hs
        refine lv_iload_n F.1 F.2.1 dX7_save_14 rfl (lv_at hl 0 rfl) ?_
        refine lv_sipush (v := 280) F.1 F.2.1 dX7_save_15 (by decide) ?_
        refine lv_icmp_ge (tgt := 45) F.1 F.2.1 dX7_save_18 (by decide) (fun h5 => ?_) (fun h5 => ?_)
        · refine lv_aload_n F.1 F.2.1 dX7_save_45 rfl (lv_at hl 1 rfl) ?_
          refine jgetR F hT hW fw_X7_22 oM0 (by decide) rfl dX7_save_46 ?_
          refine lv_iload_n F.1 F.2.1 dX7_save_49 rfl (lv_at hl 2 rfl) ?_
          refine lv_iconst (v := 1) F.1 F.2.1 dX7_save_50 (by decide) ?_
          refine jzast F hT hW (cn sl) oM5 (by decide) (by omega) (by decide) hs1 rfl (znar (Or.inr rfl)) dX7_save_51 (fun S6 H locs eS6 hW => ?_)
          refine lv_aload_n F.1 F.2.1 dX7_save_52 rfl (lv_at hl 1 rfl) ?_
          refine jgetR F hT hW fw_X7_7 oM0 (by decide) rfl dX7_save_53 ?_
          refine lv_bipush (v := 7) F.1 F.2.1 dX7_save_56 (by decide) ?_
          refine jiald F hT hW 7 oM1 (by omega) (by decide) (lI 7) rfl dX7_save_58 ?_
          have hq : ((S6 1 7 : Int32), S6) = p_X7_save S sl := by
            subst eS6
            subst eS3
            subst ex1
            exact (if_neg h2).symm
          exact jri F hr0 hlk hW rfl dX7_save_59 ⟨congrArg Prod.fst hq, congrArg (fun z => fo μ 13 z.2) hq⟩
        · exact absurd (c_le (lI 280) rfl (by omega) (by omega)) h5
      | succ fu ih =>
        intro j S3 H locs ls hj hs  hW hl
        refine lv_iload_n F.1 F.2.1 dX7_save_14 rfl (lv_at hl 0 rfl) ?_
        refine lv_sipush (v := 280) F.1 F.2.1 dX7_save_15 (by decide) ?_
        refine lv_icmp_ge (tgt := 45) F.1 F.2.1 dX7_save_18 (by decide) (fun h4 => ?_) (fun h4 => ?_)
        · exact absurd h4 (c_nle (lI 280) rfl (by omega) (by omega))
        · refine lv_aload_n F.1 F.2.1 dX7_save_21 rfl (lv_at hl 1 rfl) ?_
          refine jgetR F hT hW fw_X7_19 oM0 (by decide) rfl dX7_save_22 ?_
          refine lv_iload_n F.1 F.2.1 dX7_save_25 rfl (lv_at hl 2 rfl) ?_
          refine lv_sipush (v := 280) F.1 F.2.1 dX7_save_26 (by decide) ?_
          refine lv_imul F.1 F.2.1 dX7_save_29 ?_
          refine lv_iload_n F.1 F.2.1 dX7_save_30 rfl (lv_at hl 0 rfl) ?_
          refine lv_iadd F.1 F.2.1 dX7_save_31 ?_
          refine lv_aload_n F.1 F.2.1 dX7_save_32 rfl (lv_at hl 1 rfl) ?_
          refine jgetR F hT hW fw_X7_7 oM0 (by decide) rfl dX7_save_33 ?_
          refine lv_iload_n F.1 F.2.1 dX7_save_36 rfl (lv_at hl 0 rfl) ?_
          refine jiald F hT hW j oM1 (by omega) (by decide) rfl rfl dX7_save_37 ?_
          refine jiast F hT hW ((cn sl) * 280 + j) oM4 (by decide) (by omega) (by decide) (ia (im hs1 (lI 280)) rfl) rfl dX7_save_38 (fun S5 H locs eS5 hW => ?_)
          refine lv_iinc (v := nI (j + 1)) (lv' := [(2, .int (nI (j + 1))), (0, .ref (ea E 13 0)), (1, .int sl)]) F.1 F.2.1 dX7_save_39 hl (k := 0) rfl (ia rfl rfl) (by decide) rfl (fun ls hl => ?_)
          refine lv_goto (tgt := 14) F.1 F.2.1 dX7_save_42 (by decide) ?_
          subst eS5
          exact ih (j + 1) _ _ _ _ (by omega) (by rw [itN_s, ← hs]; exact (rfl).symm) hW (lv_sub hl [0, 1, 2] rfl)
    exact hL4 280 0 S _ _ _ (by omega) rfl hW (lv_sub hl [0, 1, 2] rfl)
  · refine lv_bipush (v := (-2)) F.1 F.2.1 dX7_save_9 (by decide) ?_
    have hq : (((-2) : Int32), S) = p_X7_save S sl := by
      subst ex1
      exact (if_pos h2).symm
    exact jri F hr0 hlk hW rfl dX7_save_11 ⟨congrArg Prod.fst hq, congrArg (fun z => fo μ 13 z.2) hq⟩

def q_X7_restore_30 (S : Sv) (sl : Int32) (j : Nat) (σ : Sv) : Sv :=
  let S5 : Sv := σ
  let S7 : Sv := us S5 1 j (S5 4 ((cn sl) * 280 + j))
  S7
def p_X7_restore (S : Sv) (sl : Int32) : Int32 × Sv :=
  let x1 : Int32 := p_X7_in sl 0 1
  if x1 = 0 then
    (((-2) : Int32), S)
  else
    if (S 5 (cn sl)) = 0 then
      (((-5) : Int32), S)
    else
      let S4 : Sv := p_X7_record S
      let S5 : Sv := (itN (q_X7_restore_30 S sl) 280 (S4))
      ((S5 1 7 : Int32), S5)

set_option maxHeartbeats 4000000 in
set_option maxRecDepth 100000 in
theorem c_X7_restore (l : Launch) (E : mE) (μ : Mu) (S : Sv) (sl : Int32) (hu : Bn (S 0 3) 6) : CtI l E yX7_restore cX7_restore 3 (some .int) 1 22 [.ref (ea E 13 0), .int sl] (fo μ 13 S) (fun x μ' => x = (p_X7_restore S sl).1 ∧ μ' = fo μ 13 (p_X7_restore S sl).2) := by
  refine jMet (by decide +kernel) (Nat.le_of_ble_eq_true rfl) ?_
  intro p e s m below meth c ls F hT hr0 hlk hW hl
  have F : CallFix p m c cX7_restore 3 s _ TB RX7 := F
  have hl : lv_has ls 3 [(0, .ref (ea E 13 0)), (1, .int sl)] := hl
  refine lv_iload_n F.1 F.2.1 dX7_restore_0 rfl (lv_at hl 1 rfl) ?_
  refine lv_iconst (v := 0) F.1 F.2.1 dX7_restore_1 (by decide) ?_
  refine lv_iconst (v := 1) F.1 F.2.1 dX7_restore_2 (by decide) ?_
  refine jcip (jrunS (As := [.int sl, .int 0, .int 1]) (rest := []) F hT hW yc_X7_in ys_X7_in ml_X7_40 (c_X7_in l E (fo μ 13 S) sl 0 1) rfl hl.1 ⟨Nat.le_of_ble_eq_true rfl, Nat.le_of_ble_eq_true rfl⟩ rfl (Nat.le_of_ble_eq_true rfl) ⟨Nat.le_refl _, Nat.le_refl _⟩ dX7_restore_3) hW (fun x1 H locs ex1 hW => ?_)
  refine lv_if_ne (tgt := 12) F.1 F.2.1 dX7_restore_6 (by decide) (fun h2 => ?_) (fun h2 => ?_)
  · obtain ⟨hs1, hs2⟩ := wNi (a := sl) (lI 1) (by decide) (by assumption) (by assumption)
    refine lv_aload_n F.1 F.2.1 dX7_restore_12 rfl (lv_at hl 0 rfl) ?_
    refine jgetR F hT hW fw_X7_22 oM0 (by decide) rfl dX7_restore_13 ?_
    refine lv_iload_n F.1 F.2.1 dX7_restore_16 rfl (lv_at hl 1 rfl) ?_
    refine jzald F hT hW (cn sl) oM5 (by omega) (by decide) hs1 rfl dX7_restore_17 ?_
    refine lv_if_ne (tgt := 24) F.1 F.2.1 dX7_restore_18 (by decide) (fun h3 => ?_) (fun h3 => ?_)
    · refine lv_aload_n F.1 F.2.1 dX7_restore_24 rfl (lv_at hl 0 rfl) ?_
      refine jcvf (jrunV (As := []) (rest := []) F hT hW yc_X7_record yv_X7_record ml_X7_51 oM0 (by decide) rfl (c_X7_record l E μ S (by first | assumption | omega)) rfl hl.1 ⟨Nat.le_of_ble_eq_true rfl, Nat.le_of_ble_eq_true rfl⟩ rfl (Nat.le_of_ble_eq_true rfl) ⟨Nat.le_refl _, Nat.le_refl _⟩ dX7_restore_25) hW (fun S4 H locs eS4 hW => ?_)
      refine lv_iconst (v := 0) F.1 F.2.1 dX7_restore_28 (by decide) ?_
      refine lv_istore_n (lv' := [(2, .int 0), (0, .ref (ea E 13 0)), (1, .int sl)]) F.1 F.2.1 dX7_restore_29 rfl hl (by decide) rfl (fun ls hl => ?_)
      have hL6 : ∀ (fu j : Nat) (S5 : Sv) (H : Heap) (locs : List Loc) (ls : Array Slot), j + fu = 280 → (S5) = itN (q_X7_restore_30 S sl) j (S4) → Wd E s H locs (fo μ 13 S5) → lv_has ls 3 [(2, .int (nI j)), (0, .ref (ea E 13 0)), (1, .int sl)] → W p l e (rmO 1 22) s m ([.ref (ea E 13 0), .int sl] : List Value).toArray below meth c H locs 0 0 (MQ below (va_Qi (fun x μ' => x = (p_X7_restore S sl).1 ∧ μ' = fo μ 13 (p_X7_restore S sl).2) (fun μ' t => MB E μ' t.heap) (AA E)) ([.ref (ea E 13 0), .int sl] : List Value).toArray s 0 0 (AA E)) (F0 m 30 ls []) := by
        intro fu
        induction fu with
        | zero =>
          intro j S5 H locs ls hj hs  hW hl
          obtain rfl : j = 280 := by omega
          have eS5 := hs
          refine lv_iload_n F.1 F.2.1 dX7_restore_30 rfl (lv_at hl 0 rfl) ?_
          refine lv_sipush (v := 280) F.1 F.2.1 dX7_restore_31 (by decide) ?_
          refine lv_icmp_ge (tgt := 61) F.1 F.2.1 dX7_restore_34 (by decide) (fun h7 => ?_) (fun h7 => ?_)
          · refine lv_aload_n F.1 F.2.1 dX7_restore_61 rfl (lv_at hl 1 rfl) ?_
            refine jgetR F hT hW fw_X7_7 oM0 (by decide) rfl dX7_restore_62 ?_
            refine lv_bipush (v := 7) F.1 F.2.1 dX7_restore_65 (by decide) ?_
            refine jiald F hT hW 7 oM1 (by omega) (by decide) (lI 7) rfl dX7_restore_67 ?_
            have hq : ((S5 1 7 : Int32), S5) = p_X7_restore S sl := by
              subst eS5
              subst eS4
              subst ex1
              exact ((if_neg h2).trans (if_neg h3)).symm
            exact jri F hr0 hlk hW rfl dX7_restore_68 ⟨congrArg Prod.fst hq, congrArg (fun z => fo μ 13 z.2) hq⟩
          · exact absurd (c_le (lI 280) rfl (by omega) (by omega)) h7
        | succ fu ih =>
          intro j S5 H locs ls hj hs  hW hl
          refine lv_iload_n F.1 F.2.1 dX7_restore_30 rfl (lv_at hl 0 rfl) ?_
          refine lv_sipush (v := 280) F.1 F.2.1 dX7_restore_31 (by decide) ?_
          refine lv_icmp_ge (tgt := 61) F.1 F.2.1 dX7_restore_34 (by decide) (fun h6 => ?_) (fun h6 => ?_)
          · exact absurd h6 (c_nle (lI 280) rfl (by omega) (by omega))
          · refine lv_aload_n F.1 F.2.1 dX7_restore_37 rfl (lv_at hl 1 rfl) ?_
            refine jgetR F hT hW fw_X7_7 oM0 (by decide) rfl dX7_restore_38 ?_
            refine lv_iload_n F.1 F.2.1 dX7_restore_41 rfl (lv_at hl 0 rfl) ?_
            refine lv_aload_n F.1 F.2.1 dX7_restore_42 rfl (lv_at hl 1 rfl) ?_
            refine jgetR F hT hW fw_X7_19 oM0 (by decide) rfl dX7_restore_43 ?_
            refine lv_iload_n F.1 F.2.1 dX7_restore_46 rfl (lv_at hl 2 rfl) ?_
            refine lv_sipush (v := 280) F.1 F.2.1 dX7_restore_47 (by decide) ?_
            refine lv_imul F.1 F.2.1 dX7_restore_50 ?_
            refine lv_iload_n F.1 F.2.1 dX7_restore_51 rfl (lv_at hl 0 rfl) ?_
            refine lv_iadd F.1 F.2.1 dX7_restore_52 ?_
            refine jiald F hT hW ((cn sl) * 280 + j) oM4 (by omega) (by decide) (ia (im hs1 (lI 280)) rfl) rfl dX7_restore_53 ?_
            refine jiast F hT hW j oM1 (by decide) (by omega) (by decide) rfl rfl dX7_restore_54 (fun S7 H locs eS7 hW => ?_)
            refine lv_iinc (v := nI (j + 1)) (lv' := [(2, .int (nI (j + 1))), (0, .ref (ea E 13 0)), (1, .int sl)]) F.1 F.2.1 dX7_restore_55 hl (k := 0) rfl (ia rfl rfl) (by decide) rfl (fun ls hl => ?_)
            refine lv_goto (tgt := 30) F.1 F.2.1 dX7_restore_58 (by decide) ?_
            subst eS7
            exact ih (j + 1) _ _ _ _ (by omega) (by rw [itN_s, ← hs]; exact (rfl).symm) hW (lv_sub hl [0, 1, 2] rfl)
      exact hL6 280 0 S4 _ _ _ (by omega) rfl hW (lv_sub hl [0, 1, 2] rfl)
    · refine lv_bipush (v := (-5)) F.1 F.2.1 dX7_restore_21 (by decide) ?_
      have hq : (((-5) : Int32), S) = p_X7_restore S sl := by
        subst ex1
        exact ((if_neg h2).trans (if_pos h3)).symm
      exact jri F hr0 hlk hW rfl dX7_restore_23 ⟨congrArg Prod.fst hq, congrArg (fun z => fo μ 13 z.2) hq⟩
  · refine lv_bipush (v := (-2)) F.1 F.2.1 dX7_restore_9 (by decide) ?_
    have hq : (((-2) : Int32), S) = p_X7_restore S sl := by
      subst ex1
      exact (if_pos h2).symm
    exact jri F hr0 hlk hW rfl dX7_restore_11 ⟨congrArg Prod.fst hq, congrArg (fun z => fo μ 13 z.2) hq⟩

/-- a text's signs, from the last: what is left of a long -/
def Lv (ch v : Int64) (j : Nat) : Prop := v.toUInt64.toNat = ch.toUInt64.toNat / 256 ^ j ∧ j ≤ 8
theorem shr8 (v : Int64) : ((v.toUInt64 >>> ((8 : Int32).toInt64.toUInt64 &&& Int64.toUInt64 63)).toInt64).toUInt64.toNat = v.toUInt64.toNat / 256 := by
  have e : ((8 : Int32).toInt64.toUInt64 &&& Int64.toUInt64 63) = 8 := by decide
  rw [e]
  show (v.toUInt64 >>> 8).toNat = _
  rw [UInt64.toNat_shiftRight]
  show v.toUInt64.toNat >>> 8 = _
  rw [Nat.shiftRight_eq_div_pow]
theorem lv9 {ch v : Int64} (h : Lv ch v 9) : False := absurd h.2 (by decide)
theorem lv0 {ch : Int64} : Lv ch ch 0 := ⟨by rw [Nat.pow_zero, Nat.div_one], by decide⟩
theorem lv_s {ch v : Int64} {j : Nat} (h : Lv ch v j) (hz : ¬ lg_cmp (v &&& 255) 0 = 0) : Lv ch ((v.toUInt64 >>> ((8 : Int32).toInt64.toUInt64 &&& Int64.toUInt64 63)).toInt64) (j + 1) := by
  refine ⟨by rw [shr8, h.1, Nat.div_div_eq_div_mul, Nat.pow_succ], ?_⟩
  have h8 := h.2
  by_cases hj : j = 8
  · exfalso
    apply hz
    have h1 := h.1
    rw [hj] at h1
    have h2 : ch.toUInt64.toNat < 2 ^ 64 := ch.toUInt64.toNat_lt
    have h3 : v.toUInt64.toNat = 0 := by rw [h1]; exact Nat.div_eq_of_lt h2
    have h4 : v.toUInt64 = 0 := UInt64.toNat_inj.mp (by rw [h3]; rfl)
    have h5 : v = 0 := by
      have := congrArg UInt64.toInt64 h4
      exact this
    rw [h5]
    decide
  · omega

