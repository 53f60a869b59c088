/-! class InterruptInn: what changes -/
theorem pre_ne {μ : Mu} (h : Wc μ) {q : Nat} (hq : q < 4 ∨ 10 < q) : p_X0_prepare μ q = μ q := by
  have h6 := h.2.1.2
  exact fo_ne _ _ (by omega)
theorem wf_ticks {S : Sv} {tk : Int32} (h : Wf S) : Wf (p_X3_passTicks S tk).2 := by
  unfold p_X3_passTicks
  dsimp only
  split
  · exact h
  · exact wf_it h _

def p_X6_set (μ : Mu) (st : Int32) (vl : Int32) : Int32 × Mu :=
  let S1 : Mu := p_X0_prepare μ
  let x2 : Int32 := (p_X3_changeSetting (S1 0) st vl).1
  let S3 : Mu := fo S1 0 (p_X3_changeSetting (S1 0) st vl).2
  let x4 : Int32 := (p_X0_recordUnlessError (S3 11) x2).1
  let S5 : Mu := fo S3 11 (p_X0_recordUnlessError (S3 11) x2).2
  ((x4 : Int32), S5)

set_option maxHeartbeats 4000000 in
set_option maxRecDepth 100000 in
theorem c_X6_set (l : Launch) (E : mE) (μ : Mu) (st : Int32) (vl : Int32) (hc : Wc μ) : CtI l E yX6_set cX6_set 3 (some .int) 3 64 [.ref (ea E 11 0), .int st, .int vl] μ (fun x μ' => x = (p_X6_set μ st vl).1 ∧ μ' = (p_X6_set μ st vl).2) := by
  refine jMet (by decide +kernel) (Nat.le_of_ble_eq_true rfl) ?_
  intro p e s m below meth c ls F hT hr0 hlk hW hl
  have F : CallFix p m c cX6_set 3 s _ TB RX6 := F
  have hl : lv_has ls 3 [(0, .ref (ea E 11 0)), (1, .int st), (2, .int vl)] := hl
  refine lv_aload_n F.1 F.2.1 dX6_set_0 rfl (lv_at hl 0 rfl) ?_
  refine jgetR F hT hW fw_X6_30 oH0 (by decide) rfl dX6_set_1 ?_
  refine lv_aload_n F.1 F.2.1 dX6_set_4 rfl (lv_at hl 0 rfl) ?_
  refine jgetR F hT hW fw_X6_10 oH0 (by decide) rfl dX6_set_5 ?_
  refine jcvG (jrunV (As := [.ref (ea E 0 0)]) (rest := []) F hT hW yc_X0_prepare yv_X0_prepare ml_X6_41 oH3 (by decide) rfl (c_X0_prepare l E μ hc) rfl hl.1 ⟨Nat.le_of_ble_eq_true rfl, Nat.le_of_ble_eq_true rfl⟩ rfl (Nat.le_of_ble_eq_true rfl) ⟨Nat.le_refl _, Nat.le_refl _⟩ dX6_set_8) hW (fun S1 H locs eS1 hW => ?_)
  have h0 : S1 0 = μ 0 := by rw [eS1]; exact pre_ne hc (by omega)
  have h12 : S1 12 = μ 12 := by rw [eS1]; exact pre_ne hc (by omega)
  have ws0 : Ws (S1 0) := by rw [h0]; exact hc.1 0 (by decide)
  refine lv_aload_n F.1 F.2.1 dX6_set_11 rfl (lv_at hl 0 rfl) ?_
  refine jgetR F hT hW fw_X6_30 oH0 (by decide) rfl dX6_set_12 ?_
  refine lv_aload_n F.1 F.2.1 dX6_set_15 rfl (lv_at hl 0 rfl) ?_
  refine jgetR F hT hW fw_X6_10 oH0 (by decide) rfl dX6_set_16 ?_
  refine lv_iload_n F.1 F.2.1 dX6_set_19 rfl (lv_at hl 1 rfl) ?_
  refine lv_iload_n F.1 F.2.1 dX6_set_20 rfl (lv_at hl 2 rfl) ?_
  refine jcifM (jrunV (As := [.int st, .int vl]) (rest := [.ref (ea E 11 3)]) F hT (hW.foc 0) yc_X3_changeSetting yv_X3_changeSetting ml_X6_45 (oSrv (by decide)) (by decide) rfl (c_X3_changeSetting l E S1 0 (by decide) (S1 0) st vl (by rw [h12]; exact hc.2.2.2.2.2.1) (by rw [h12]; exact hc.2.2.2.2.2.2)) rfl hl.1 ⟨Nat.le_of_ble_eq_true rfl, Nat.le_of_ble_eq_true rfl⟩ rfl (Nat.le_of_ble_eq_true rfl) ⟨Nat.le_refl _, Nat.le_refl _⟩ dX6_set_21) hW (fun x2 S3 H locs ex2 eS3 hW => ?_)
  refine jcifM (jrunV (As := [.int x2]) (rest := []) F hT (hW.foc 11) yc_X0_recordUnlessError yv_X0_recordUnlessError ml_X6_49 oH3 (by decide) rfl (c_X0_recordUnlessError l E S3 (S3 11) x2) rfl hl.1 ⟨Nat.le_of_ble_eq_true rfl, Nat.le_of_ble_eq_true rfl⟩ rfl (Nat.le_of_ble_eq_true rfl) ⟨Nat.le_refl _, Nat.le_refl _⟩ dX6_set_24) hW (fun x4 S5 H locs ex4 eS5 hW => ?_)
  have hq : ((x4 : Int32), S5) = p_X6_set μ st vl := by
    subst eS5
    subst ex4
    subst eS3
    subst ex2
    subst eS1
    exact (rfl).symm
  exact jri F hr0 hlk hW rfl dX6_set_27 ⟨congrArg Prod.fst hq, congrArg Prod.snd hq⟩

def p_X6_line (μ : Mu) (a : Int32) (b : Int32) (d : Int32) (lv : Int32) : Int32 × Mu :=
  let S1 : Mu := p_X0_prepare μ
  let x2 : Int32 := (p_X3_addLine (S1 0) a b d lv).1
  let S3 : Mu := fo S1 0 (p_X3_addLine (S1 0) a b d lv).2
  let x4 : Int32 := (p_X0_recordUnlessError (S3 11) x2).1
  let S5 : Mu := fo S3 11 (p_X0_recordUnlessError (S3 11) x2).2
  ((x4 : Int32), S5)

set_option maxHeartbeats 4000000 in
set_option maxRecDepth 100000 in
theorem c_X6_line (l : Launch) (E : mE) (μ : Mu) (a : Int32) (b : Int32) (d : Int32) (lv : Int32) (hc : Wc μ) : CtI l E yX6_line cX6_line 5 (some .int) 3 68 [.ref (ea E 11 0), .int a, .int b, .int d, .int lv] μ (fun x μ' => x = (p_X6_line μ a b d lv).1 ∧ μ' = (p_X6_line μ a b d lv).2) := by
  refine jMet (by decide +kernel) (Nat.le_of_ble_eq_true rfl) ?_
  intro p e s m below meth c ls F hT hr0 hlk hW hl
  have F : CallFix p m c cX6_line 5 s _ TB RX6 := F
  have hl : lv_has ls 5 [(0, .ref (ea E 11 0)), (1, .int a), (2, .int b), (3, .int d), (4, .int lv)] := hl
  refine lv_aload_n F.1 F.2.1 dX6_line_0 rfl (lv_at hl 0 rfl) ?_
  refine jgetR F hT hW fw_X6_30 oH0 (by decide) rfl dX6_line_1 ?_
  refine lv_aload_n F.1 F.2.1 dX6_line_4 rfl (lv_at hl 0 rfl) ?_
  refine jgetR F hT hW fw_X6_10 oH0 (by decide) rfl dX6_line_5 ?_
  refine jcvG (jrunV (As := [.ref (ea E 0 0)]) (rest := []) F hT hW yc_X0_prepare yv_X0_prepare ml_X6_41 oH3 (by decide) rfl (c_X0_prepare l E μ hc) rfl hl.1 ⟨Nat.le_of_ble_eq_true rfl, Nat.le_of_ble_eq_true rfl⟩ rfl (Nat.le_of_ble_eq_true rfl) ⟨Nat.le_refl _, Nat.le_refl _⟩ dX6_line_8) hW (fun S1 H locs eS1 hW => ?_)
  have h0 : S1 0 = μ 0 := by rw [eS1]; exact pre_ne hc (by omega)
  have h12 : S1 12 = μ 12 := by rw [eS1]; exact pre_ne hc (by omega)
  have ws0 : Ws (S1 0) := by rw [h0]; exact hc.1 0 (by decide)
  refine lv_aload_n F.1 F.2.1 dX6_line_11 rfl (lv_at hl 0 rfl) ?_
  refine jgetR F hT hW fw_X6_30 oH0 (by decide) rfl dX6_line_12 ?_
  refine lv_aload_n F.1 F.2.1 dX6_line_15 rfl (lv_at hl 0 rfl) ?_
  refine jgetR F hT hW fw_X6_10 oH0 (by decide) rfl dX6_line_16 ?_
  refine lv_iload_n F.1 F.2.1 dX6_line_19 rfl (lv_at hl 1 rfl) ?_
  refine lv_iload_n F.1 F.2.1 dX6_line_20 rfl (lv_at hl 2 rfl) ?_
  refine lv_iload_n F.1 F.2.1 dX6_line_21 rfl (lv_at hl 3 rfl) ?_
  refine lv_iload F.1 F.2.1 dX6_line_22 (lv_at hl 4 rfl) ?_
  refine jcifM (jrunV (As := [.int a, .int b, .int d, .int lv]) (rest := [.ref (ea E 11 3)]) F hT (hW.foc 0) yc_X3_addLine yv_X3_addLine ml_X6_53 (oSrv (by decide)) (by decide) rfl (c_X3_addLine l E S1 0 (by decide) (S1 0) a b d lv ws0.1.1) rfl hl.1 ⟨Nat.le_of_ble_eq_true rfl, Nat.le_of_ble_eq_true rfl⟩ rfl (Nat.le_of_ble_eq_true rfl) ⟨Nat.le_refl _, Nat.le_refl _⟩ dX6_line_24) hW (fun x2 S3 H locs ex2 eS3 hW => ?_)
  refine jcifM (jrunV (As := [.int x2]) (rest := []) F hT (hW.foc 11) yc_X0_recordUnlessError yv_X0_recordUnlessError ml_X6_49 oH3 (by decide) rfl (c_X0_recordUnlessError l E S3 (S3 11) x2) rfl hl.1 ⟨Nat.le_of_ble_eq_true rfl, Nat.le_of_ble_eq_true rfl⟩ rfl (Nat.le_of_ble_eq_true rfl) ⟨Nat.le_refl _, Nat.le_refl _⟩ dX6_line_27) hW (fun x4 S5 H locs ex4 eS5 hW => ?_)
  have hq : ((x4 : Int32), S5) = p_X6_line μ a b d lv := by
    subst eS5
    subst ex4
    subst eS3
    subst ex2
    subst eS1
    exact (rfl).symm
  exact jri F hr0 hlk hW rfl dX6_line_30 ⟨congrArg Prod.fst hq, congrArg Prod.snd hq⟩

def p_X6_timer (μ : Mu) (ln : Int32) (pe : Int32) (fi : Int32) : Int32 × Mu :=
  let S1 : Mu := p_X0_prepare μ
  let x2 : Int32 := (p_X3_addTimer (S1 0) ln pe fi).1
  let S3 : Mu := fo S1 0 (p_X3_addTimer (S1 0) ln pe fi).2
  let x4 : Int32 := (p_X0_recordUnlessError (S3 11) x2).1
  let S5 : Mu := fo S3 11 (p_X0_recordUnlessError (S3 11) x2).2
  ((x4 : Int32), S5)

set_option maxHeartbeats 4000000 in
set_option maxRecDepth 100000 in
theorem c_X6_timer (l : Launch) (E : mE) (μ : Mu) (ln : Int32) (pe : Int32) (fi : Int32) (hc : Wc μ) : CtI l E yX6_timer cX6_timer 4 (some .int) 3 67 [.ref (ea E 11 0), .int ln, .int pe, .int fi] μ (fun x μ' => x = (p_X6_timer μ ln pe fi).1 ∧ μ' = (p_X6_timer μ ln pe fi).2) := by
  refine jMet (by decide +kernel) (Nat.le_of_ble_eq_true rfl) ?_
  intro p e s m below meth c ls F hT hr0 hlk hW hl
  have F : CallFix p m c cX6_timer 4 s _ TB RX6 := F
  have hl : lv_has ls 4 [(0, .ref (ea E 11 0)), (1, .int ln), (2, .int pe), (3, .int fi)] := hl
  refine lv_aload_n F.1 F.2.1 dX6_timer_0 rfl (lv_at hl 0 rfl) ?_
  refine jgetR F hT hW fw_X6_30 oH0 (by decide) rfl dX6_timer_1 ?_
  refine lv_aload_n F.1 F.2.1 dX6_timer_4 rfl (lv_at hl 0 rfl) ?_
  refine jgetR F hT hW fw_X6_10 oH0 (by decide) rfl dX6_timer_5 ?_
  refine jcvG (jrunV (As := [.ref (ea E 0 0)]) (rest := []) F hT hW yc_X0_prepare yv_X0_prepare ml_X6_41 oH3 (by decide) rfl (c_X0_prepare l E μ hc) rfl hl.1 ⟨Nat.le_of_ble_eq_true rfl, Nat.le_of_ble_eq_true rfl⟩ rfl (Nat.le_of_ble_eq_true rfl) ⟨Nat.le_refl _, Nat.le_refl _⟩ dX6_timer_8) hW (fun S1 H locs eS1 hW => ?_)
  have h0 : S1 0 = μ 0 := by rw [eS1]; exact pre_ne hc (by omega)
  have h12 : S1 12 = μ 12 := by rw [eS1]; exact pre_ne hc (by omega)
  have ws0 : Ws (S1 0) := by rw [h0]; exact hc.1 0 (by decide)
  refine lv_aload_n F.1 F.2.1 dX6_timer_11 rfl (lv_at hl 0 rfl) ?_
  refine jgetR F hT hW fw_X6_30 oH0 (by decide) rfl dX6_timer_12 ?_
  refine lv_aload_n F.1 F.2.1 dX6_timer_15 rfl (lv_at hl 0 rfl) ?_
  refine jgetR F hT hW fw_X6_10 oH0 (by decide) rfl dX6_timer_16 ?_
  refine lv_iload_n F.1 F.2.1 dX6_timer_19 rfl (lv_at hl 1 rfl) ?_
  refine lv_iload_n F.1 F.2.1 dX6_timer_20 rfl (lv_at hl 2 rfl) ?_
  refine lv_iload_n F.1 F.2.1 dX6_timer_21 rfl (lv_at hl 3 rfl) ?_
  refine jcifM (jrunV (As := [.int ln, .int pe, .int fi]) (rest := [.ref (ea E 11 3)]) F hT (hW.foc 0) yc_X3_addTimer yv_X3_addTimer ml_X6_57 (oSrv (by decide)) (by decide) rfl (c_X3_addTimer l E S1 0 (by decide) (S1 0) ln pe fi ws0.1.1 ws0.1.2.1) rfl hl.1 ⟨Nat.le_of_ble_eq_true rfl, Nat.le_of_ble_eq_true rfl⟩ rfl (Nat.le_of_ble_eq_true rfl) ⟨Nat.le_refl _, Nat.le_refl _⟩ dX6_timer_22) hW (fun x2 S3 H locs ex2 eS3 hW => ?_)
  refine jcifM (jrunV (As := [.int x2]) (rest := []) F hT (hW.foc 11) yc_X0_recordUnlessError yv_X0_recordUnlessError ml_X6_49 oH3 (by decide) rfl (c_X0_recordUnlessError l E S3 (S3 11) x2) rfl hl.1 ⟨Nat.le_of_ble_eq_true rfl, Nat.le_of_ble_eq_true rfl⟩ rfl (Nat.le_of_ble_eq_true rfl) ⟨Nat.le_refl _, Nat.le_refl _⟩ dX6_timer_25) hW (fun x4 S5 H locs ex4 eS5 hW => ?_)
  have hq : ((x4 : Int32), S5) = p_X6_timer μ ln pe fi := by
    subst eS5
    subst ex4
    subst eS3
    subst ex2
    subst eS1
    exact (rfl).symm
  exact jri F hr0 hlk hW rfl dX6_timer_28 ⟨congrArg Prod.fst hq, congrArg Prod.snd hq⟩

def p_X6_stop (μ : Mu) (tm : Int32) : Int32 × Mu :=
  let S1 : Mu := p_X0_prepare μ
  let x2 : Int32 := (p_X3_removeTimer (S1 0) tm).1
  let S3 : Mu := fo S1 0 (p_X3_removeTimer (S1 0) tm).2
  let x4 : Int32 := (p_X0_recordUnlessError (S3 11) x2).1
  let S5 : Mu := fo S3 11 (p_X0_recordUnlessError (S3 11) x2).2
  ((x4 : Int32), S5)

set_option maxHeartbeats 4000000 in
set_option maxRecDepth 100000 in
theorem c_X6_stop (l : Launch) (E : mE) (μ : Mu) (tm : Int32) (hc : Wc μ) : CtI l E yX6_stop cX6_stop 2 (some .int) 3 65 [.ref (ea E 11 0), .int tm] μ (fun x μ' => x = (p_X6_stop μ tm).1 ∧ μ' = (p_X6_stop μ tm).2) := by
  refine jMet (by decide +kernel) (Nat.le_of_ble_eq_true rfl) ?_
  intro p e s m below meth c ls F hT hr0 hlk hW hl
  have F : CallFix p m c cX6_stop 2 s _ TB RX6 := F
  have hl : lv_has ls 2 [(0, .ref (ea E 11 0)), (1, .int tm)] := hl
  refine lv_aload_n F.1 F.2.1 dX6_stop_0 rfl (lv_at hl 0 rfl) ?_
  refine jgetR F hT hW fw_X6_30 oH0 (by decide) rfl dX6_stop_1 ?_
  refine lv_aload_n F.1 F.2.1 dX6_stop_4 rfl (lv_at hl 0 rfl) ?_
  refine jgetR F hT hW fw_X6_10 oH0 (by decide) rfl dX6_stop_5 ?_
  refine jcvG (jrunV (As := [.ref (ea E 0 0)]) (rest := []) F hT hW yc_X0_prepare yv_X0_prepare ml_X6_41 oH3 (by decide) rfl (c_X0_prepare l E μ hc) rfl hl.1 ⟨Nat.le_of_ble_eq_true rfl, Nat.le_of_ble_eq_true rfl⟩ rfl (Nat.le_of_ble_eq_true rfl) ⟨Nat.le_refl _, Nat.le_refl _⟩ dX6_stop_8) hW (fun S1 H locs eS1 hW => ?_)
  have h0 : S1 0 = μ 0 := by rw [eS1]; exact pre_ne hc (by omega)
  have h12 : S1 12 = μ 12 := by rw [eS1]; exact pre_ne hc (by omega)
  have ws0 : Ws (S1 0) := by rw [h0]; exact hc.1 0 (by decide)
  refine lv_aload_n F.1 F.2.1 dX6_stop_11 rfl (lv_at hl 0 rfl) ?_
  refine jgetR F hT hW fw_X6_30 oH0 (by decide) rfl dX6_stop_12 ?_
  refine lv_aload_n F.1 F.2.1 dX6_stop_15 rfl (lv_at hl 0 rfl) ?_
  refine jgetR F hT hW fw_X6_10 oH0 (by decide) rfl dX6_stop_16 ?_
  refine lv_iload_n F.1 F.2.1 dX6_stop_19 rfl (lv_at hl 1 rfl) ?_
  refine jcifM (jrunV (As := [.int tm]) (rest := [.ref (ea E 11 3)]) F hT (hW.foc 0) yc_X3_removeTimer yv_X3_removeTimer ml_X6_61 (oSrv (by decide)) (by decide) rfl (c_X3_removeTimer l E S1 0 (by decide) (S1 0) tm ws0.1.2.1) rfl hl.1 ⟨Nat.le_of_ble_eq_true rfl, Nat.le_of_ble_eq_true rfl⟩ rfl (Nat.le_of_ble_eq_true rfl) ⟨Nat.le_refl _, Nat.le_refl _⟩ dX6_stop_20) hW (fun x2 S3 H locs ex2 eS3 hW => ?_)
  refine jcifM (jrunV (As := [.int x2]) (rest := []) F hT (hW.foc 11) yc_X0_recordUnlessError yv_X0_recordUnlessError ml_X6_49 oH3 (by decide) rfl (c_X0_recordUnlessError l E S3 (S3 11) x2) rfl hl.1 ⟨Nat.le_of_ble_eq_true rfl, Nat.le_of_ble_eq_true rfl⟩ rfl (Nat.le_of_ble_eq_true rfl) ⟨Nat.le_refl _, Nat.le_refl _⟩ dX6_stop_23) hW (fun x4 S5 H locs ex4 eS5 hW => ?_)
  have hq : ((x4 : Int32), S5) = p_X6_stop μ tm := by
    subst eS5
    subst ex4
    subst eS3
    subst ex2
    subst eS1
    exact (rfl).symm
  exact jri F hr0 hlk hW rfl dX6_stop_26 ⟨congrArg Prod.fst hq, congrArg Prod.snd hq⟩

def p_X6_raise (μ : Mu) (ln : Int32) : Int32 × Mu :=
  let S1 : Mu := p_X0_prepare μ
  let x2 : Int32 := (p_X3_raiseLine (S1 0) ln).1
  let S3 : Mu := fo S1 0 (p_X3_raiseLine (S1 0) ln).2
  let x4 : Int32 := (p_X0_recordUnlessError (S3 11) x2).1
  let S5 : Mu := fo S3 11 (p_X0_recordUnlessError (S3 11) x2).2
  ((x4 : Int32), S5)

set_option maxHeartbeats 4000000 in
set_option maxRecDepth 100000 in
theorem c_X6_raise (l : Launch) (E : mE) (μ : Mu) (ln : Int32) (hc : Wc μ) : CtI l E yX6_raise cX6_raise 2 (some .int) 3 64 [.ref (ea E 11 0), .int ln] μ (fun x μ' => x = (p_X6_raise μ ln).1 ∧ μ' = (p_X6_raise μ ln).2) := by
  refine jMet (by decide +kernel) (Nat.le_of_ble_eq_true rfl) ?_
  intro p e s m below meth c ls F hT hr0 hlk hW hl
  have F : CallFix p m c cX6_raise 2 s _ TB RX6 := F
  have hl : lv_has ls 2 [(0, .ref (ea E 11 0)), (1, .int ln)] := hl
  refine lv_aload_n F.1 F.2.1 dX6_raise_0 rfl (lv_at hl 0 rfl) ?_
  refine jgetR F hT hW fw_X6_30 oH0 (by decide) rfl dX6_raise_1 ?_
  refine lv_aload_n F.1 F.2.1 dX6_raise_4 rfl (lv_at hl 0 rfl) ?_
  refine jgetR F hT hW fw_X6_10 oH0 (by decide) rfl dX6_raise_5 ?_
  refine jcvG (jrunV (As := [.ref (ea E 0 0)]) (rest := []) F hT hW yc_X0_prepare yv_X0_prepare ml_X6_41 oH3 (by decide) rfl (c_X0_prepare l E μ hc) rfl hl.1 ⟨Nat.le_of_ble_eq_true rfl, Nat.le_of_ble_eq_true rfl⟩ rfl (Nat.le_of_ble_eq_true rfl) ⟨Nat.le_refl _, Nat.le_refl _⟩ dX6_raise_8) hW (fun S1 H locs eS1 hW => ?_)
  have h0 : S1 0 = μ 0 := by rw [eS1]; exact pre_ne hc (by omega)
  have h12 : S1 12 = μ 12 := by rw [eS1]; exact pre_ne hc (by omega)
  have ws0 : Ws (S1 0) := by rw [h0]; exact hc.1 0 (by decide)
  refine lv_aload_n F.1 F.2.1 dX6_raise_11 rfl (lv_at hl 0 rfl) ?_
  refine jgetR F hT hW fw_X6_30 oH0 (by decide) rfl dX6_raise_12 ?_
  refine lv_aload_n F.1 F.2.1 dX6_raise_15 rfl (lv_at hl 0 rfl) ?_
  refine jgetR F hT hW fw_X6_10 oH0 (by decide) rfl dX6_raise_16 ?_
  refine lv_iload_n F.1 F.2.1 dX6_raise_19 rfl (lv_at hl 1 rfl) ?_
  refine jcifM (jrunV (As := [.int ln]) (rest := [.ref (ea E 11 3)]) F hT (hW.foc 0) yc_X3_raiseLine yv_X3_raiseLine ml_X6_64 (oSrv (by decide)) (by decide) rfl (c_X3_raiseLine l E S1 0 (by decide) (S1 0) ln ws0.1.1) rfl hl.1 ⟨Nat.le_of_ble_eq_true rfl, Nat.le_of_ble_eq_true rfl⟩ rfl (Nat.le_of_ble_eq_true rfl) ⟨Nat.le_refl _, Nat.le_refl _⟩ dX6_raise_20) hW (fun x2 S3 H locs ex2 eS3 hW => ?_)
  refine jcifM (jrunV (As := [.int x2]) (rest := []) F hT (hW.foc 11) yc_X0_recordUnlessError yv_X0_recordUnlessError ml_X6_49 oH3 (by decide) rfl (c_X0_recordUnlessError l E S3 (S3 11) x2) rfl hl.1 ⟨Nat.le_of_ble_eq_true rfl, Nat.le_of_ble_eq_true rfl⟩ rfl (Nat.le_of_ble_eq_true rfl) ⟨Nat.le_refl _, Nat.le_refl _⟩ dX6_raise_23) hW (fun x4 S5 H locs ex4 eS5 hW => ?_)
  have hq : ((x4 : Int32), S5) = p_X6_raise μ ln := by
    subst eS5
    subst ex4
    subst eS3
    subst ex2
    subst eS1
    exact (rfl).symm
  exact jri F hr0 hlk hW rfl dX6_raise_26 ⟨congrArg Prod.fst hq, congrArg Prod.snd hq⟩

def p_X6_hold (μ : Mu) (ln : Int32) (dv : Int32) (up : Int32) : Int32 × Mu :=
  let S1 : Mu := p_X0_prepare μ
  let x2 : Int32 := (p_X3_holdLine (S1 0) ln dv up).1
  let S3 : Mu := fo S1 0 (p_X3_holdLine (S1 0) ln dv up).2
  let x4 : Int32 := (p_X0_recordUnlessError (S3 11) x2).1
  let S5 : Mu := fo S3 11 (p_X0_recordUnlessError (S3 11) x2).2
  ((x4 : Int32), S5)

set_option maxHeartbeats 4000000 in
set_option maxRecDepth 100000 in
theorem c_X6_hold (l : Launch) (E : mE) (μ : Mu) (ln : Int32) (dv : Int32) (up : Int32) (hc : Wc μ) : CtI l E yX6_hold cX6_hold 4 (some .int) 3 67 [.ref (ea E 11 0), .int ln, .int dv, .int up] μ (fun x μ' => x = (p_X6_hold μ ln dv up).1 ∧ μ' = (p_X6_hold μ ln dv up).2) := by
  refine jMet (by decide +kernel) (Nat.le_of_ble_eq_true rfl) ?_
  intro p e s m below meth c ls F hT hr0 hlk hW hl
  have F : CallFix p m c cX6_hold 4 s _ TB RX6 := F
  have hl : lv_has ls 4 [(0, .ref (ea E 11 0)), (1, .int ln), (2, .int dv), (3, .int up)] := hl
  refine lv_aload_n F.1 F.2.1 dX6_hold_0 rfl (lv_at hl 0 rfl) ?_
  refine jgetR F hT hW fw_X6_30 oH0 (by decide) rfl dX6_hold_1 ?_
  refine lv_aload_n F.1 F.2.1 dX6_hold_4 rfl (lv_at hl 0 rfl) ?_
  refine jgetR F hT hW fw_X6_10 oH0 (by decide) rfl dX6_hold_5 ?_
  refine jcvG (jrunV (As := [.ref (ea E 0 0)]) (rest := []) F hT hW yc_X0_prepare yv_X0_prepare ml_X6_41 oH3 (by decide) rfl (c_X0_prepare l E μ hc) rfl hl.1 ⟨Nat.le_of_ble_eq_true rfl, Nat.le_of_ble_eq_true rfl⟩ rfl (Nat.le_of_ble_eq_true rfl) ⟨Nat.le_refl _, Nat.le_refl _⟩ dX6_hold_8) hW (fun S1 H locs eS1 hW => ?_)
  have h0 : S1 0 = μ 0 := by rw [eS1]; exact pre_ne hc (by omega)
  have h12 : S1 12 = μ 12 := by rw [eS1]; exact pre_ne hc (by omega)
  have ws0 : Ws (S1 0) := by rw [h0]; exact hc.1 0 (by decide)
  refine lv_aload_n F.1 F.2.1 dX6_hold_11 rfl (lv_at hl 0 rfl) ?_
  refine jgetR F hT hW fw_X6_30 oH0 (by decide) rfl dX6_hold_12 ?_
  refine lv_aload_n F.1 F.2.1 dX6_hold_15 rfl (lv_at hl 0 rfl) ?_
  refine jgetR F hT hW fw_X6_10 oH0 (by decide) rfl dX6_hold_16 ?_
  refine lv_iload_n F.1 F.2.1 dX6_hold_19 rfl (lv_at hl 1 rfl) ?_
  refine lv_iload_n F.1 F.2.1 dX6_hold_20 rfl (lv_at hl 2 rfl) ?_
  refine lv_iload_n F.1 F.2.1 dX6_hold_21 rfl (lv_at hl 3 rfl) ?_
  refine jcifM (jrunV (As := [.int ln, .int dv, .int up]) (rest := [.ref (ea E 11 3)]) F hT (hW.foc 0) yc_X3_holdLine yv_X3_holdLine ml_X6_67 (oSrv (by decide)) (by decide) rfl (c_X3_holdLine l E S1 0 (by decide) (S1 0) ln dv up ws0.1.1) rfl hl.1 ⟨Nat.le_of_ble_eq_true rfl, Nat.le_of_ble_eq_true rfl⟩ rfl (Nat.le_of_ble_eq_true rfl) ⟨Nat.le_refl _, Nat.le_refl _⟩ dX6_hold_22) hW (fun x2 S3 H locs ex2 eS3 hW => ?_)
  refine jcifM (jrunV (As := [.int x2]) (rest := []) F hT (hW.foc 11) yc_X0_recordUnlessError yv_X0_recordUnlessError ml_X6_49 oH3 (by decide) rfl (c_X0_recordUnlessError l E S3 (S3 11) x2) rfl hl.1 ⟨Nat.le_of_ble_eq_true rfl, Nat.le_of_ble_eq_true rfl⟩ rfl (Nat.le_of_ble_eq_true rfl) ⟨Nat.le_refl _, Nat.le_refl _⟩ dX6_hold_25) hW (fun x4 S5 H locs ex4 eS5 hW => ?_)
  have hq : ((x4 : Int32), S5) = p_X6_hold μ ln dv up := by
    subst eS5
    subst ex4
    subst eS3
    subst ex2
    subst eS1
    exact (rfl).symm
  exact jri F hr0 hlk hW rfl dX6_hold_28 ⟨congrArg Prod.fst hq, congrArg Prod.snd hq⟩

def p_X6_mask (μ : Mu) (ln : Int32) (is : Int32) : Int32 × Mu :=
  let S1 : Mu := p_X0_prepare μ
  let x2 : Int32 := (p_X3_maskLine (S1 0) ln is).1
  let S3 : Mu := fo S1 0 (p_X3_maskLine (S1 0) ln is).2
  let x4 : Int32 := (p_X0_recordUnlessError (S3 11) x2).1
  let S5 : Mu := fo S3 11 (p_X0_recordUnlessError (S3 11) x2).2
  ((x4 : Int32), S5)

set_option maxHeartbeats 4000000 in
set_option maxRecDepth 100000 in
theorem c_X6_mask (l : Launch) (E : mE) (μ : Mu) (ln : Int32) (is : Int32) (hc : Wc μ) : CtI l E yX6_mask cX6_mask 3 (some .int) 3 66 [.ref (ea E 11 0), .int ln, .int is] μ (fun x μ' => x = (p_X6_mask μ ln is).1 ∧ μ' = (p_X6_mask μ ln is).2) := by
  refine jMet (by decide +kernel) (Nat.le_of_ble_eq_true rfl) ?_
  intro p e s m below meth c ls F hT hr0 hlk hW hl
  have F : CallFix p m c cX6_mask 3 s _ TB RX6 := F
  have hl : lv_has ls 3 [(0, .ref (ea E 11 0)), (1, .int ln), (2, .int is)] := hl
  refine lv_aload_n F.1 F.2.1 dX6_mask_0 rfl (lv_at hl 0 rfl) ?_
  refine jgetR F hT hW fw_X6_30 oH0 (by decide) rfl dX6_mask_1 ?_
  refine lv_aload_n F.1 F.2.1 dX6_mask_4 rfl (lv_at hl 0 rfl) ?_
  refine jgetR F hT hW fw_X6_10 oH0 (by decide) rfl dX6_mask_5 ?_
  refine jcvG (jrunV (As := [.ref (ea E 0 0)]) (rest := []) F hT hW yc_X0_prepare yv_X0_prepare ml_X6_41 oH3 (by decide) rfl (c_X0_prepare l E μ hc) rfl hl.1 ⟨Nat.le_of_ble_eq_true rfl, Nat.le_of_ble_eq_true rfl⟩ rfl (Nat.le_of_ble_eq_true rfl) ⟨Nat.le_refl _, Nat.le_refl _⟩ dX6_mask_8) hW (fun S1 H locs eS1 hW => ?_)
  have h0 : S1 0 = μ 0 := by rw [eS1]; exact pre_ne hc (by omega)
  have h12 : S1 12 = μ 12 := by rw [eS1]; exact pre_ne hc (by omega)
  have ws0 : Ws (S1 0) := by rw [h0]; exact hc.1 0 (by decide)
  refine lv_aload_n F.1 F.2.1 dX6_mask_11 rfl (lv_at hl 0 rfl) ?_
  refine jgetR F hT hW fw_X6_30 oH0 (by decide) rfl dX6_mask_12 ?_
  refine lv_aload_n F.1 F.2.1 dX6_mask_15 rfl (lv_at hl 0 rfl) ?_
  refine jgetR F hT hW fw_X6_10 oH0 (by decide) rfl dX6_mask_16 ?_
  refine lv_iload_n F.1 F.2.1 dX6_mask_19 rfl (lv_at hl 1 rfl) ?_
  refine lv_iload_n F.1 F.2.1 dX6_mask_20 rfl (lv_at hl 2 rfl) ?_
  refine jcifM (jrunV (As := [.int ln, .int is]) (rest := [.ref (ea E 11 3)]) F hT (hW.foc 0) yc_X3_maskLine yv_X3_maskLine ml_X6_70 (oSrv (by decide)) (by decide) rfl (c_X3_maskLine l E S1 0 (by decide) (S1 0) ln is ws0.1.1) rfl hl.1 ⟨Nat.le_of_ble_eq_true rfl, Nat.le_of_ble_eq_true rfl⟩ rfl (Nat.le_of_ble_eq_true rfl) ⟨Nat.le_refl _, Nat.le_refl _⟩ dX6_mask_21) hW (fun x2 S3 H locs ex2 eS3 hW => ?_)
  refine jcifM (jrunV (As := [.int x2]) (rest := []) F hT (hW.foc 11) yc_X0_recordUnlessError yv_X0_recordUnlessError ml_X6_49 oH3 (by decide) rfl (c_X0_recordUnlessError l E S3 (S3 11) x2) rfl hl.1 ⟨Nat.le_of_ble_eq_true rfl, Nat.le_of_ble_eq_true rfl⟩ rfl (Nat.le_of_ble_eq_true rfl) ⟨Nat.le_refl _, Nat.le_refl _⟩ dX6_mask_24) hW (fun x4 S5 H locs ex4 eS5 hW => ?_)
  have hq : ((x4 : Int32), S5) = p_X6_mask μ ln is := by
    subst eS5
    subst ex4
    subst eS3
    subst ex2
    subst eS1
    exact (rfl).symm
  exact jri F hr0 hlk hW rfl dX6_mask_27 ⟨congrArg Prod.fst hq, congrArg Prod.snd hq⟩

def p_X6_change (μ : Mu) (ln : Int32) (a : Int32) (b : Int32) (d : Int32) : Int32 × Mu :=
  let S1 : Mu := p_X0_prepare μ
  let x2 : Int32 := (p_X3_changeLine (S1 0) ln a b d).1
  let S3 : Mu := fo S1 0 (p_X3_changeLine (S1 0) ln a b d).2
  let x4 : Int32 := (p_X0_recordUnlessError (S3 11) x2).1
  let S5 : Mu := fo S3 11 (p_X0_recordUnlessError (S3 11) x2).2
  ((x4 : Int32), S5)

set_option maxHeartbeats 4000000 in
set_option maxRecDepth 100000 in
theorem c_X6_change (l : Launch) (E : mE) (μ : Mu) (ln : Int32) (a : Int32) (b : Int32) (d : Int32) (hc : Wc μ) : CtI l E yX6_change cX6_change 5 (some .int) 3 69 [.ref (ea E 11 0), .int ln, .int a, .int b, .int d] μ (fun x μ' => x = (p_X6_change μ ln a b d).1 ∧ μ' = (p_X6_change μ ln a b d).2) := by
  refine jMet (by decide +kernel) (Nat.le_of_ble_eq_true rfl) ?_
  intro p e s m below meth c ls F hT hr0 hlk hW hl
  have F : CallFix p m c cX6_change 5 s _ TB RX6 := F
  have hl : lv_has ls 5 [(0, .ref (ea E 11 0)), (1, .int ln), (2, .int a), (3, .int b), (4, .int d)] := hl
  refine lv_aload_n F.1 F.2.1 dX6_change_0 rfl (lv_at hl 0 rfl) ?_
  refine jgetR F hT hW fw_X6_30 oH0 (by decide) rfl dX6_change_1 ?_
  refine lv_aload_n F.1 F.2.1 dX6_change_4 rfl (lv_at hl 0 rfl) ?_
  refine jgetR F hT hW fw_X6_10 oH0 (by decide) rfl dX6_change_5 ?_
  refine jcvG (jrunV (As := [.ref (ea E 0 0)]) (rest := []) F hT hW yc_X0_prepare yv_X0_prepare ml_X6_41 oH3 (by decide) rfl (c_X0_prepare l E μ hc) rfl hl.1 ⟨Nat.le_of_ble_eq_true rfl, Nat.le_of_ble_eq_true rfl⟩ rfl (Nat.le_of_ble_eq_true rfl) ⟨Nat.le_refl _, Nat.le_refl _⟩ dX6_change_8) hW (fun S1 H locs eS1 hW => ?_)
  have h0 : S1 0 = μ 0 := by rw [eS1]; exact pre_ne hc (by omega)
  have h12 : S1 12 = μ 12 := by rw [eS1]; exact pre_ne hc (by omega)
  have ws0 : Ws (S1 0) := by rw [h0]; exact hc.1 0 (by decide)
  refine lv_aload_n F.1 F.2.1 dX6_change_11 rfl (lv_at hl 0 rfl) ?_
  refine jgetR F hT hW fw_X6_30 oH0 (by decide) rfl dX6_change_12 ?_
  refine lv_aload_n F.1 F.2.1 dX6_change_15 rfl (lv_at hl 0 rfl) ?_
  refine jgetR F hT hW fw_X6_10 oH0 (by decide) rfl dX6_change_16 ?_
  refine lv_iload_n F.1 F.2.1 dX6_change_19 rfl (lv_at hl 1 rfl) ?_
  refine lv_iload_n F.1 F.2.1 dX6_change_20 rfl (lv_at hl 2 rfl) ?_
  refine lv_iload_n F.1 F.2.1 dX6_change_21 rfl (lv_at hl 3 rfl) ?_
  refine lv_iload F.1 F.2.1 dX6_change_22 (lv_at hl 4 rfl) ?_
  refine jcifM (jrunV (As := [.int ln, .int a, .int b, .int d]) (rest := [.ref (ea E 11 3)]) F hT (hW.foc 0) yc_X3_changeLine yv_X3_changeLine ml_X6_73 (oSrv (by decide)) (by decide) rfl (c_X3_changeLine l E S1 0 (by decide) (S1 0) ln a b d ws0.1.1) rfl hl.1 ⟨Nat.le_of_ble_eq_true rfl, Nat.le_of_ble_eq_true rfl⟩ rfl (Nat.le_of_ble_eq_true rfl) ⟨Nat.le_refl _, Nat.le_refl _⟩ dX6_change_24) hW (fun x2 S3 H locs ex2 eS3 hW => ?_)
  refine jcifM (jrunV (As := [.int x2]) (rest := []) F hT (hW.foc 11) yc_X0_recordUnlessError yv_X0_recordUnlessError ml_X6_49 oH3 (by decide) rfl (c_X0_recordUnlessError l E S3 (S3 11) x2) rfl hl.1 ⟨Nat.le_of_ble_eq_true rfl, Nat.le_of_ble_eq_true rfl⟩ rfl (Nat.le_of_ble_eq_true rfl) ⟨Nat.le_refl _, Nat.le_refl _⟩ dX6_change_27) hW (fun x4 S5 H locs ex4 eS5 hW => ?_)
  have hq : ((x4 : Int32), S5) = p_X6_change μ ln a b d := by
    subst eS5
    subst ex4
    subst eS3
    subst ex2
    subst eS1
    exact (rfl).symm
  exact jri F hr0 hlk hW rfl dX6_change_30 ⟨congrArg Prod.fst hq, congrArg Prod.snd hq⟩

def p_X6_ticks (μ : Mu) (tk : Int32) : Int32 × Mu :=
  let S1 : Mu := p_X0_prepare μ
  let x2 : Int32 := (p_X3_passTicks (S1 0) tk).1
  let S3 : Mu := fo S1 0 (p_X3_passTicks (S1 0) tk).2
  let x4 : Int32 := (p_X0_recordUnlessError (S3 11) x2).1
  let S5 : Mu := fo S3 11 (p_X0_recordUnlessError (S3 11) x2).2
  ((x4 : Int32), S5)

set_option maxHeartbeats 4000000 in
set_option maxRecDepth 100000 in
theorem c_X6_ticks (l : Launch) (E : mE) (μ : Mu) (tk : Int32) (hc : Wc μ) : CtI l E yX6_ticks cX6_ticks 2 (some .int) 5 115 [.ref (ea E 11 0), .int tk] μ (fun x μ' => x = (p_X6_ticks μ tk).1 ∧ μ' = (p_X6_ticks μ tk).2) := by
  refine jMet (by decide +kernel) (Nat.le_of_ble_eq_true rfl) ?_
  intro p e s m below meth c ls F hT hr0 hlk hW hl
  have F : CallFix p m c cX6_ticks 2 s _ TB RX6 := F
  have hl : lv_has ls 2 [(0, .ref (ea E 11 0)), (1, .int tk)] := hl
  refine lv_aload_n F.1 F.2.1 dX6_ticks_0 rfl (lv_at hl 0 rfl) ?_
  refine jgetR F hT hW fw_X6_30 oH0 (by decide) rfl dX6_ticks_1 ?_
  refine lv_aload_n F.1 F.2.1 dX6_ticks_4 rfl (lv_at hl 0 rfl) ?_
  refine jgetR F hT hW fw_X6_10 oH0 (by decide) rfl dX6_ticks_5 ?_
  refine jcvG (jrunV (As := [.ref (ea E 0 0)]) (rest := []) F hT hW yc_X0_prepare yv_X0_prepare ml_X6_41 oH3 (by decide) rfl (c_X0_prepare l E μ hc) rfl hl.1 ⟨Nat.le_of_ble_eq_true rfl, Nat.le_of_ble_eq_true rfl⟩ rfl (Nat.le_of_ble_eq_true rfl) ⟨Nat.le_refl _, Nat.le_refl _⟩ dX6_ticks_8) hW (fun S1 H locs eS1 hW => ?_)
  have h0 : S1 0 = μ 0 := by rw [eS1]; exact pre_ne hc (by omega)
  have h12 : S1 12 = μ 12 := by rw [eS1]; exact pre_ne hc (by omega)
  have ws0 : Ws (S1 0) := by rw [h0]; exact hc.1 0 (by decide)
  refine lv_aload_n F.1 F.2.1 dX6_ticks_11 rfl (lv_at hl 0 rfl) ?_
  refine jgetR F hT hW fw_X6_30 oH0 (by decide) rfl dX6_ticks_12 ?_
  refine lv_aload_n F.1 F.2.1 dX6_ticks_15 rfl (lv_at hl 0 rfl) ?_
  refine jgetR F hT hW fw_X6_10 oH0 (by decide) rfl dX6_ticks_16 ?_
  refine lv_iload_n F.1 F.2.1 dX6_ticks_19 rfl (lv_at hl 1 rfl) ?_
  refine jcifM (jrunV (As := [.int tk]) (rest := [.ref (ea E 11 3)]) F hT (hW.foc 0) yc_X3_passTicks yv_X3_passTicks ml_X6_76 (oSrv (by decide)) (by decide) rfl (c_X3_passTicks l E S1 0 (by decide) (S1 0) tk ws0.1) rfl hl.1 ⟨Nat.le_of_ble_eq_true rfl, Nat.le_of_ble_eq_true rfl⟩ rfl (Nat.le_of_ble_eq_true rfl) ⟨Nat.le_refl _, Nat.le_refl _⟩ dX6_ticks_20) hW (fun x2 S3 H locs ex2 eS3 hW => ?_)
  refine jcifM (jrunV (As := [.int x2]) (rest := []) F hT (hW.foc 11) yc_X0_recordUnlessError yv_X0_recordUnlessError ml_X6_49 oH3 (by decide) rfl (c_X0_recordUnlessError l E S3 (S3 11) x2) rfl hl.1 ⟨Nat.le_of_ble_eq_true rfl, Nat.le_of_ble_eq_true rfl⟩ rfl (Nat.le_of_ble_eq_true rfl) ⟨Nat.le_refl _, Nat.le_refl _⟩ dX6_ticks_23) hW (fun x4 S5 H locs ex4 eS5 hW => ?_)
  have hq : ((x4 : Int32), S5) = p_X6_ticks μ tk := by
    subst eS5
    subst ex4
    subst eS3
    subst ex2
    subst eS1
    exact (rfl).symm
  exact jri F hr0 hlk hW rfl dX6_ticks_26 ⟨congrArg Prod.fst hq, congrArg Prod.snd hq⟩

def p_X6_ofLine (μ : Mu) (ln : Int32) (wh : Int32) : Int32 :=
  let x1 : Int32 := p_X3_numberOfLine (μ 0) ln wh
  (x1 : Int32)

set_option maxHeartbeats 4000000 in
set_option maxRecDepth 100000 in
theorem c_X6_ofLine (l : Launch) (E : mE) (μ : Mu) (ln : Int32) (wh : Int32) (hc : Wc μ) : CtI l E yX6_ofLine cX6_ofLine 3 (some .int) 3 68 [.ref (ea E 11 0), .int ln, .int wh] μ (fun x μ' => x = p_X6_ofLine μ ln wh ∧ μ' = μ) := by
  refine jMet (by decide +kernel) (Nat.le_of_ble_eq_true rfl) ?_
  intro p e s m below meth c ls F hT hr0 hlk hW hl
  have F : CallFix p m c cX6_ofLine 3 s _ TB RX6 := F
  have hl : lv_has ls 3 [(0, .ref (ea E 11 0)), (1, .int ln), (2, .int wh)] := hl
  have ws0 := hc.1 0 (by decide)
  refine lv_aload_n F.1 F.2.1 dX6_ofLine_0 rfl (lv_at hl 0 rfl) ?_
  refine jgetR F hT hW fw_X6_10 oH0 (by decide) rfl dX6_ofLine_1 ?_
  refine lv_iload_n F.1 F.2.1 dX6_ofLine_4 rfl (lv_at hl 1 rfl) ?_
  refine lv_iload_n F.1 F.2.1 dX6_ofLine_5 rfl (lv_at hl 2 rfl) ?_
  refine jcipM (jrunV (As := [.int ln, .int wh]) (rest := []) F hT (hW.foc 0) yc_X3_numberOfLine yv_X3_numberOfLine ml_X6_79 (oSrv (by decide)) (by decide) rfl (c_X3_numberOfLine l E μ 0 (by decide) (μ 0) ln wh ws0.1.1) rfl hl.1 ⟨Nat.le_of_ble_eq_true rfl, Nat.le_of_ble_eq_true rfl⟩ rfl (Nat.le_of_ble_eq_true rfl) ⟨Nat.le_refl _, Nat.le_refl _⟩ dX6_ofLine_6) hW (fun x1 H locs ex1 hW => ?_)
  have hq : (x1 : Int32) = p_X6_ofLine μ ln wh := by
    subst ex1
    exact (rfl).symm
  exact jri F hr0 hlk hW rfl dX6_ofLine_9 ⟨hq, rfl⟩

def p_X6_ofNest (μ : Mu) (pl : Int32) (wh : Int32) : Int32 :=
  let x1 : Int32 := p_X3_numberOfPlace (μ 0) pl wh
  (x1 : Int32)

set_option maxHeartbeats 4000000 in
set_option maxRecDepth 100000 in
theorem c_X6_ofNest (l : Launch) (E : mE) (μ : Mu) (pl : Int32) (wh : Int32) (hc : Wc μ) : CtI l E yX6_ofNest cX6_ofNest 3 (some .int) 2 44 [.ref (ea E 11 0), .int pl, .int wh] μ (fun x μ' => x = p_X6_ofNest μ pl wh ∧ μ' = μ) := by
  refine jMet (by decide +kernel) (Nat.le_of_ble_eq_true rfl) ?_
  intro p e s m below meth c ls F hT hr0 hlk hW hl
  have F : CallFix p m c cX6_ofNest 3 s _ TB RX6 := F
  have hl : lv_has ls 3 [(0, .ref (ea E 11 0)), (1, .int pl), (2, .int wh)] := hl
  have ws0 := hc.1 0 (by decide)
  refine lv_aload_n F.1 F.2.1 dX6_ofNest_0 rfl (lv_at hl 0 rfl) ?_
  refine jgetR F hT hW fw_X6_10 oH0 (by decide) rfl dX6_ofNest_1 ?_
  refine lv_iload_n F.1 F.2.1 dX6_ofNest_4 rfl (lv_at hl 1 rfl) ?_
  refine lv_iload_n F.1 F.2.1 dX6_ofNest_5 rfl (lv_at hl 2 rfl) ?_
  refine jcipM (jrunV (As := [.int pl, .int wh]) (rest := []) F hT (hW.foc 0) yc_X3_numberOfPlace yv_X3_numberOfPlace ml_X6_82 (oSrv (by decide)) (by decide) rfl (c_X3_numberOfPlace l E μ 0 (by decide) (μ 0) pl wh ws0.1.2.2.1) rfl hl.1 ⟨Nat.le_of_ble_eq_true rfl, Nat.le_of_ble_eq_true rfl⟩ rfl (Nat.le_of_ble_eq_true rfl) ⟨Nat.le_refl _, Nat.le_refl _⟩ dX6_ofNest_6) hW (fun x1 H locs ex1 hW => ?_)
  have hq : (x1 : Int32) = p_X6_ofNest μ pl wh := by
    subst ex1
    exact (rfl).symm
  exact jri F hr0 hlk hW rfl dX6_ofNest_9 ⟨hq, rfl⟩

def p_X6_ofTimer (μ : Mu) (tm : Int32) (wh : Int32) : Int32 :=
  let x1 : Int32 := p_X3_numberOfTimer (μ 0) tm wh
  (x1 : Int32)

set_option maxHeartbeats 4000000 in
set_option maxRecDepth 100000 in
theorem c_X6_ofTimer (l : Launch) (E : mE) (μ : Mu) (tm : Int32) (wh : Int32) (hc : Wc μ) : CtI l E yX6_ofTimer cX6_ofTimer 3 (some .int) 3 65 [.ref (ea E 11 0), .int tm, .int wh] μ (fun x μ' => x = p_X6_ofTimer μ tm wh ∧ μ' = μ) := by
  refine jMet (by decide +kernel) (Nat.le_of_ble_eq_true rfl) ?_
  intro p e s m below meth c ls F hT hr0 hlk hW hl
  have F : CallFix p m c cX6_ofTimer 3 s _ TB RX6 := F
  have hl : lv_has ls 3 [(0, .ref (ea E 11 0)), (1, .int tm), (2, .int wh)] := hl
  have ws0 := hc.1 0 (by decide)
  refine lv_aload_n F.1 F.2.1 dX6_ofTimer_0 rfl (lv_at hl 0 rfl) ?_
  refine jgetR F hT hW fw_X6_10 oH0 (by decide) rfl dX6_ofTimer_1 ?_
  refine lv_iload_n F.1 F.2.1 dX6_ofTimer_4 rfl (lv_at hl 1 rfl) ?_
  refine lv_iload_n F.1 F.2.1 dX6_ofTimer_5 rfl (lv_at hl 2 rfl) ?_
  refine jcipM (jrunV (As := [.int tm, .int wh]) (rest := []) F hT (hW.foc 0) yc_X3_numberOfTimer yv_X3_numberOfTimer ml_X6_85 (oSrv (by decide)) (by decide) rfl (c_X3_numberOfTimer l E μ 0 (by decide) (μ 0) tm wh ws0.1.2.1) rfl hl.1 ⟨Nat.le_of_ble_eq_true rfl, Nat.le_of_ble_eq_true rfl⟩ rfl (Nat.le_of_ble_eq_true rfl) ⟨Nat.le_refl _, Nat.le_refl _⟩ dX6_ofTimer_6) hW (fun x1 H locs ex1 hW => ?_)
  have hq : (x1 : Int32) = p_X6_ofTimer μ tm wh := by
    subst ex1
    exact (rfl).symm
  exact jri F hr0 hlk hW rfl dX6_ofTimer_9 ⟨hq, rfl⟩

def p_X6_count (μ : Mu) (wh : Int32) : Int32 :=
  if wh = 10 then
    (μ 11 5 1 : Int32)
  else
    if wh = 11 then
      (μ 11 3 2 : Int32)
    else
      let x1 : Int32 := p_X3_numberOfAll (μ 0) wh
      (x1 : Int32)

set_option maxHeartbeats 4000000 in
set_option maxRecDepth 100000 in
theorem c_X6_count (l : Launch) (E : mE) (μ : Mu) (wh : Int32) (hc : Wc μ) : CtI l E yX6_count cX6_count 2 (some .int) 3 70 [.ref (ea E 11 0), .int wh] μ (fun x μ' => x = p_X6_count μ wh ∧ μ' = μ) := by
  refine jMet (by decide +kernel) (Nat.le_of_ble_eq_true rfl) ?_
  intro p e s m below meth c ls F hT hr0 hlk hW hl
  have F : CallFix p m c cX6_count 2 s _ TB RX6 := F
  have hl : lv_has ls 2 [(0, .ref (ea E 11 0)), (1, .int wh)] := hl
  have ws0 := hc.1 0 (by decide)
  refine lv_iload_n F.1 F.2.1 dX6_count_0 rfl (lv_at hl 1 rfl) ?_
  rcases Decidable.em (wh = 10) with hk1_0 | hk1_0
  · refine lv_lookup (off := 27) (tgt := 28) F.1 F.2.1 dX6_count_1 (by decide) (by show Op.lookupswitch.offset [(10, 27), (11, 35)] (43) wh.toInt = (27); rw [hk1_0]; rfl) (by decide) ?_
    refine lv_aload_n F.1 F.2.1 dX6_count_28 rfl (lv_at hl 0 rfl) ?_
    refine jgetR F hT hW fw_X6_37 oH0 (by decide) rfl dX6_count_29 ?_
    refine jget F hT (hW.foc 11) fw_X6_88 oH5 (by decide) rfl dX6_count_32 ?_
    have hq : (μ 11 5 1 : Int32) = p_X6_count μ wh := by
      exact (if_pos hk1_0).symm
    exact jri F hr0 hlk hW rfl dX6_count_35 ⟨hq, rfl⟩
  · rcases Decidable.em (wh = 11) with hk1_1 | hk1_1
    · refine lv_lookup (off := 35) (tgt := 36) F.1 F.2.1 dX6_count_1 (by decide) (by show Op.lookupswitch.offset [(10, 27), (11, 35)] (43) wh.toInt = (35); rw [lv_osw (k := 10) (a := 10) hk1_0 (by decide)]; rw [hk1_1]; rfl) (by decide) ?_
      refine lv_aload_n F.1 F.2.1 dX6_count_36 rfl (lv_at hl 0 rfl) ?_
      refine jgetR F hT hW fw_X6_30 oH0 (by decide) rfl dX6_count_37 ?_
      refine jget F hT (hW.foc 11) fw_X6_92 oH3 (by decide) rfl dX6_count_40 ?_
      have hq : (μ 11 3 2 : Int32) = p_X6_count μ wh := by
        exact ((if_neg hk1_0).trans (if_pos hk1_1)).symm
      exact jri F hr0 hlk hW rfl dX6_count_43 ⟨hq, rfl⟩
    · refine lv_lookup (off := 43) (tgt := 44) F.1 F.2.1 dX6_count_1 (by decide) (by show Op.lookupswitch.offset [(10, 27), (11, 35)] (43) wh.toInt = (43); rw [lv_osw (k := 10) (a := 10) hk1_0 (by decide)]; rw [lv_osw (k := 11) (a := 11) hk1_1 (by decide)]; rfl) (by decide) ?_
      refine lv_aload_n F.1 F.2.1 dX6_count_44 rfl (lv_at hl 0 rfl) ?_
      refine jgetR F hT hW fw_X6_10 oH0 (by decide) rfl dX6_count_45 ?_
      refine lv_iload_n F.1 F.2.1 dX6_count_48 rfl (lv_at hl 1 rfl) ?_
      refine jcipM (jrunV (As := [.int wh]) (rest := []) F hT (hW.foc 0) yc_X3_numberOfAll yv_X3_numberOfAll ml_X6_95 (oSrv (by decide)) (by decide) rfl (c_X3_numberOfAll l E μ 0 (by decide) (μ 0) wh ws0.1.1) rfl hl.1 ⟨Nat.le_of_ble_eq_true rfl, Nat.le_of_ble_eq_true rfl⟩ rfl (Nat.le_of_ble_eq_true rfl) ⟨Nat.le_refl _, Nat.le_refl _⟩ dX6_count_49) hW (fun x1 H locs ex1 hW => ?_)
      have hq : (x1 : Int32) = p_X6_count μ wh := by
        subst ex1
        exact ((if_neg hk1_0).trans (if_neg hk1_1)).symm
      exact jri F hr0 hlk hW rfl dX6_count_52 ⟨hq, rfl⟩

def p_X6_bound (μ : Mu) (ln : Int32) : Int32 :=
  let x1 : Int32 := p_X3_leastBound (μ 0) ln
  (x1 : Int32)

def p_X6_load (μ : Mu) : Int32 :=
  let x1 : Int32 := p_X3_loadOfTimers (μ 0)
  (x1 : Int32)

def p_X6_undo (μ : Mu) : Int32 × Mu :=
  let x1 : Int32 := (p_X0_takeBack μ).1
  let S2 : Mu := (p_X0_takeBack μ).2
  ((x1 : Int32), S2)
