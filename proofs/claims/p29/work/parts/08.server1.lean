/-! class Server: what changes no ticks -/
theorem b_within {a b d : Int32} : p_X6_within a b d = 0 ∨ p_X6_within a b d = 1 := by
  unfold p_X6_within
  dsimp only
  repeat' split
  all_goals simp
/-- what 'within' told -/
theorem wN {a c x : Int32} {n : Nat} (hc : c = nI n) (hn : n < 2 ^ 31) (hx : x = p_X6_within a 0 c) (h : ¬ x = 0) : a = nI (cn a) ∧ cn a ≤ n := by
  subst hx
  unfold p_X6_within at h
  by_cases h1 : a < 0
  · exfalso
    apply h
    first | (rw [if_pos h1]; done) | simp [h1]
  · by_cases h2 : c < a
    · exfalso
      apply h
      simp [h1, h2]
    · have h3 : a ≤ c := Int32.not_lt.mp h2
      rw [hc] at h3
      obtain ⟨j, hj, hej⟩ := nI_of2 (nI_toInt hn) h1 h3
      have hcn : cn a = j := by rw [hej]; exact nI_clamp (Nat.lt_of_le_of_lt hj hn)
      exact ⟨by rw [hcn]; exact hej, by rw [hcn]; exact hj⟩
theorem wL {a c x : Int32} {n : Nat} (hc : Bn c n) (hn : n < 2 ^ 31) (hx : x = p_X6_within a 0 (c - 1)) (h : ¬ x = 0) : a = nI (cn a) ∧ cn a < cn c := by
  by_cases h0 : cn c = 0
  · exfalso
    apply h
    have hc0 : c = 0 := by rw [hc.1, h0]; exact nI_0
    subst hx
    unfold p_X6_within
    rw [hc0]
    by_cases h1 : a < 0
    · simp [h1]
    · have h2 : (0 : Int32) - 1 < a := by
        have h3 : (0 : Int32) ≤ a := Int32.not_lt.mp h1
        rw [Int32.le_iff_toInt_le] at h3
        rw [Int32.lt_iff_toInt_lt]
        have e1 : ((0 : Int32) - 1).toInt = -1 := by decide
        have e0 : (0 : Int32).toInt = 0 := by decide
        omega
      show (if a < 0 then (0 : Int32) else if 0 - 1 < a then 0 else 1) = 0
      rw [if_neg h1, if_pos h2]
  · have h1 := wN (a := a) (isb hc.1 (lI 1) (by omega)) (by have := hc.2; omega) hx h
    exact ⟨h1.1, by have := h1.2; omega⟩
theorem bn_ltc {x : Int32} {b : Nat} (hx : Bn x b) (hb : b < 2 ^ 31) {y : Int32} {c : Nat} (hy : y = nI c) (hc : c < 2 ^ 31) (h : x < y) : cn x < c := bn_lt hx hb hc (hy ▸ h)
theorem c_ge {x y : Int32} {a b : Nat} (hx : x = nI a) (hy : y = nI b) (h : x ≤ y) (ha : a < 2 ^ 31) (hb : b < 2 ^ 31 := by decide) : a ≤ b := by
  rw [hx, hy] at h
  exact (nI_leI ha hb).mp h
theorem sub12 {w : Int32} (h1 : ¬ w < 12) (h2 : ¬ 7 ≤ w - 12) : w - 12 = nI (cn (w - 12)) ∧ cn (w - 12) < 7 := by
  have h3 : w - 12 < 7 := Int32.not_le.mp h2
  have h4 : ¬ (w - 12) < 0 := by
    have h5 : (12 : Int32) ≤ w := Int32.not_lt.mp h1
    rw [Int32.le_iff_toInt_le] at h5
    rw [Int32.lt_iff_toInt_lt]
    have e12 : (12 : Int32).toInt = 12 := by decide
    have e0 : (0 : Int32).toInt = 0 := by decide
    have hb := Int32.toInt_lt w
    rw [Jvm.Kit.i32_sub (by omega) (by omega), e12, e0]
    omega
  obtain ⟨j, hj, hej⟩ := nI_of2 (M := 7) (n := 7) (by decide) h4 (Int32.le_of_lt h3)
  have hcn : cn (w - 12) = j := by rw [hej]; exact nI_clamp (by omega)
  refine ⟨by rw [hcn]; exact hej, ?_⟩
  rw [hcn]
  rw [hej] at h3
  have h7 := (nI_ltI (a := j) (b := 7) (by omega) (by omega)).mp h3
  exact h7
/-- a line's row alone is written -/
theorem fr_becomeNew {S : Sv} {i p k : Nat} {b : Int32} (h : ¬ p = 3 + i) : p_X1_becomeNew S i b p k = S p k := by simp [p_X1_becomeNew, us, h]
theorem fr_shape {S : Sv} {i p k : Nat} {a b d : Int32} (h : ¬ p = 3 + i) : p_X1_shape S i a b d p k = S p k := by simp [p_X1_shape, us, h]
theorem fr_takeEdge {S : Sv} {i p k : Nat} {b : Int32} (h : ¬ p = 3 + i) : (p_X1_takeEdge S i b).2 p k = S p k := by
  unfold p_X1_takeEdge
  dsimp only
  repeat' split
  all_goals simp [us, h]
theorem fr_followDevices {S : Sv} {i p k : Nat} (h : ¬ p = 3 + i) : p_X1_followDevices S i p k = S p k := by
  unfold p_X1_followDevices
  dsimp only
  repeat' split
  all_goals simp [us, h]
theorem fr_moveDevice {S : Sv} {i d p k : Nat} {up : Int32} (h : ¬ p = 3 + i) : p_X1_moveDevice S i d up p k = S p k := by
  unfold p_X1_moveDevice
  rw [fr_followDevices h]
  simp [us, h]
theorem fr_enterNest {S : Sv} {i p k : Nat} {pl : Int32} (h : ¬ p = 3 + i) : p_X1_enterNest S i pl p k = S p k := by
  unfold p_X1_enterNest
  dsimp only
  repeat' split
  all_goals simp [us, h]
theorem fr_leaveNest {S : Sv} {i p k : Nat} (h : ¬ p = 3 + i) : p_X1_leaveNest S i p k = S p k := by
  unfold p_X1_leaveNest
  dsimp only
  repeat' split
  all_goals first | (rw [fr_followDevices h]; simp [us, h]; done) | simp [us, h]

def p_X3_hasLine (S : Sv) (ln : Int32) : Int32 :=
  let x1 : Int32 := p_X6_within ln 0 ((S 0 3) - 1)
  (x1 : Int32)

set_option maxHeartbeats 4000000 in
set_option maxRecDepth 100000 in
theorem c_X3_hasLine (l : Launch) (E : mE) (μ : Mu) (r : Nat) (hr : r < 11) (S : Sv) (ln : Int32) : CtI l E yX3_hasLine cX3_hasLine 2 (some .boolean) 1 22 [.ref (ea E r 0), .int ln] (fo μ r S) (fun x μ' => x = p_X3_hasLine S ln ∧ μ' = (fo μ r S)) := by
  refine jMet (by decide +kernel) (Nat.le_of_ble_eq_true rfl) ?_
  intro p e s m below meth c ls F hT hr0 hlk hW hl
  have F : CallFix p m c cX3_hasLine 2 s _ TB RX3 := F
  have hl : lv_has ls 2 [(0, .ref (ea E r 0)), (1, .int ln)] := hl
  refine lv_iload_n F.1 F.2.1 dX3_hasLine_0 rfl (lv_at hl 1 rfl) ?_
  refine lv_iconst (v := 0) F.1 F.2.1 dX3_hasLine_1 (by decide) ?_
  refine lv_aload_n F.1 F.2.1 dX3_hasLine_2 rfl (lv_at hl 0 rfl) ?_
  refine jget F hT hW fw_X3_54 (oSrv hr) (by decide) (rSrv3 hr) dX3_hasLine_3 ?_
  refine lv_iconst (v := 1) F.1 F.2.1 dX3_hasLine_6 (by decide) ?_
  refine lv_isub F.1 F.2.1 dX3_hasLine_7 ?_
  refine jcip (jrunSN (As := [.int ln, .int 0, .int ((S 0 3) - 1)]) (rest := []) F hT hW yc_X6_within ys_X6_within (by decide +kernel) (c_X6_within l E (fo μ r S) ln 0 ((S 0 3) - 1)) rfl hl.1 ⟨Nat.le_of_ble_eq_true rfl, Nat.le_of_ble_eq_true rfl⟩ rfl (Nat.le_of_ble_eq_true rfl) ⟨Nat.le_refl _, Nat.le_refl _⟩ dX3_hasLine_8) hW (fun x1 H locs ex1 hW => ?_)
  have hq : (x1 : Int32) = p_X3_hasLine S ln := by
    subst ex1
    exact (rfl).symm
  exact jri F hr0 hlk hW (znar (by first | assumption | ((try clear hq); subst_vars; (try dsimp only); repeat' (first | exact Or.inl rfl | exact Or.inr rfl | exact b_within | refine iteZ ?_ ?_)))) dX3_hasLine_11 ⟨hq, rfl⟩

def p_X3_hasTimer (S : Sv) (tm : Int32) : Int32 :=
  let x1 : Int32 := p_X6_within tm 0 ((S 0 5) - 1)
  (x1 : Int32)

set_option maxHeartbeats 4000000 in
set_option maxRecDepth 100000 in
theorem c_X3_hasTimer (l : Launch) (E : mE) (μ : Mu) (r : Nat) (hr : r < 11) (S : Sv) (tm : Int32) : CtI l E yX3_hasTimer cX3_hasTimer 2 (some .boolean) 1 22 [.ref (ea E r 0), .int tm] (fo μ r S) (fun x μ' => x = p_X3_hasTimer S tm ∧ μ' = (fo μ r S)) := by
  refine jMet (by decide +kernel) (Nat.le_of_ble_eq_true rfl) ?_
  intro p e s m below meth c ls F hT hr0 hlk hW hl
  have F : CallFix p m c cX3_hasTimer 2 s _ TB RX3 := F
  have hl : lv_has ls 2 [(0, .ref (ea E r 0)), (1, .int tm)] := hl
  refine lv_iload_n F.1 F.2.1 dX3_hasTimer_0 rfl (lv_at hl 1 rfl) ?_
  refine lv_iconst (v := 0) F.1 F.2.1 dX3_hasTimer_1 (by decide) ?_
  refine lv_aload_n F.1 F.2.1 dX3_hasTimer_2 rfl (lv_at hl 0 rfl) ?_
  refine jget F hT hW fw_X3_61 (oSrv hr) (by decide) (rSrv5 hr) dX3_hasTimer_3 ?_
  refine lv_iconst (v := 1) F.1 F.2.1 dX3_hasTimer_6 (by decide) ?_
  refine lv_isub F.1 F.2.1 dX3_hasTimer_7 ?_
  refine jcip (jrunSN (As := [.int tm, .int 0, .int ((S 0 5) - 1)]) (rest := []) F hT hW yc_X6_within ys_X6_within (by decide +kernel) (c_X6_within l E (fo μ r S) tm 0 ((S 0 5) - 1)) rfl hl.1 ⟨Nat.le_of_ble_eq_true rfl, Nat.le_of_ble_eq_true rfl⟩ rfl (Nat.le_of_ble_eq_true rfl) ⟨Nat.le_refl _, Nat.le_refl _⟩ dX3_hasTimer_8) hW (fun x1 H locs ex1 hW => ?_)
  have hq : (x1 : Int32) = p_X3_hasTimer S tm := by
    subst ex1
    exact (rfl).symm
  exact jri F hr0 hlk hW (znar (by first | assumption | ((try clear hq); subst_vars; (try dsimp only); repeat' (first | exact Or.inl rfl | exact Or.inr rfl | exact b_within | refine iteZ ?_ ?_)))) dX3_hasTimer_11 ⟨hq, rfl⟩

def p_X3_changeSetting (S : Sv) (st : Int32) (vl : Int32) : Int32 × Sv :=
  let x1 : Int32 := p_X6_within st 0 (7 - 1)
  if x1 = 0 then
    (((-2) : Int32), S)
  else
    let x3 : Int32 := p_X6_within vl (vLst (cn st)) (vMst (cn st))
    if x3 = 0 then
      (((-2) : Int32), S)
    else
      let S5 : Sv := us S 1 (cn st) vl
      ((S 1 (cn st) : Int32), S5)

set_option maxHeartbeats 4000000 in
set_option maxRecDepth 100000 in
theorem c_X3_changeSetting (l : Launch) (E : mE) (μ : Mu) (r : Nat) (hr : r < 11) (S : Sv) (st : Int32) (vl : Int32) (hz1 : ∀ j, j < 7 → μ 12 1 j = vLst j) (hz2 : ∀ j, j < 7 → μ 12 2 j = vMst j) : CtI l E yX3_changeSetting cX3_changeSetting 4 (some .int) 1 22 [.ref (ea E r 0), .int st, .int vl] (fo μ r S) (fun x μ' => x = (p_X3_changeSetting S st vl).1 ∧ μ' = fo μ r (p_X3_changeSetting S st vl).2) := by
  refine jMet (by decide +kernel) (Nat.le_of_ble_eq_true rfl) ?_
  intro p e s m below meth c ls F hT hr0 hlk hW hl
  have F : CallFix p m c cX3_changeSetting 4 s _ TB RX3 := F
  have hl : lv_has ls 4 [(0, .ref (ea E r 0)), (1, .int st), (2, .int vl)] := hl
  refine lv_iload_n F.1 F.2.1 dX3_changeSetting_0 rfl (lv_at hl 1 rfl) ?_
  refine lv_iconst (v := 0) F.1 F.2.1 dX3_changeSetting_1 (by decide) ?_
  refine lv_aload_n F.1 F.2.1 dX3_changeSetting_2 rfl (lv_at hl 0 rfl) ?_
  refine jgetR F hT hW fw_X3_18 (oSrv hr) (by decide) (rSrv1 hr) dX3_changeSetting_3 ?_
  refine jalen (t := 0) (n := 7) (ty := .int) (x := 7) F hT hW (oSet hr) rfl (by decide) dX3_changeSetting_6 ?_
  refine lv_iconst (v := 1) F.1 F.2.1 dX3_changeSetting_7 (by decide) ?_
  refine lv_isub F.1 F.2.1 dX3_changeSetting_8 ?_
  refine jcip (jrunSN (As := [.int st, .int 0, .int (7 - 1)]) (rest := []) F hT hW yc_X6_within ys_X6_within (by decide +kernel) (c_X6_within l E (fo μ r S) st 0 (7 - 1)) rfl hl.1 ⟨Nat.le_of_ble_eq_true rfl, Nat.le_of_ble_eq_true rfl⟩ rfl (Nat.le_of_ble_eq_true rfl) ⟨Nat.le_refl _, Nat.le_refl _⟩ dX3_changeSetting_9) hW (fun x1 H locs ex1 hW => ?_)
  refine lv_if_ne (tgt := 18) F.1 F.2.1 dX3_changeSetting_12 (by decide) (fun h2 => ?_) (fun h2 => ?_)
  · obtain ⟨hs1, hs2⟩ := wN (a := st) (n := 6) rfl (by decide) (by assumption) (by assumption)
    refine lv_iload_n F.1 F.2.1 dX3_changeSetting_18 rfl (lv_at hl 2 rfl) ?_
    refine jgsN F hT hW hT.2.2.2.1 (by decide) dX3_changeSetting_19 ?_
    refine lv_iload_n F.1 F.2.1 dX3_changeSetting_22 rfl (lv_at hl 1 rfl) ?_
    refine jialdG (cn st) F hT hW oZ1 (by omega) (by decide) hs1 rfl (v := vLst (cn st)) (by rw [fo_ne _ _ (Ne.symm (rn12 hr))]; exact hz1 _ (by omega)) dX3_changeSetting_23 ?_
    refine jgsN F hT hW hT.2.2.2.2 (by decide) dX3_changeSetting_24 ?_
    refine lv_iload_n F.1 F.2.1 dX3_changeSetting_27 rfl (lv_at hl 1 rfl) ?_
    refine jialdG (cn st) F hT hW oZ2 (by omega) (by decide) hs1 rfl (v := vMst (cn st)) (by rw [fo_ne _ _ (Ne.symm (rn12 hr))]; exact hz2 _ (by omega)) dX3_changeSetting_28 ?_
    refine jcip (jrunSN (As := [.int vl, .int (vLst (cn st)), .int (vMst (cn st))]) (rest := []) F hT hW yc_X6_within ys_X6_within (by decide +kernel) (c_X6_within l E (fo μ r S) vl (vLst (cn st)) (vMst (cn st))) rfl hl.1 ⟨Nat.le_of_ble_eq_true rfl, Nat.le_of_ble_eq_true rfl⟩ rfl (Nat.le_of_ble_eq_true rfl) ⟨Nat.le_refl _, Nat.le_refl _⟩ dX3_changeSetting_29) hW (fun x3 H locs ex3 hW => ?_)
    refine lv_if_ne (tgt := 38) F.1 F.2.1 dX3_changeSetting_32 (by decide) (fun h4 => ?_) (fun h4 => ?_)
    · refine lv_aload_n F.1 F.2.1 dX3_changeSetting_38 rfl (lv_at hl 0 rfl) ?_
      refine jgetR F hT hW fw_X3_18 (oSrv hr) (by decide) (rSrv1 hr) dX3_changeSetting_39 ?_
      refine lv_iload_n F.1 F.2.1 dX3_changeSetting_42 rfl (lv_at hl 1 rfl) ?_
      refine jiald F hT hW (cn st) (oSet hr) (by omega) (by decide) hs1 (rSet hr) dX3_changeSetting_43 ?_
      refine lv_istore_n (lv' := [(3, .int (S 1 (cn st))), (0, .ref (ea E r 0)), (1, .int st), (2, .int vl)]) F.1 F.2.1 dX3_changeSetting_44 rfl hl (by decide) rfl (fun ls hl => ?_)
      refine lv_aload_n F.1 F.2.1 dX3_changeSetting_45 rfl (lv_at hl 1 rfl) ?_
      refine jgetR F hT hW fw_X3_18 (oSrv hr) (by decide) (rSrv1 hr) dX3_changeSetting_46 ?_
      refine lv_iload_n F.1 F.2.1 dX3_changeSetting_49 rfl (lv_at hl 2 rfl) ?_
      refine lv_iload_n F.1 F.2.1 dX3_changeSetting_50 rfl (lv_at hl 3 rfl) ?_
      refine jiast F hT hW (cn st) (oSet hr) (rn12 hr) (by omega) (by decide) hs1 (rSet hr) dX3_changeSetting_51 (fun S5 H locs eS5 hW => ?_)
      refine lv_iload_n F.1 F.2.1 dX3_changeSetting_52 rfl (lv_at hl 0 rfl) ?_
      have hq : ((S 1 (cn st) : Int32), S5) = p_X3_changeSetting S st vl := by
        subst eS5
        subst ex3
        subst ex1
        exact ((if_neg h2).trans (if_neg h4)).symm
      exact jri F hr0 hlk hW rfl dX3_changeSetting_53 ⟨congrArg Prod.fst hq, congrArg (fun z => fo μ r z.2) hq⟩
    · refine lv_bipush (v := (-2)) F.1 F.2.1 dX3_changeSetting_35 (by decide) ?_
      have hq : (((-2) : Int32), S) = p_X3_changeSetting S st vl := by
        subst ex3
        subst ex1
        exact ((if_neg h2).trans (if_pos h4)).symm
      exact jri F hr0 hlk hW rfl dX3_changeSetting_37 ⟨congrArg Prod.fst hq, congrArg (fun z => fo μ r z.2) hq⟩
  · refine lv_bipush (v := (-2)) F.1 F.2.1 dX3_changeSetting_15 (by decide) ?_
    have hq : (((-2) : Int32), S) = p_X3_changeSetting S st vl := by
      subst ex1
      exact (if_pos h2).symm
    exact jri F hr0 hlk hW rfl dX3_changeSetting_17 ⟨congrArg Prod.fst hq, congrArg (fun z => fo μ r z.2) hq⟩

def p_X3_isShape (a : Int32) (b : Int32) (d : Int32) : Int32 :=
  let x1 : Int32 := p_X6_within a 0 15
  let v7 : Int32 := (if x1 = 0 then 0 else (let x3 : Int32 := p_X6_within b 1 50; (if x3 = 0 then 0 else (let x5 : Int32 := p_X6_within d 0 500; (if x5 = 0 then 0 else 1)))))
  (v7 : Int32)
set_option maxHeartbeats 4000000 in
set_option maxRecDepth 100000 in
theorem c_X3_isShape (l : Launch) (E : mE) (μ : Mu) (a : Int32) (b : Int32) (d : Int32) : CtI l E yX3_isShape cX3_isShape 3 (some .boolean) 1 22 [.int a, .int b, .int d] μ (fun x μ' => x = p_X3_isShape a b d ∧ μ' = μ) := by
  refine jMet (by decide +kernel) (Nat.le_of_ble_eq_true rfl) ?_
  intro p e s m below meth c ls F hT hr0 hlk hW hl
  have F : CallFix p m c cX3_isShape 3 s _ TB RX3 := F
  have hl : lv_has ls 3 [(0, .int a), (1, .int b), (2, .int d)] := hl
  refine lv_iload_n F.1 F.2.1 dX3_isShape_0 rfl (lv_at hl 0 rfl) ?_
  refine lv_iconst (v := 0) F.1 F.2.1 dX3_isShape_1 (by decide) ?_
  refine lv_bipush (v := 15) F.1 F.2.1 dX3_isShape_2 (by decide) ?_
  refine jcip (jrunSN (As := [.int a, .int 0, .int 15]) (rest := []) F hT hW yc_X6_within ys_X6_within (by decide +kernel) (c_X6_within l E μ a 0 15) rfl hl.1 ⟨Nat.le_of_ble_eq_true rfl, Nat.le_of_ble_eq_true rfl⟩ rfl (Nat.le_of_ble_eq_true rfl) ⟨Nat.le_refl _, Nat.le_refl _⟩ dX3_isShape_4) hW (fun x1 H locs ex1 hW => ?_)
  have hJ8 : ∀ (v7 : Int32) (H : Heap) (locs : List Loc) (ls : Array Slot), v7 = (if x1 = 0 then 0 else (let x3 : Int32 := p_X6_within b 1 50; (if x3 = 0 then 0 else (let x5 : Int32 := p_X6_within d 0 500; (if x5 = 0 then 0 else 1))))) → Wd E s H locs μ → lv_has ls 3 [(0, .int a), (1, .int b), (2, .int d)] → W p l e (rmO 1 22) s m ([.int a, .int b, .int d] : List Value).toArray below meth c H locs 0 0 (MQ below (va_Qi (fun x μ' => x = p_X3_isShape a b d ∧ μ' = μ) (fun μ' t => MB E μ' t.heap) (AA E)) ([.int a, .int b, .int d] : List Value).toArray s 0 0 (AA E)) (F0 m 36 ls [.int v7]) := by
    intro v7 H locs ls ev7 hW hl
    have hq : (v7 : Int32) = p_X3_isShape a b d := by
      subst ev7
      subst ex1
      exact (rfl).symm
    exact jri F hr0 hlk hW (znar (by first | assumption | ((try clear hq); subst_vars; (try dsimp only); repeat' (first | exact Or.inl rfl | exact Or.inr rfl | refine iteZ ?_ ?_)))) dX3_isShape_36 ⟨hq, rfl⟩
  refine lv_if_eq (tgt := 35) F.1 F.2.1 dX3_isShape_7 (by decide) (fun h2 => ?_) (fun h2 => ?_)
  · refine lv_iconst (v := 0) F.1 F.2.1 dX3_isShape_35 (by decide) ?_
    exact hJ8 _ _ _ _ (if_pos h2).symm hW (lv_sub hl [0, 1, 2] rfl)
  · refine lv_iload_n F.1 F.2.1 dX3_isShape_10 rfl (lv_at hl 1 rfl) ?_
    refine lv_iconst (v := 1) F.1 F.2.1 dX3_isShape_11 (by decide) ?_
    refine lv_bipush (v := 50) F.1 F.2.1 dX3_isShape_12 (by decide) ?_
    refine jcip (jrunSN (As := [.int b, .int 1, .int 50]) (rest := []) F hT hW yc_X6_within ys_X6_within (by decide +kernel) (c_X6_within l E μ b 1 50) rfl hl.1 ⟨Nat.le_of_ble_eq_true rfl, Nat.le_of_ble_eq_true rfl⟩ rfl (Nat.le_of_ble_eq_true rfl) ⟨Nat.le_refl _, Nat.le_refl _⟩ dX3_isShape_14) hW (fun x3 H locs ex3 hW => ?_)
    refine lv_if_eq (tgt := 35) F.1 F.2.1 dX3_isShape_17 (by decide) (fun h4 => ?_) (fun h4 => ?_)
    · refine lv_iconst (v := 0) F.1 F.2.1 dX3_isShape_35 (by decide) ?_
      subst ex3
      exact hJ8 _ _ _ _ ((if_neg h2).trans (if_pos h4)).symm hW (lv_sub hl [0, 1, 2] rfl)
    · refine lv_iload_n F.1 F.2.1 dX3_isShape_20 rfl (lv_at hl 2 rfl) ?_
      refine lv_iconst (v := 0) F.1 F.2.1 dX3_isShape_21 (by decide) ?_
      refine lv_sipush (v := 500) F.1 F.2.1 dX3_isShape_22 (by decide) ?_
      refine jcip (jrunSN (As := [.int d, .int 0, .int 500]) (rest := []) F hT hW yc_X6_within ys_X6_within (by decide +kernel) (c_X6_within l E μ d 0 500) rfl hl.1 ⟨Nat.le_of_ble_eq_true rfl, Nat.le_of_ble_eq_true rfl⟩ rfl (Nat.le_of_ble_eq_true rfl) ⟨Nat.le_refl _, Nat.le_refl _⟩ dX3_isShape_25) hW (fun x5 H locs ex5 hW => ?_)
      refine lv_if_eq (tgt := 35) F.1 F.2.1 dX3_isShape_28 (by decide) (fun h6 => ?_) (fun h6 => ?_)
      · refine lv_iconst (v := 0) F.1 F.2.1 dX3_isShape_35 (by decide) ?_
        subst ex5
        subst ex3
        exact hJ8 _ _ _ _ ((if_neg h2).trans ((if_neg h4).trans (if_pos h6))).symm hW (lv_sub hl [0, 1, 2] rfl)
      · refine lv_iconst (v := 1) F.1 F.2.1 dX3_isShape_31 (by decide) ?_
        refine lv_goto (tgt := 36) F.1 F.2.1 dX3_isShape_32 (by decide) ?_
        subst ex5
        subst ex3
        exact hJ8 _ _ _ _ ((if_neg h2).trans ((if_neg h4).trans (if_neg h6))).symm hW (lv_sub hl [0, 1, 2] rfl)

def p_X3_addLine (S : Sv) (a : Int32) (b : Int32) (d : Int32) (lv : Int32) : Int32 × Sv :=
  let x1 : Int32 := p_X3_isShape a b d
  if x1 = 0 then
    (((-2) : Int32), S)
  else
    let x3 : Int32 := p_X6_within lv 0 1
    if x3 = 0 then
      (((-2) : Int32), S)
    else
      if (S 0 3) < 12 then
        let v7 : Int32 := (if lv = 1 then 1 else 0)
        let S9 : Sv := p_X1_becomeNew S (cn (S 0 3)) v7
        let S10 : Sv := p_X1_shape S9 (cn (S 0 3)) a b d
        let S11 : Sv := us S10 0 3 ((S10 0 3) + 1)
        (((S11 0 3) - 1 : Int32), S11)
      else
        (((-4) : Int32), S)

set_option maxHeartbeats 4000000 in
set_option maxRecDepth 100000 in
theorem c_X3_addLine (l : Launch) (E : mE) (μ : Mu) (r : Nat) (hr : r < 11) (S : Sv) (a : Int32) (b : Int32) (d : Int32) (lv : Int32) (hn : Bn (S 0 3) 12) : CtI l E yX3_addLine cX3_addLine 5 (some .int) 2 44 [.ref (ea E r 0), .int a, .int b, .int d, .int lv] (fo μ r S) (fun x μ' => x = (p_X3_addLine S a b d lv).1 ∧ μ' = fo μ r (p_X3_addLine S a b d lv).2) := by
  refine jMet (by decide +kernel) (Nat.le_of_ble_eq_true rfl) ?_
  intro p e s m below meth c ls F hT hr0 hlk hW hl
  have F : CallFix p m c cX3_addLine 5 s _ TB RX3 := F
  have hl : lv_has ls 5 [(0, .ref (ea E r 0)), (1, .int a), (2, .int b), (3, .int d), (4, .int lv)] := hl
  refine lv_iload_n F.1 F.2.1 dX3_addLine_0 rfl (lv_at hl 1 rfl) ?_
  refine lv_iload_n F.1 F.2.1 dX3_addLine_1 rfl (lv_at hl 2 rfl) ?_
  refine lv_iload_n F.1 F.2.1 dX3_addLine_2 rfl (lv_at hl 3 rfl) ?_
  refine jcip (jrunS (As := [.int a, .int b, .int d]) (rest := []) F hT hW yc_X3_isShape ys_X3_isShape ml_X3_92 (c_X3_isShape l E (fo μ r S) a b d) rfl hl.1 ⟨Nat.le_of_ble_eq_true rfl, Nat.le_of_ble_eq_true rfl⟩ rfl (Nat.le_of_ble_eq_true rfl) ⟨Nat.le_refl _, Nat.le_refl _⟩ dX3_addLine_3) hW (fun x1 H locs ex1 hW => ?_)
  refine lv_if_eq (tgt := 19) F.1 F.2.1 dX3_addLine_6 (by decide) (fun h2 => ?_) (fun h2 => ?_)
  · refine lv_bipush (v := (-2)) F.1 F.2.1 dX3_addLine_19 (by decide) ?_
    have hq : (((-2) : Int32), S) = p_X3_addLine S a b d lv := by
      subst ex1
      exact (if_pos h2).symm
    exact jri F hr0 hlk hW rfl dX3_addLine_21 ⟨congrArg Prod.fst hq, congrArg (fun z => fo μ r z.2) hq⟩
  · refine lv_iload F.1 F.2.1 dX3_addLine_9 (lv_at hl 4 rfl) ?_
    refine lv_iconst (v := 0) F.1 F.2.1 dX3_addLine_11 (by decide) ?_
    refine lv_iconst (v := 1) F.1 F.2.1 dX3_addLine_12 (by decide) ?_
    refine jcip (jrunSN (As := [.int lv, .int 0, .int 1]) (rest := []) F hT hW yc_X6_within ys_X6_within (by decide +kernel) (c_X6_within l E (fo μ r S) lv 0 1) rfl hl.1 ⟨Nat.le_of_ble_eq_true rfl, Nat.le_of_ble_eq_true rfl⟩ rfl (Nat.le_of_ble_eq_true rfl) ⟨Nat.le_refl _, Nat.le_refl _⟩ dX3_addLine_13) hW (fun x3 H locs ex3 hW => ?_)
    refine lv_if_ne (tgt := 22) F.1 F.2.1 dX3_addLine_16 (by decide) (fun h4 => ?_) (fun h4 => ?_)
    · refine lv_aload_n F.1 F.2.1 dX3_addLine_22 rfl (lv_at hl 0 rfl) ?_
      refine jget F hT hW fw_X3_54 (oSrv hr) (by decide) (rSrv3 hr) dX3_addLine_23 ?_
      refine lv_bipush (v := 12) F.1 F.2.1 dX3_addLine_26 (by decide) ?_
      refine lv_icmp_lt (tgt := 34) F.1 F.2.1 dX3_addLine_28 (by decide) (fun h5 => ?_) (fun h5 => ?_)
      · have hlt := bn_ltc hn (by decide) (lI 12) (by decide) (by assumption)
        refine lv_aload_n F.1 F.2.1 dX3_addLine_34 rfl (lv_at hl 0 rfl) ?_
        refine jgetR F hT hW fw_X3_25 (oSrv hr) (by decide) (rSrv2 hr) dX3_addLine_35 ?_
        refine lv_aload_n F.1 F.2.1 dX3_addLine_38 rfl (lv_at hl 0 rfl) ?_
        refine jget F hT hW fw_X3_54 (oSrv hr) (by decide) (rSrv3 hr) dX3_addLine_39 ?_
        refine jaald (t := 3) (C := RX1) F hT hW (cn (S 0 3)) (oLns hr) rfl (by omega) (by decide) hn.1 (rLns hr) dX3_addLine_42 ?_
        refine lv_iload F.1 F.2.1 dX3_addLine_43 (lv_at hl 4 rfl) ?_
        refine lv_iconst (v := 1) F.1 F.2.1 dX3_addLine_45 (by decide) ?_
        have hJ8 : ∀ (v7 : Int32) (H : Heap) (locs : List Loc) (ls : Array Slot), v7 = (if lv = 1 then 1 else 0) → Wd E s H locs (fo μ r S) → lv_has ls 5 [(0, .ref (ea E r 0)), (1, .int a), (2, .int b), (3, .int d), (4, .int lv)] → W p l e (rmO 2 44) s m ([.ref (ea E r 0), .int a, .int b, .int d, .int lv] : List Value).toArray below meth c H locs 0 0 (MQ below (va_Qi (fun x μ' => x = (p_X3_addLine S a b d lv).1 ∧ μ' = fo μ r (p_X3_addLine S a b d lv).2) (fun μ' t => MB E μ' t.heap) (AA E)) ([.ref (ea E r 0), .int a, .int b, .int d, .int lv] : List Value).toArray s 0 0 (AA E)) (F0 m 54 ls [.int v7, .ref (ea E r (3 + (cn (S 0 3))))]) := by
          intro v7 H locs ls ev7 hW hl
          refine jcvf (jrunV (As := [.int v7]) (rest := []) F hT hW yc_X1_becomeNew yv_X1_becomeNew ml_X3_95 (oLin hr (by omega)) (by decide) rfl (c_X1_becomeNew l E μ r hr S (cn (S 0 3)) v7 (by first | assumption | omega) (by subst_vars; first | exact iteP (P := fun z => z = 0 ∨ z = 1) (Or.inr rfl) (Or.inl rfl) | exact iteP (P := fun z => z = 0 ∨ z = 1) (Or.inl rfl) (Or.inr rfl))) rfl hl.1 ⟨Nat.le_of_ble_eq_true rfl, Nat.le_of_ble_eq_true rfl⟩ rfl (Nat.le_of_ble_eq_true rfl) ⟨Nat.le_refl _, Nat.le_refl _⟩ dX3_addLine_54) hW (fun S9 H locs eS9 hW => ?_)
          refine lv_aload_n F.1 F.2.1 dX3_addLine_57 rfl (lv_at hl 0 rfl) ?_
          refine jgetR F hT hW fw_X3_25 (oSrv hr) (by decide) (rSrv2 hr) dX3_addLine_58 ?_
          refine lv_aload_n F.1 F.2.1 dX3_addLine_61 rfl (lv_at hl 0 rfl) ?_
          refine jget F hT hW fw_X3_54 (oSrv hr) (by decide) (rSrv3 hr) dX3_addLine_62 ?_
          refine jaald (t := 3) (C := RX1) F hT hW (cn (S 0 3)) (oLns hr) rfl (by omega) (by decide) (by rw [eS9, fr_becomeNew (by omega)]; exact hn.1) (rLns hr) dX3_addLine_65 ?_
          refine lv_iload_n F.1 F.2.1 dX3_addLine_66 rfl (lv_at hl 1 rfl) ?_
          refine lv_iload_n F.1 F.2.1 dX3_addLine_67 rfl (lv_at hl 2 rfl) ?_
          refine lv_iload_n F.1 F.2.1 dX3_addLine_68 rfl (lv_at hl 3 rfl) ?_
          refine jcvf (jrunV (As := [.int a, .int b, .int d]) (rest := []) F hT hW yc_X1_shape yv_X1_shape ml_X3_99 (oLin hr (by omega)) (by decide) rfl (c_X1_shape l E μ r hr S9 (cn (S 0 3)) a b d (by first | assumption | omega)) rfl hl.1 ⟨Nat.le_of_ble_eq_true rfl, Nat.le_of_ble_eq_true rfl⟩ rfl (Nat.le_of_ble_eq_true rfl) ⟨Nat.le_refl _, Nat.le_refl _⟩ dX3_addLine_69) hW (fun S10 H locs eS10 hW => ?_)
          refine lv_aload_n F.1 F.2.1 dX3_addLine_72 rfl (lv_at hl 0 rfl) ?_
          refine lv_dup F.1 F.2.1 dX3_addLine_73 rfl ?_
          refine jget F hT hW fw_X3_54 (oSrv hr) (by decide) (rSrv3 hr) dX3_addLine_74 ?_
          refine lv_iconst (v := 1) F.1 F.2.1 dX3_addLine_77 (by decide) ?_
          refine lv_iadd F.1 F.2.1 dX3_addLine_78 ?_
          refine jput F hT hW fw_X3_54 ft_3_3 (oSrv hr) (by decide) (rn12 hr) (rSrv3 hr) rfl rfl dX3_addLine_79 (fun S11 H locs eS11 hW => ?_)
          refine lv_aload_n F.1 F.2.1 dX3_addLine_82 rfl (lv_at hl 0 rfl) ?_
          refine jget F hT hW fw_X3_54 (oSrv hr) (by decide) (rSrv3 hr) dX3_addLine_83 ?_
          refine lv_iconst (v := 1) F.1 F.2.1 dX3_addLine_86 (by decide) ?_
          refine lv_isub F.1 F.2.1 dX3_addLine_87 ?_
          have hq : (((S11 0 3) - 1 : Int32), S11) = p_X3_addLine S a b d lv := by
            subst eS11
            subst eS10
            subst eS9
            subst ev7
            subst ex3
            subst ex1
            exact ((if_neg h2).trans ((if_neg h4).trans (if_pos h5))).symm
          exact jri F hr0 hlk hW rfl dX3_addLine_88 ⟨congrArg Prod.fst hq, congrArg (fun z => fo μ r z.2) hq⟩
        refine lv_icmp_ne (tgt := 53) F.1 F.2.1 dX3_addLine_46 (by decide) (fun h6 => ?_) (fun h6 => ?_)
        · refine lv_iconst (v := 0) F.1 F.2.1 dX3_addLine_53 (by decide) ?_
          exact hJ8 _ _ _ _ (if_neg h6).symm hW (lv_sub hl [0, 1, 2, 3, 4] rfl)
        · refine lv_iconst (v := 1) F.1 F.2.1 dX3_addLine_49 (by decide) ?_
          refine lv_goto (tgt := 54) F.1 F.2.1 dX3_addLine_50 (by decide) ?_
          exact hJ8 _ _ _ _ (if_pos h6).symm hW (lv_sub hl [0, 1, 2, 3, 4] rfl)
      · refine lv_bipush (v := (-4)) F.1 F.2.1 dX3_addLine_31 (by decide) ?_
        have hq : (((-4) : Int32), S) = p_X3_addLine S a b d lv := by
          subst ex3
          subst ex1
          exact ((if_neg h2).trans ((if_neg h4).trans (if_neg h5))).symm
        exact jri F hr0 hlk hW rfl dX3_addLine_33 ⟨congrArg Prod.fst hq, congrArg (fun z => fo μ r z.2) hq⟩
    · refine lv_bipush (v := (-2)) F.1 F.2.1 dX3_addLine_19 (by decide) ?_
      have hq : (((-2) : Int32), S) = p_X3_addLine S a b d lv := by
        subst ex3
        subst ex1
        exact ((if_neg h2).trans (if_pos h4)).symm
      exact jri F hr0 hlk hW rfl dX3_addLine_21 ⟨congrArg Prod.fst hq, congrArg (fun z => fo μ r z.2) hq⟩

def p_X3_changeLine (S : Sv) (ln : Int32) (a : Int32) (b : Int32) (d : Int32) : Int32 × Sv :=
  let x1 : Int32 := p_X3_hasLine S ln
  if x1 = 0 then
    (((-1) : Int32), S)
  else
    let x3 : Int32 := p_X3_isShape a b d
    if x3 = 0 then
      (((-2) : Int32), S)
    else
      let S5 : Sv := p_X1_shape S (cn ln) a b d
      ((S (3 + (cn ln)) 0 : Int32), S5)

set_option maxHeartbeats 4000000 in
set_option maxRecDepth 100000 in
theorem c_X3_changeLine (l : Launch) (E : mE) (μ : Mu) (r : Nat) (hr : r < 11) (S : Sv) (ln : Int32) (a : Int32) (b : Int32) (d : Int32) (hn : Bn (S 0 3) 12) : CtI l E yX3_changeLine cX3_changeLine 6 (some .int) 2 44 [.ref (ea E r 0), .int ln, .int a, .int b, .int d] (fo μ r S) (fun x μ' => x = (p_X3_changeLine S ln a b d).1 ∧ μ' = fo μ r (p_X3_changeLine S ln a b d).2) := by
  refine jMet (by decide +kernel) (Nat.le_of_ble_eq_true rfl) ?_
  intro p e s m below meth c ls F hT hr0 hlk hW hl
  have F : CallFix p m c cX3_changeLine 6 s _ TB RX3 := F
  have hl : lv_has ls 6 [(0, .ref (ea E r 0)), (1, .int ln), (2, .int a), (3, .int b), (4, .int d)] := hl
  refine lv_aload_n F.1 F.2.1 dX3_changeLine_0 rfl (lv_at hl 0 rfl) ?_
  refine lv_iload_n F.1 F.2.1 dX3_changeLine_1 rfl (lv_at hl 1 rfl) ?_
  refine jcip (jrunV (As := [.int ln]) (rest := []) F hT hW yc_X3_hasLine yv_X3_hasLine ml_X3_103 (oSrv hr) (by decide) rfl (c_X3_hasLine l E μ r hr S ln) rfl hl.1 ⟨Nat.le_of_ble_eq_true rfl, Nat.le_of_ble_eq_true rfl⟩ rfl (Nat.le_of_ble_eq_true rfl) ⟨Nat.le_refl _, Nat.le_refl _⟩ dX3_changeLine_2) hW (fun x1 H locs ex1 hW => ?_)
  refine lv_if_ne (tgt := 10) F.1 F.2.1 dX3_changeLine_5 (by decide) (fun h2 => ?_) (fun h2 => ?_)
  · refine lv_iload_n F.1 F.2.1 dX3_changeLine_10 rfl (lv_at hl 2 rfl) ?_
    refine lv_iload_n F.1 F.2.1 dX3_changeLine_11 rfl (lv_at hl 3 rfl) ?_
    refine lv_iload F.1 F.2.1 dX3_changeLine_12 (lv_at hl 4 rfl) ?_
    refine jcip (jrunS (As := [.int a, .int b, .int d]) (rest := []) F hT hW yc_X3_isShape ys_X3_isShape ml_X3_92 (c_X3_isShape l E (fo μ r S) a b d) rfl hl.1 ⟨Nat.le_of_ble_eq_true rfl, Nat.le_of_ble_eq_true rfl⟩ rfl (Nat.le_of_ble_eq_true rfl) ⟨Nat.le_refl _, Nat.le_refl _⟩ dX3_changeLine_14) hW (fun x3 H locs ex3 hW => ?_)
    refine lv_if_ne (tgt := 23) F.1 F.2.1 dX3_changeLine_17 (by decide) (fun h4 => ?_) (fun h4 => ?_)
    · obtain ⟨hl1, hl2⟩ := wL (a := ln) hn (by decide) (by assumption) (by assumption)
      have hn2 := hn.2
      refine lv_aload_n F.1 F.2.1 dX3_changeLine_23 rfl (lv_at hl 0 rfl) ?_
      refine jgetR F hT hW fw_X3_25 (oSrv hr) (by decide) (rSrv2 hr) dX3_changeLine_24 ?_
      refine lv_iload_n F.1 F.2.1 dX3_changeLine_27 rfl (lv_at hl 1 rfl) ?_
      refine jaald (t := 3) (C := RX1) F hT hW (cn ln) (oLns hr) rfl (by omega) (by decide) hl1 (rLns hr) dX3_changeLine_28 ?_
      refine jget F hT hW fw_X3_107 (oLin hr (by omega)) (by decide) (rLin hr (by omega)) dX3_changeLine_29 ?_
      refine lv_istore (lv' := [(5, .int (S (3 + (cn ln)) 0)), (0, .ref (ea E r 0)), (1, .int ln), (2, .int a), (3, .int b), (4, .int d)]) F.1 F.2.1 dX3_changeLine_32 hl (by decide) rfl (fun ls hl => ?_)
      refine lv_aload_n F.1 F.2.1 dX3_changeLine_34 rfl (lv_at hl 1 rfl) ?_
      refine jgetR F hT hW fw_X3_25 (oSrv hr) (by decide) (rSrv2 hr) dX3_changeLine_35 ?_
      refine lv_iload_n F.1 F.2.1 dX3_changeLine_38 rfl (lv_at hl 2 rfl) ?_
      refine jaald (t := 3) (C := RX1) F hT hW (cn ln) (oLns hr) rfl (by omega) (by decide) hl1 (rLns hr) dX3_changeLine_39 ?_
      refine lv_iload_n F.1 F.2.1 dX3_changeLine_40 rfl (lv_at hl 3 rfl) ?_
      refine lv_iload_n F.1 F.2.1 dX3_changeLine_41 rfl (lv_at hl 4 rfl) ?_
      refine lv_iload F.1 F.2.1 dX3_changeLine_42 (lv_at hl 5 rfl) ?_
      refine jcvf (jrunV (As := [.int a, .int b, .int d]) (rest := []) F hT hW yc_X1_shape yv_X1_shape ml_X3_99 (oLin hr (by omega)) (by decide) rfl (c_X1_shape l E μ r hr S (cn ln) a b d (by first | assumption | omega)) rfl hl.1 ⟨Nat.le_of_ble_eq_true rfl, Nat.le_of_ble_eq_true rfl⟩ rfl (Nat.le_of_ble_eq_true rfl) ⟨Nat.le_refl _, Nat.le_refl _⟩ dX3_changeLine_44) hW (fun S5 H locs eS5 hW => ?_)
      refine lv_iload F.1 F.2.1 dX3_changeLine_47 (lv_at hl 0 rfl) ?_
      have hq : ((S (3 + (cn ln)) 0 : Int32), S5) = p_X3_changeLine S ln a b d := by
        subst eS5
        subst ex3
        subst ex1
        exact ((if_neg h2).trans (if_neg h4)).symm
      exact jri F hr0 hlk hW rfl dX3_changeLine_49 ⟨congrArg Prod.fst hq, congrArg (fun z => fo μ r z.2) hq⟩
    · refine lv_bipush (v := (-2)) F.1 F.2.1 dX3_changeLine_20 (by decide) ?_
      have hq : (((-2) : Int32), S) = p_X3_changeLine S ln a b d := by
        subst ex3
        subst ex1
        exact ((if_neg h2).trans (if_pos h4)).symm
      exact jri F hr0 hlk hW rfl dX3_changeLine_22 ⟨congrArg Prod.fst hq, congrArg (fun z => fo μ r z.2) hq⟩
  · refine lv_iconst (v := (-1)) F.1 F.2.1 dX3_changeLine_8 (by decide) ?_
    have hq : (((-1) : Int32), S) = p_X3_changeLine S ln a b d := by
      subst ex1
      exact (if_pos h2).symm
    exact jri F hr0 hlk hW rfl dX3_changeLine_9 ⟨congrArg Prod.fst hq, congrArg (fun z => fo μ r z.2) hq⟩

def p_X3_addTimer (S : Sv) (ln : Int32) (pe : Int32) (fi : Int32) : Int32 × Sv :=
  let x1 : Int32 := p_X3_hasLine S ln
  if x1 = 0 then
    (((-1) : Int32), S)
  else
    let x3 : Int32 := p_X6_within pe 1 200
    if x3 = 0 then
      (((-2) : Int32), S)
    else
      let x5 : Int32 := p_X6_within fi (S 0 0) ((S 0 0) + 500)
      if x5 = 0 then
        (((-2) : Int32), S)
      else
        if (S 0 5) < 6 then
          if (S (3 + (cn ln)) 3) = 0 then
            let S9 : Sv := us S (16 + (cn (S 0 5))) 0 ln
            let S10 : Sv := us S9 (16 + (cn (S 0 5))) 1 pe
            let S11 : Sv := us S10 (16 + (cn (S 0 5))) 2 fi
            let S12 : Sv := us S11 0 5 ((S11 0 5) + 1)
            (((S12 0 5) - 1 : Int32), S12)
          else
            (((-5) : Int32), S)
        else
          (((-4) : Int32), S)

set_option maxHeartbeats 4000000 in
set_option maxRecDepth 100000 in
theorem c_X3_addTimer (l : Launch) (E : mE) (μ : Mu) (r : Nat) (hr : r < 11) (S : Sv) (ln : Int32) (pe : Int32) (fi : Int32) (hn : Bn (S 0 3) 12) (ht : Bn (S 0 5) 6) : CtI l E yX3_addTimer cX3_addTimer 5 (some .int) 2 43 [.ref (ea E r 0), .int ln, .int pe, .int fi] (fo μ r S) (fun x μ' => x = (p_X3_addTimer S ln pe fi).1 ∧ μ' = fo μ r (p_X3_addTimer S ln pe fi).2) := by
  refine jMet (by decide +kernel) (Nat.le_of_ble_eq_true rfl) ?_
  intro p e s m below meth c ls F hT hr0 hlk hW hl
  have F : CallFix p m c cX3_addTimer 5 s _ TB RX3 := F
  have hl : lv_has ls 5 [(0, .ref (ea E r 0)), (1, .int ln), (2, .int pe), (3, .int fi)] := hl
  refine lv_aload_n F.1 F.2.1 dX3_addTimer_0 rfl (lv_at hl 0 rfl) ?_
  refine lv_iload_n F.1 F.2.1 dX3_addTimer_1 rfl (lv_at hl 1 rfl) ?_
  refine jcip (jrunV (As := [.int ln]) (rest := []) F hT hW yc_X3_hasLine yv_X3_hasLine ml_X3_103 (oSrv hr) (by decide) rfl (c_X3_hasLine l E μ r hr S ln) rfl hl.1 ⟨Nat.le_of_ble_eq_true rfl, Nat.le_of_ble_eq_true rfl⟩ rfl (Nat.le_of_ble_eq_true rfl) ⟨Nat.le_refl _, Nat.le_refl _⟩ dX3_addTimer_2) hW (fun x1 H locs ex1 hW => ?_)
  refine lv_if_ne (tgt := 10) F.1 F.2.1 dX3_addTimer_5 (by decide) (fun h2 => ?_) (fun h2 => ?_)
  · refine lv_iload_n F.1 F.2.1 dX3_addTimer_10 rfl (lv_at hl 2 rfl) ?_
    refine lv_iconst (v := 1) F.1 F.2.1 dX3_addTimer_11 (by decide) ?_
    refine lv_sipush (v := 200) F.1 F.2.1 dX3_addTimer_12 (by decide) ?_
    refine jcip (jrunSN (As := [.int pe, .int 1, .int 200]) (rest := []) F hT hW yc_X6_within ys_X6_within (by decide +kernel) (c_X6_within l E (fo μ r S) pe 1 200) rfl hl.1 ⟨Nat.le_of_ble_eq_true rfl, Nat.le_of_ble_eq_true rfl⟩ rfl (Nat.le_of_ble_eq_true rfl) ⟨Nat.le_refl _, Nat.le_refl _⟩ dX3_addTimer_15) hW (fun x3 H locs ex3 hW => ?_)
    refine lv_if_eq (tgt := 40) F.1 F.2.1 dX3_addTimer_18 (by decide) (fun h4 => ?_) (fun h4 => ?_)
    · refine lv_bipush (v := (-2)) F.1 F.2.1 dX3_addTimer_40 (by decide) ?_
      have hq : (((-2) : Int32), S) = p_X3_addTimer S ln pe fi := by
        subst ex3
        subst ex1
        exact ((if_neg h2).trans (if_pos h4)).symm
      exact jri F hr0 hlk hW rfl dX3_addTimer_42 ⟨congrArg Prod.fst hq, congrArg (fun z => fo μ r z.2) hq⟩
    · refine lv_iload_n F.1 F.2.1 dX3_addTimer_21 rfl (lv_at hl 3 rfl) ?_
      refine lv_aload_n F.1 F.2.1 dX3_addTimer_22 rfl (lv_at hl 0 rfl) ?_
      refine jget F hT hW fw_X3_44 (oSrv hr) (by decide) (rSrv0 hr) dX3_addTimer_23 ?_
      refine lv_aload_n F.1 F.2.1 dX3_addTimer_26 rfl (lv_at hl 0 rfl) ?_
      refine jget F hT hW fw_X3_44 (oSrv hr) (by decide) (rSrv0 hr) dX3_addTimer_27 ?_
      refine lv_sipush (v := 500) F.1 F.2.1 dX3_addTimer_30 (by decide) ?_
      refine lv_iadd F.1 F.2.1 dX3_addTimer_33 ?_
      refine jcip (jrunSN (As := [.int fi, .int (S 0 0), .int ((S 0 0) + 500)]) (rest := []) F hT hW yc_X6_within ys_X6_within (by decide +kernel) (c_X6_within l E (fo μ r S) fi (S 0 0) ((S 0 0) + 500)) rfl hl.1 ⟨Nat.le_of_ble_eq_true rfl, Nat.le_of_ble_eq_true rfl⟩ rfl (Nat.le_of_ble_eq_true rfl) ⟨Nat.le_refl _, Nat.le_refl _⟩ dX3_addTimer_34) hW (fun x5 H locs ex5 hW => ?_)
      refine lv_if_ne (tgt := 43) F.1 F.2.1 dX3_addTimer_37 (by decide) (fun h6 => ?_) (fun h6 => ?_)
      · refine lv_aload_n F.1 F.2.1 dX3_addTimer_43 rfl (lv_at hl 0 rfl) ?_
        refine jget F hT hW fw_X3_61 (oSrv hr) (by decide) (rSrv5 hr) dX3_addTimer_44 ?_
        refine lv_bipush (v := 6) F.1 F.2.1 dX3_addTimer_47 (by decide) ?_
        refine lv_icmp_lt (tgt := 55) F.1 F.2.1 dX3_addTimer_49 (by decide) (fun h7 => ?_) (fun h7 => ?_)
        · obtain ⟨hl1, hl2⟩ := wL (a := ln) hn (by decide) (by assumption) (by assumption)
          have hn2 := hn.2
          refine lv_aload_n F.1 F.2.1 dX3_addTimer_55 rfl (lv_at hl 0 rfl) ?_
          refine jgetR F hT hW fw_X3_25 (oSrv hr) (by decide) (rSrv2 hr) dX3_addTimer_56 ?_
          refine lv_iload_n F.1 F.2.1 dX3_addTimer_59 rfl (lv_at hl 1 rfl) ?_
          refine jaald (t := 3) (C := RX1) F hT hW (cn ln) (oLns hr) rfl (by omega) (by decide) hl1 (rLns hr) dX3_addTimer_60 ?_
          refine jget F hT hW fw_X3_110 (oLin hr (by omega)) (by decide) (rLin hr (by omega)) dX3_addTimer_61 ?_
          refine lv_if_eq (tgt := 70) F.1 F.2.1 dX3_addTimer_64 (by decide) (fun h8 => ?_) (fun h8 => ?_)
          · have htl := bn_ltc ht (by decide) (lI 6) (by decide) (by assumption)
            refine lv_aload_n F.1 F.2.1 dX3_addTimer_70 rfl (lv_at hl 0 rfl) ?_
            refine jgetR F hT hW fw_X3_32 (oSrv hr) (by decide) (rSrv4 hr) dX3_addTimer_71 ?_
            refine lv_aload_n F.1 F.2.1 dX3_addTimer_74 rfl (lv_at hl 0 rfl) ?_
            refine jget F hT hW fw_X3_61 (oSrv hr) (by decide) (rSrv5 hr) dX3_addTimer_75 ?_
            refine jaald (t := 4) (C := RX5) F hT hW (cn (S 0 5)) (oTms hr) rfl (by omega) (by decide) ht.1 (rTms hr) dX3_addTimer_78 ?_
            refine lv_astore (lv' := [(4, .ref (ea E r (16 + (cn (S 0 5))))), (0, .ref (ea E r 0)), (1, .int ln), (2, .int pe), (3, .int fi)]) F.1 F.2.1 dX3_addTimer_79 hl (by decide) rfl (fun ls hl => ?_)
            refine lv_aload F.1 F.2.1 dX3_addTimer_81 (lv_at hl 0 rfl) ?_
            refine lv_iload_n F.1 F.2.1 dX3_addTimer_83 rfl (lv_at hl 2 rfl) ?_
            refine jput F hT hW fw_X3_114 ft_5_0 (oTim hr (by omega)) (by decide) (rn12 hr) (rTim hr (by omega)) rfl rfl dX3_addTimer_84 (fun S9 H locs eS9 hW => ?_)
            refine lv_aload F.1 F.2.1 dX3_addTimer_87 (lv_at hl 0 rfl) ?_
            refine lv_iload_n F.1 F.2.1 dX3_addTimer_89 rfl (lv_at hl 3 rfl) ?_
            refine jput F hT hW fw_X3_117 ft_5_1 (oTim hr (by omega)) (by decide) (rn12 hr) (rTim hr (by omega)) rfl rfl dX3_addTimer_90 (fun S10 H locs eS10 hW => ?_)
            refine lv_aload F.1 F.2.1 dX3_addTimer_93 (lv_at hl 0 rfl) ?_
            refine lv_iload_n F.1 F.2.1 dX3_addTimer_95 rfl (lv_at hl 4 rfl) ?_
            refine jput F hT hW fw_X3_120 ft_5_2 (oTim hr (by omega)) (by decide) (rn12 hr) (rTim hr (by omega)) rfl rfl dX3_addTimer_96 (fun S11 H locs eS11 hW => ?_)
            refine lv_aload_n F.1 F.2.1 dX3_addTimer_99 rfl (lv_at hl 1 rfl) ?_
            refine lv_dup F.1 F.2.1 dX3_addTimer_100 rfl ?_
            refine jget F hT hW fw_X3_61 (oSrv hr) (by decide) (rSrv5 hr) dX3_addTimer_101 ?_
            refine lv_iconst (v := 1) F.1 F.2.1 dX3_addTimer_104 (by decide) ?_
            refine lv_iadd F.1 F.2.1 dX3_addTimer_105 ?_
            refine jput F hT hW fw_X3_61 ft_3_5 (oSrv hr) (by decide) (rn12 hr) (rSrv5 hr) rfl rfl dX3_addTimer_106 (fun S12 H locs eS12 hW => ?_)
            refine lv_aload_n F.1 F.2.1 dX3_addTimer_109 rfl (lv_at hl 1 rfl) ?_
            refine jget F hT hW fw_X3_61 (oSrv hr) (by decide) (rSrv5 hr) dX3_addTimer_110 ?_
            refine lv_iconst (v := 1) F.1 F.2.1 dX3_addTimer_113 (by decide) ?_
            refine lv_isub F.1 F.2.1 dX3_addTimer_114 ?_
            have hq : (((S12 0 5) - 1 : Int32), S12) = p_X3_addTimer S ln pe fi := by
              subst eS12
              subst eS11
              subst eS10
              subst eS9
              subst ex5
              subst ex3
              subst ex1
              exact ((if_neg h2).trans ((if_neg h4).trans ((if_neg h6).trans ((if_pos h7).trans (if_pos h8))))).symm
            exact jri F hr0 hlk hW rfl dX3_addTimer_115 ⟨congrArg Prod.fst hq, congrArg (fun z => fo μ r z.2) hq⟩
          · refine lv_bipush (v := (-5)) F.1 F.2.1 dX3_addTimer_67 (by decide) ?_
            have hq : (((-5) : Int32), S) = p_X3_addTimer S ln pe fi := by
              subst ex5
              subst ex3
              subst ex1
              exact ((if_neg h2).trans ((if_neg h4).trans ((if_neg h6).trans ((if_pos h7).trans (if_neg h8))))).symm
            exact jri F hr0 hlk hW rfl dX3_addTimer_69 ⟨congrArg Prod.fst hq, congrArg (fun z => fo μ r z.2) hq⟩
        · refine lv_bipush (v := (-4)) F.1 F.2.1 dX3_addTimer_52 (by decide) ?_
          have hq : (((-4) : Int32), S) = p_X3_addTimer S ln pe fi := by
            subst ex5
            subst ex3
            subst ex1
            exact ((if_neg h2).trans ((if_neg h4).trans ((if_neg h6).trans (if_neg h7)))).symm
          exact jri F hr0 hlk hW rfl dX3_addTimer_54 ⟨congrArg Prod.fst hq, congrArg (fun z => fo μ r z.2) hq⟩
      · refine lv_bipush (v := (-2)) F.1 F.2.1 dX3_addTimer_40 (by decide) ?_
        have hq : (((-2) : Int32), S) = p_X3_addTimer S ln pe fi := by
          subst ex5
          subst ex3
          subst ex1
          exact ((if_neg h2).trans ((if_neg h4).trans (if_pos h6))).symm
        exact jri F hr0 hlk hW rfl dX3_addTimer_42 ⟨congrArg Prod.fst hq, congrArg (fun z => fo μ r z.2) hq⟩
  · refine lv_iconst (v := (-1)) F.1 F.2.1 dX3_addTimer_8 (by decide) ?_
    have hq : (((-1) : Int32), S) = p_X3_addTimer S ln pe fi := by
      subst ex1
      exact (if_pos h2).symm
    exact jri F hr0 hlk hW rfl dX3_addTimer_9 ⟨congrArg Prod.fst hq, congrArg (fun z => fo μ r z.2) hq⟩

def p_X3_raiseLine (S : Sv) (ln : Int32) : Int32 × Sv :=
  let x1 : Int32 := p_X3_hasLine S ln
  if x1 = 0 then
    (((-1) : Int32), S)
  else
    if (S (3 + (cn ln)) 3) = 0 then
      let v5 : Int32 := (if (S 1 5) = 1 then 1 else 0)
      let x7 : Int32 := (p_X1_takeEdge S (cn ln) v5).1
      let S8 : Sv := (p_X1_takeEdge S (cn ln) v5).2
      let v10 : Int32 := (if x7 = 0 then 0 else 1)
      ((v10 : Int32), S8)
    else
      (((-5) : Int32), S)

set_option maxHeartbeats 4000000 in
set_option maxRecDepth 100000 in
theorem c_X3_raiseLine (l : Launch) (E : mE) (μ : Mu) (r : Nat) (hr : r < 11) (S : Sv) (ln : Int32) (hn : Bn (S 0 3) 12) : CtI l E yX3_raiseLine cX3_raiseLine 2 (some .int) 2 43 [.ref (ea E r 0), .int ln] (fo μ r S) (fun x μ' => x = (p_X3_raiseLine S ln).1 ∧ μ' = fo μ r (p_X3_raiseLine S ln).2) := by
  refine jMet (by decide +kernel) (Nat.le_of_ble_eq_true rfl) ?_
  intro p e s m below meth c ls F hT hr0 hlk hW hl
  have F : CallFix p m c cX3_raiseLine 2 s _ TB RX3 := F
  have hl : lv_has ls 2 [(0, .ref (ea E r 0)), (1, .int ln)] := hl
  refine lv_aload_n F.1 F.2.1 dX3_raiseLine_0 rfl (lv_at hl 0 rfl) ?_
  refine lv_iload_n F.1 F.2.1 dX3_raiseLine_1 rfl (lv_at hl 1 rfl) ?_
  refine jcip (jrunV (As := [.int ln]) (rest := []) F hT hW yc_X3_hasLine yv_X3_hasLine ml_X3_103 (oSrv hr) (by decide) rfl (c_X3_hasLine l E μ r hr S ln) rfl hl.1 ⟨Nat.le_of_ble_eq_true rfl, Nat.le_of_ble_eq_true rfl⟩ rfl (Nat.le_of_ble_eq_true rfl) ⟨Nat.le_refl _, Nat.le_refl _⟩ dX3_raiseLine_2) hW (fun x1 H locs ex1 hW => ?_)
  refine lv_if_ne (tgt := 10) F.1 F.2.1 dX3_raiseLine_5 (by decide) (fun h2 => ?_) (fun h2 => ?_)
  · obtain ⟨hl1, hl2⟩ := wL (a := ln) hn (by decide) (by assumption) (by assumption)
    have hn2 := hn.2
    refine lv_aload_n F.1 F.2.1 dX3_raiseLine_10 rfl (lv_at hl 0 rfl) ?_
    refine jgetR F hT hW fw_X3_25 (oSrv hr) (by decide) (rSrv2 hr) dX3_raiseLine_11 ?_
    refine lv_iload_n F.1 F.2.1 dX3_raiseLine_14 rfl (lv_at hl 1 rfl) ?_
    refine jaald (t := 3) (C := RX1) F hT hW (cn ln) (oLns hr) rfl (by omega) (by decide) hl1 (rLns hr) dX3_raiseLine_15 ?_
    refine jget F hT hW fw_X3_110 (oLin hr (by omega)) (by decide) (rLin hr (by omega)) dX3_raiseLine_16 ?_
    refine lv_if_eq (tgt := 25) F.1 F.2.1 dX3_raiseLine_19 (by decide) (fun h3 => ?_) (fun h3 => ?_)
    · refine lv_aload_n F.1 F.2.1 dX3_raiseLine_25 rfl (lv_at hl 0 rfl) ?_
      refine jgetR F hT hW fw_X3_25 (oSrv hr) (by decide) (rSrv2 hr) dX3_raiseLine_26 ?_
      refine lv_iload_n F.1 F.2.1 dX3_raiseLine_29 rfl (lv_at hl 1 rfl) ?_
      refine jaald (t := 3) (C := RX1) F hT hW (cn ln) (oLns hr) rfl (by omega) (by decide) hl1 (rLns hr) dX3_raiseLine_30 ?_
      refine lv_aload_n F.1 F.2.1 dX3_raiseLine_31 rfl (lv_at hl 0 rfl) ?_
      refine jgetR F hT hW fw_X3_18 (oSrv hr) (by decide) (rSrv1 hr) dX3_raiseLine_32 ?_
      refine lv_iconst (v := 5) F.1 F.2.1 dX3_raiseLine_35 (by decide) ?_
      refine jiald F hT hW 5 (oSet hr) (by omega) (by decide) (lI 5) (rSet hr) dX3_raiseLine_36 ?_
      refine lv_iconst (v := 1) F.1 F.2.1 dX3_raiseLine_37 (by decide) ?_
      have hJ6 : ∀ (v5 : Int32) (H : Heap) (locs : List Loc) (ls : Array Slot), v5 = (if (S 1 5) = 1 then 1 else 0) → Wd E s H locs (fo μ r S) → lv_has ls 2 [(0, .ref (ea E r 0)), (1, .int ln)] → W p l e (rmO 2 43) s m ([.ref (ea E r 0), .int ln] : List Value).toArray below meth c H locs 0 0 (MQ below (va_Qi (fun x μ' => x = (p_X3_raiseLine S ln).1 ∧ μ' = fo μ r (p_X3_raiseLine S ln).2) (fun μ' t => MB E μ' t.heap) (AA E)) ([.ref (ea E r 0), .int ln] : List Value).toArray s 0 0 (AA E)) (F0 m 46 ls [.int v5, .ref (ea E r (3 + (cn ln)))]) := by
        intro v5 H locs ls ev5 hW hl
        refine jcif (jrunV (As := [.int v5]) (rest := []) F hT hW yc_X1_takeEdge yv_X1_takeEdge ml_X3_126 (oLin hr (by omega)) (by decide) rfl (c_X1_takeEdge l E μ r hr S (cn ln) v5 (by first | assumption | omega)) rfl hl.1 ⟨Nat.le_of_ble_eq_true rfl, Nat.le_of_ble_eq_true rfl⟩ rfl (Nat.le_of_ble_eq_true rfl) ⟨Nat.le_refl _, Nat.le_refl _⟩ dX3_raiseLine_46) hW (fun x7 S8 H locs ex7 eS8 hW => ?_)
        have hJ11 : ∀ (v10 : Int32) (H : Heap) (locs : List Loc) (ls : Array Slot), v10 = (if x7 = 0 then 0 else 1) → Wd E s H locs (fo μ r S8) → lv_has ls 2 [(0, .ref (ea E r 0)), (1, .int ln)] → W p l e (rmO 2 43) s m ([.ref (ea E r 0), .int ln] : List Value).toArray below meth c H locs 0 0 (MQ below (va_Qi (fun x μ' => x = (p_X3_raiseLine S ln).1 ∧ μ' = fo μ r (p_X3_raiseLine S ln).2) (fun μ' t => MB E μ' t.heap) (AA E)) ([.ref (ea E r 0), .int ln] : List Value).toArray s 0 0 (AA E)) (F0 m 57 ls [.int v10]) := by
          intro v10 H locs ls ev10 hW hl
          have hq : ((v10 : Int32), S8) = p_X3_raiseLine S ln := by
            subst ev10
            subst eS8
            subst ex7
            subst ev5
            subst ex1
            exact ((if_neg h2).trans (if_pos h3)).symm
          exact jri F hr0 hlk hW rfl dX3_raiseLine_57 ⟨congrArg Prod.fst hq, congrArg (fun z => fo μ r z.2) hq⟩
        refine lv_if_eq (tgt := 56) F.1 F.2.1 dX3_raiseLine_49 (by decide) (fun h9 => ?_) (fun h9 => ?_)
        · refine lv_iconst (v := 0) F.1 F.2.1 dX3_raiseLine_56 (by decide) ?_
          exact hJ11 _ _ _ _ (if_pos h9).symm hW (lv_sub hl [0, 1] rfl)
        · refine lv_iconst (v := 1) F.1 F.2.1 dX3_raiseLine_52 (by decide) ?_
          refine lv_goto (tgt := 57) F.1 F.2.1 dX3_raiseLine_53 (by decide) ?_
          exact hJ11 _ _ _ _ (if_neg h9).symm hW (lv_sub hl [0, 1] rfl)
      refine lv_icmp_ne (tgt := 45) F.1 F.2.1 dX3_raiseLine_38 (by decide) (fun h4 => ?_) (fun h4 => ?_)
      · refine lv_iconst (v := 0) F.1 F.2.1 dX3_raiseLine_45 (by decide) ?_
        exact hJ6 _ _ _ _ (if_neg h4).symm hW (lv_sub hl [0, 1] rfl)
      · refine lv_iconst (v := 1) F.1 F.2.1 dX3_raiseLine_41 (by decide) ?_
        refine lv_goto (tgt := 46) F.1 F.2.1 dX3_raiseLine_42 (by decide) ?_
        exact hJ6 _ _ _ _ (if_pos h4).symm hW (lv_sub hl [0, 1] rfl)
    · refine lv_bipush (v := (-5)) F.1 F.2.1 dX3_raiseLine_22 (by decide) ?_
      have hq : (((-5) : Int32), S) = p_X3_raiseLine S ln := by
        subst ex1
        exact ((if_neg h2).trans (if_neg h3)).symm
      exact jri F hr0 hlk hW rfl dX3_raiseLine_24 ⟨congrArg Prod.fst hq, congrArg (fun z => fo μ r z.2) hq⟩
  · refine lv_iconst (v := (-1)) F.1 F.2.1 dX3_raiseLine_8 (by decide) ?_
    have hq : (((-1) : Int32), S) = p_X3_raiseLine S ln := by
      subst ex1
      exact (if_pos h2).symm
    exact jri F hr0 hlk hW rfl dX3_raiseLine_9 ⟨congrArg Prod.fst hq, congrArg (fun z => fo μ r z.2) hq⟩

def p_X3_holdLine (S : Sv) (ln : Int32) (dv : Int32) (up : Int32) : Int32 × Sv :=
  let x1 : Int32 := p_X3_hasLine S ln
  if x1 = 0 then
    (((-1) : Int32), S)
  else
    let x3 : Int32 := p_X6_within dv 0 3
    if x3 = 0 then
      (((-2) : Int32), S)
    else
      let x5 : Int32 := p_X6_within up 0 1
      if x5 = 0 then
        (((-2) : Int32), S)
      else
        if (S (3 + (cn ln)) 3) = 0 then
          (((-5) : Int32), S)
        else
          let v9 : Int32 := (if up = 1 then 1 else 0)
          let S11 : Sv := p_X1_moveDevice S (cn ln) (cn dv) v9
          ((S11 (3 + (cn ln)) 8 : Int32), S11)

set_option maxHeartbeats 4000000 in
set_option maxRecDepth 100000 in
theorem c_X3_holdLine (l : Launch) (E : mE) (μ : Mu) (r : Nat) (hr : r < 11) (S : Sv) (ln : Int32) (dv : Int32) (up : Int32) (hn : Bn (S 0 3) 12) : CtI l E yX3_holdLine cX3_holdLine 4 (some .int) 2 44 [.ref (ea E r 0), .int ln, .int dv, .int up] (fo μ r S) (fun x μ' => x = (p_X3_holdLine S ln dv up).1 ∧ μ' = fo μ r (p_X3_holdLine S ln dv up).2) := by
  refine jMet (by decide +kernel) (Nat.le_of_ble_eq_true rfl) ?_
  intro p e s m below meth c ls F hT hr0 hlk hW hl
  have F : CallFix p m c cX3_holdLine 4 s _ TB RX3 := F
  have hl : lv_has ls 4 [(0, .ref (ea E r 0)), (1, .int ln), (2, .int dv), (3, .int up)] := hl
  refine lv_aload_n F.1 F.2.1 dX3_holdLine_0 rfl (lv_at hl 0 rfl) ?_
  refine lv_iload_n F.1 F.2.1 dX3_holdLine_1 rfl (lv_at hl 1 rfl) ?_
  refine jcip (jrunV (As := [.int ln]) (rest := []) F hT hW yc_X3_hasLine yv_X3_hasLine ml_X3_103 (oSrv hr) (by decide) rfl (c_X3_hasLine l E μ r hr S ln) rfl hl.1 ⟨Nat.le_of_ble_eq_true rfl, Nat.le_of_ble_eq_true rfl⟩ rfl (Nat.le_of_ble_eq_true rfl) ⟨Nat.le_refl _, Nat.le_refl _⟩ dX3_holdLine_2) hW (fun x1 H locs ex1 hW => ?_)
  refine lv_if_ne (tgt := 10) F.1 F.2.1 dX3_holdLine_5 (by decide) (fun h2 => ?_) (fun h2 => ?_)
  · refine lv_iload_n F.1 F.2.1 dX3_holdLine_10 rfl (lv_at hl 2 rfl) ?_
    refine lv_iconst (v := 0) F.1 F.2.1 dX3_holdLine_11 (by decide) ?_
    refine lv_iconst (v := 3) F.1 F.2.1 dX3_holdLine_12 (by decide) ?_
    refine jcip (jrunSN (As := [.int dv, .int 0, .int 3]) (rest := []) F hT hW yc_X6_within ys_X6_within (by decide +kernel) (c_X6_within l E (fo μ r S) dv 0 3) rfl hl.1 ⟨Nat.le_of_ble_eq_true rfl, Nat.le_of_ble_eq_true rfl⟩ rfl (Nat.le_of_ble_eq_true rfl) ⟨Nat.le_refl _, Nat.le_refl _⟩ dX3_holdLine_13) hW (fun x3 H locs ex3 hW => ?_)
    refine lv_if_eq (tgt := 28) F.1 F.2.1 dX3_holdLine_16 (by decide) (fun h4 => ?_) (fun h4 => ?_)
    · refine lv_bipush (v := (-2)) F.1 F.2.1 dX3_holdLine_28 (by decide) ?_
      have hq : (((-2) : Int32), S) = p_X3_holdLine S ln dv up := by
        subst ex3
        subst ex1
        exact ((if_neg h2).trans (if_pos h4)).symm
      exact jri F hr0 hlk hW rfl dX3_holdLine_30 ⟨congrArg Prod.fst hq, congrArg (fun z => fo μ r z.2) hq⟩
    · refine lv_iload_n F.1 F.2.1 dX3_holdLine_19 rfl (lv_at hl 3 rfl) ?_
      refine lv_iconst (v := 0) F.1 F.2.1 dX3_holdLine_20 (by decide) ?_
      refine lv_iconst (v := 1) F.1 F.2.1 dX3_holdLine_21 (by decide) ?_
      refine jcip (jrunSN (As := [.int up, .int 0, .int 1]) (rest := []) F hT hW yc_X6_within ys_X6_within (by decide +kernel) (c_X6_within l E (fo μ r S) up 0 1) rfl hl.1 ⟨Nat.le_of_ble_eq_true rfl, Nat.le_of_ble_eq_true rfl⟩ rfl (Nat.le_of_ble_eq_true rfl) ⟨Nat.le_refl _, Nat.le_refl _⟩ dX3_holdLine_22) hW (fun x5 H locs ex5 hW => ?_)
      refine lv_if_ne (tgt := 31) F.1 F.2.1 dX3_holdLine_25 (by decide) (fun h6 => ?_) (fun h6 => ?_)
      · obtain ⟨hl1, hl2⟩ := wL (a := ln) hn (by decide) (by assumption) (by assumption)
        have hn2 := hn.2
        refine lv_aload_n F.1 F.2.1 dX3_holdLine_31 rfl (lv_at hl 0 rfl) ?_
        refine jgetR F hT hW fw_X3_25 (oSrv hr) (by decide) (rSrv2 hr) dX3_holdLine_32 ?_
        refine lv_iload_n F.1 F.2.1 dX3_holdLine_35 rfl (lv_at hl 1 rfl) ?_
        refine jaald (t := 3) (C := RX1) F hT hW (cn ln) (oLns hr) rfl (by omega) (by decide) hl1 (rLns hr) dX3_holdLine_36 ?_
        refine jget F hT hW fw_X3_110 (oLin hr (by omega)) (by decide) (rLin hr (by omega)) dX3_holdLine_37 ?_
        refine lv_if_ne (tgt := 46) F.1 F.2.1 dX3_holdLine_40 (by decide) (fun h7 => ?_) (fun h7 => ?_)
        · obtain ⟨hd1, hd2⟩ := wN (a := dv) (n := 3) rfl (by decide) (by assumption) (by assumption)
          refine lv_aload_n F.1 F.2.1 dX3_holdLine_46 rfl (lv_at hl 0 rfl) ?_
          refine jgetR F hT hW fw_X3_25 (oSrv hr) (by decide) (rSrv2 hr) dX3_holdLine_47 ?_
          refine lv_iload_n F.1 F.2.1 dX3_holdLine_50 rfl (lv_at hl 1 rfl) ?_
          refine jaald (t := 3) (C := RX1) F hT hW (cn ln) (oLns hr) rfl (by omega) (by decide) hl1 (rLns hr) dX3_holdLine_51 ?_
          refine lv_iload_n F.1 F.2.1 dX3_holdLine_52 rfl (lv_at hl 2 rfl) ?_
          refine lv_iload_n F.1 F.2.1 dX3_holdLine_53 rfl (lv_at hl 3 rfl) ?_
          refine lv_iconst (v := 1) F.1 F.2.1 dX3_holdLine_54 (by decide) ?_
          have hJ10 : ∀ (v9 : Int32) (H : Heap) (locs : List Loc) (ls : Array Slot), v9 = (if up = 1 then 1 else 0) → Wd E s H locs (fo μ r S) → lv_has ls 4 [(0, .ref (ea E r 0)), (1, .int ln), (2, .int dv), (3, .int up)] → W p l e (rmO 2 44) s m ([.ref (ea E r 0), .int ln, .int dv, .int up] : List Value).toArray below meth c H locs 0 0 (MQ below (va_Qi (fun x μ' => x = (p_X3_holdLine S ln dv up).1 ∧ μ' = fo μ r (p_X3_holdLine S ln dv up).2) (fun μ' t => MB E μ' t.heap) (AA E)) ([.ref (ea E r 0), .int ln, .int dv, .int up] : List Value).toArray s 0 0 (AA E)) (F0 m 63 ls [.int v9, .int dv, .ref (ea E r (3 + (cn ln)))]) := by
            intro v9 H locs ls ev9 hW hl
            refine jcvf (jrunV (As := [.int dv, .int v9]) (rest := []) F hT hW yc_X1_moveDevice yv_X1_moveDevice ml_X3_130 (oLin hr (by omega)) (by decide) rfl (c_X1_moveDevice l E μ r hr S (cn ln) dv (cn dv) hd1 v9 (by first | assumption | omega)) rfl hl.1 ⟨Nat.le_of_ble_eq_true rfl, Nat.le_of_ble_eq_true rfl⟩ rfl (Nat.le_of_ble_eq_true rfl) ⟨Nat.le_refl _, Nat.le_refl _⟩ dX3_holdLine_63) hW (fun S11 H locs eS11 hW => ?_)
            refine lv_aload_n F.1 F.2.1 dX3_holdLine_66 rfl (lv_at hl 0 rfl) ?_
            refine jgetR F hT hW fw_X3_25 (oSrv hr) (by decide) (rSrv2 hr) dX3_holdLine_67 ?_
            refine lv_iload_n F.1 F.2.1 dX3_holdLine_70 rfl (lv_at hl 1 rfl) ?_
            refine jaald (t := 3) (C := RX1) F hT hW (cn ln) (oLns hr) rfl (by omega) (by decide) hl1 (rLns hr) dX3_holdLine_71 ?_
            refine jget F hT hW fw_X3_134 (oLin hr (by omega)) (by decide) (rLin hr (by omega)) dX3_holdLine_72 ?_
            have hq : ((S11 (3 + (cn ln)) 8 : Int32), S11) = p_X3_holdLine S ln dv up := by
              subst eS11
              subst ev9
              subst ex5
              subst ex3
              subst ex1
              exact ((if_neg h2).trans ((if_neg h4).trans ((if_neg h6).trans (if_neg h7)))).symm
            exact jri F hr0 hlk hW rfl dX3_holdLine_75 ⟨congrArg Prod.fst hq, congrArg (fun z => fo μ r z.2) hq⟩
          refine lv_icmp_ne (tgt := 62) F.1 F.2.1 dX3_holdLine_55 (by decide) (fun h8 => ?_) (fun h8 => ?_)
          · refine lv_iconst (v := 0) F.1 F.2.1 dX3_holdLine_62 (by decide) ?_
            exact hJ10 _ _ _ _ (if_neg h8).symm hW (lv_sub hl [0, 1, 2, 3] rfl)
          · refine lv_iconst (v := 1) F.1 F.2.1 dX3_holdLine_58 (by decide) ?_
            refine lv_goto (tgt := 63) F.1 F.2.1 dX3_holdLine_59 (by decide) ?_
            exact hJ10 _ _ _ _ (if_pos h8).symm hW (lv_sub hl [0, 1, 2, 3] rfl)
        · refine lv_bipush (v := (-5)) F.1 F.2.1 dX3_holdLine_43 (by decide) ?_
          have hq : (((-5) : Int32), S) = p_X3_holdLine S ln dv up := by
            subst ex5
            subst ex3
            subst ex1
            exact ((if_neg h2).trans ((if_neg h4).trans ((if_neg h6).trans (if_pos h7)))).symm
          exact jri F hr0 hlk hW rfl dX3_holdLine_45 ⟨congrArg Prod.fst hq, congrArg (fun z => fo μ r z.2) hq⟩
      · refine lv_bipush (v := (-2)) F.1 F.2.1 dX3_holdLine_28 (by decide) ?_
        have hq : (((-2) : Int32), S) = p_X3_holdLine S ln dv up := by
          subst ex5
          subst ex3
          subst ex1
          exact ((if_neg h2).trans ((if_neg h4).trans (if_pos h6))).symm
        exact jri F hr0 hlk hW rfl dX3_holdLine_30 ⟨congrArg Prod.fst hq, congrArg (fun z => fo μ r z.2) hq⟩
  · refine lv_iconst (v := (-1)) F.1 F.2.1 dX3_holdLine_8 (by decide) ?_
    have hq : (((-1) : Int32), S) = p_X3_holdLine S ln dv up := by
      subst ex1
      exact (if_pos h2).symm
    exact jri F hr0 hlk hW rfl dX3_holdLine_9 ⟨congrArg Prod.fst hq, congrArg (fun z => fo μ r z.2) hq⟩

def p_X3_maskLine (S : Sv) (ln : Int32) (is : Int32) : Int32 × Sv :=
  let x1 : Int32 := p_X3_hasLine S ln
  if x1 = 0 then
    (((-1) : Int32), S)
  else
    let x3 : Int32 := p_X6_within is 0 1
    if x3 = 0 then
      (((-2) : Int32), S)
    else
      let v6 : Int32 := (if (S (3 + (cn ln)) 4) = 0 then 0 else 1)
      let v9 : Int32 := (if is = 1 then 1 else 0)
      let S11 : Sv := us S (3 + (cn ln)) 4 v9
      ((v6 : Int32), S11)

set_option maxHeartbeats 4000000 in
set_option maxRecDepth 100000 in
theorem c_X3_maskLine (l : Launch) (E : mE) (μ : Mu) (r : Nat) (hr : r < 11) (S : Sv) (ln : Int32) (is : Int32) (hn : Bn (S 0 3) 12) : CtI l E yX3_maskLine cX3_maskLine 4 (some .int) 2 43 [.ref (ea E r 0), .int ln, .int is] (fo μ r S) (fun x μ' => x = (p_X3_maskLine S ln is).1 ∧ μ' = fo μ r (p_X3_maskLine S ln is).2) := by
  refine jMet (by decide +kernel) (Nat.le_of_ble_eq_true rfl) ?_
  intro p e s m below meth c ls F hT hr0 hlk hW hl
  have F : CallFix p m c cX3_maskLine 4 s _ TB RX3 := F
  have hl : lv_has ls 4 [(0, .ref (ea E r 0)), (1, .int ln), (2, .int is)] := hl
  refine lv_aload_n F.1 F.2.1 dX3_maskLine_0 rfl (lv_at hl 0 rfl) ?_
  refine lv_iload_n F.1 F.2.1 dX3_maskLine_1 rfl (lv_at hl 1 rfl) ?_
  refine jcip (jrunV (As := [.int ln]) (rest := []) F hT hW yc_X3_hasLine yv_X3_hasLine ml_X3_103 (oSrv hr) (by decide) rfl (c_X3_hasLine l E μ r hr S ln) rfl hl.1 ⟨Nat.le_of_ble_eq_true rfl, Nat.le_of_ble_eq_true rfl⟩ rfl (Nat.le_of_ble_eq_true rfl) ⟨Nat.le_refl _, Nat.le_refl _⟩ dX3_maskLine_2) hW (fun x1 H locs ex1 hW => ?_)
  refine lv_if_ne (tgt := 10) F.1 F.2.1 dX3_maskLine_5 (by decide) (fun h2 => ?_) (fun h2 => ?_)
  · refine lv_iload_n F.1 F.2.1 dX3_maskLine_10 rfl (lv_at hl 2 rfl) ?_
    refine lv_iconst (v := 0) F.1 F.2.1 dX3_maskLine_11 (by decide) ?_
    refine lv_iconst (v := 1) F.1 F.2.1 dX3_maskLine_12 (by decide) ?_
    refine jcip (jrunSN (As := [.int is, .int 0, .int 1]) (rest := []) F hT hW yc_X6_within ys_X6_within (by decide +kernel) (c_X6_within l E (fo μ r S) is 0 1) rfl hl.1 ⟨Nat.le_of_ble_eq_true rfl, Nat.le_of_ble_eq_true rfl⟩ rfl (Nat.le_of_ble_eq_true rfl) ⟨Nat.le_refl _, Nat.le_refl _⟩ dX3_maskLine_13) hW (fun x3 H locs ex3 hW => ?_)
    refine lv_if_ne (tgt := 22) F.1 F.2.1 dX3_maskLine_16 (by decide) (fun h4 => ?_) (fun h4 => ?_)
    · obtain ⟨hl1, hl2⟩ := wL (a := ln) hn (by decide) (by assumption) (by assumption)
      have hn2 := hn.2
      refine lv_aload_n F.1 F.2.1 dX3_maskLine_22 rfl (lv_at hl 0 rfl) ?_
      refine jgetR F hT hW fw_X3_25 (oSrv hr) (by decide) (rSrv2 hr) dX3_maskLine_23 ?_
      refine lv_iload_n F.1 F.2.1 dX3_maskLine_26 rfl (lv_at hl 1 rfl) ?_
      refine jaald (t := 3) (C := RX1) F hT hW (cn ln) (oLns hr) rfl (by omega) (by decide) hl1 (rLns hr) dX3_maskLine_27 ?_
      refine jget F hT hW fw_X3_137 (oLin hr (by omega)) (by decide) (rLin hr (by omega)) dX3_maskLine_28 ?_
      have hJ7 : ∀ (v6 : Int32) (H : Heap) (locs : List Loc) (ls : Array Slot), v6 = (if (S (3 + (cn ln)) 4) = 0 then 0 else 1) → Wd E s H locs (fo μ r S) → lv_has ls 4 [(0, .ref (ea E r 0)), (1, .int ln), (2, .int is)] → W p l e (rmO 2 43) s m ([.ref (ea E r 0), .int ln, .int is] : List Value).toArray below meth c H locs 0 0 (MQ below (va_Qi (fun x μ' => x = (p_X3_maskLine S ln is).1 ∧ μ' = fo μ r (p_X3_maskLine S ln is).2) (fun μ' t => MB E μ' t.heap) (AA E)) ([.ref (ea E r 0), .int ln, .int is] : List Value).toArray s 0 0 (AA E)) (F0 m 39 ls [.int v6]) := by
        intro v6 H locs ls ev6 hW hl
        refine lv_istore_n (lv' := [(3, .int v6), (0, .ref (ea E r 0)), (1, .int ln), (2, .int is)]) F.1 F.2.1 dX3_maskLine_39 rfl hl (by decide) rfl (fun ls hl => ?_)
        refine lv_aload_n F.1 F.2.1 dX3_maskLine_40 rfl (lv_at hl 1 rfl) ?_
        refine jgetR F hT hW fw_X3_25 (oSrv hr) (by decide) (rSrv2 hr) dX3_maskLine_41 ?_
        refine lv_iload_n F.1 F.2.1 dX3_maskLine_44 rfl (lv_at hl 2 rfl) ?_
        refine jaald (t := 3) (C := RX1) F hT hW (cn ln) (oLns hr) rfl (by omega) (by decide) hl1 (rLns hr) dX3_maskLine_45 ?_
        refine lv_iload_n F.1 F.2.1 dX3_maskLine_46 rfl (lv_at hl 3 rfl) ?_
        refine lv_iconst (v := 1) F.1 F.2.1 dX3_maskLine_47 (by decide) ?_
        have hJ10 : ∀ (v9 : Int32) (H : Heap) (locs : List Loc) (ls : Array Slot), v9 = (if is = 1 then 1 else 0) → Wd E s H locs (fo μ r S) → lv_has ls 4 [(3, .int v6), (0, .ref (ea E r 0)), (1, .int ln), (2, .int is)] → W p l e (rmO 2 43) s m ([.ref (ea E r 0), .int ln, .int is] : List Value).toArray below meth c H locs 0 0 (MQ below (va_Qi (fun x μ' => x = (p_X3_maskLine S ln is).1 ∧ μ' = fo μ r (p_X3_maskLine S ln is).2) (fun μ' t => MB E μ' t.heap) (AA E)) ([.ref (ea E r 0), .int ln, .int is] : List Value).toArray s 0 0 (AA E)) (F0 m 56 ls [.int v9, .ref (ea E r (3 + (cn ln)))]) := by
          intro v9 H locs ls ev9 hW hl
          refine jput F hT hW fw_X3_137 ft_1_4 (oLin hr (by omega)) (by decide) (rn12 hr) (rLin hr (by omega)) (znar (by first | assumption | ((try clear hq); subst_vars; (try dsimp only); repeat' (first | exact Or.inl rfl | exact Or.inr rfl | refine iteZ ?_ ?_)))) (zfit (by first | assumption | ((try clear hq); subst_vars; (try dsimp only); repeat' (first | exact Or.inl rfl | exact Or.inr rfl | refine iteZ ?_ ?_)))) dX3_maskLine_56 (fun S11 H locs eS11 hW => ?_)
          refine lv_iload_n F.1 F.2.1 dX3_maskLine_59 rfl (lv_at hl 0 rfl) ?_
          have hq : ((v6 : Int32), S11) = p_X3_maskLine S ln is := by
            subst eS11
            subst ev9
            subst ev6
            subst ex3
            subst ex1
            exact ((if_neg h2).trans (if_neg h4)).symm
          exact jri F hr0 hlk hW rfl dX3_maskLine_60 ⟨congrArg Prod.fst hq, congrArg (fun z => fo μ r z.2) hq⟩
        refine lv_icmp_ne (tgt := 55) F.1 F.2.1 dX3_maskLine_48 (by decide) (fun h8 => ?_) (fun h8 => ?_)
        · refine lv_iconst (v := 0) F.1 F.2.1 dX3_maskLine_55 (by decide) ?_
          exact hJ10 _ _ _ _ (if_neg h8).symm hW (lv_sub hl [0, 1, 2, 3] rfl)
        · refine lv_iconst (v := 1) F.1 F.2.1 dX3_maskLine_51 (by decide) ?_
          refine lv_goto (tgt := 56) F.1 F.2.1 dX3_maskLine_52 (by decide) ?_
          exact hJ10 _ _ _ _ (if_pos h8).symm hW (lv_sub hl [0, 1, 2, 3] rfl)
      refine lv_if_eq (tgt := 38) F.1 F.2.1 dX3_maskLine_31 (by decide) (fun h5 => ?_) (fun h5 => ?_)
      · refine lv_iconst (v := 0) F.1 F.2.1 dX3_maskLine_38 (by decide) ?_
        exact hJ7 _ _ _ _ (if_pos h5).symm hW (lv_sub hl [0, 1, 2] rfl)
      · refine lv_iconst (v := 1) F.1 F.2.1 dX3_maskLine_34 (by decide) ?_
        refine lv_goto (tgt := 39) F.1 F.2.1 dX3_maskLine_35 (by decide) ?_
        exact hJ7 _ _ _ _ (if_neg h5).symm hW (lv_sub hl [0, 1, 2] rfl)
    · refine lv_bipush (v := (-2)) F.1 F.2.1 dX3_maskLine_19 (by decide) ?_
      have hq : (((-2) : Int32), S) = p_X3_maskLine S ln is := by
        subst ex3
        subst ex1
        exact ((if_neg h2).trans (if_pos h4)).symm
      exact jri F hr0 hlk hW rfl dX3_maskLine_21 ⟨congrArg Prod.fst hq, congrArg (fun z => fo μ r z.2) hq⟩
  · refine lv_iconst (v := (-1)) F.1 F.2.1 dX3_maskLine_8 (by decide) ?_
    have hq : (((-1) : Int32), S) = p_X3_maskLine S ln is := by
      subst ex1
      exact (if_pos h2).symm
    exact jri F hr0 hlk hW rfl dX3_maskLine_9 ⟨congrArg Prod.fst hq, congrArg (fun z => fo μ r z.2) hq⟩

def p_X3_costOf (S : Sv) (li : Nat) : Int32 :=
  ((S (3 + li) 1) + (S 1 4) : Int32)

set_option maxHeartbeats 4000000 in
set_option maxRecDepth 100000 in
theorem c_X3_costOf (l : Launch) (E : mE) (μ : Mu) (r : Nat) (hr : r < 11) (S : Sv) (xl : Int32) (li : Nat) (exl : xl = nI li) (hi : li < 12) : CtI l E yX3_costOf cX3_costOf 2 (some .int) 0 0 [.ref (ea E r 0), .int xl] (fo μ r S) (fun x μ' => x = p_X3_costOf S li ∧ μ' = (fo μ r S)) := by
  subst exl
  refine jMet (by decide +kernel) (Nat.le_of_ble_eq_true rfl) ?_
  intro p e s m below meth c ls F hT hr0 hlk hW hl
  have F : CallFix p m c cX3_costOf 2 s _ TB RX3 := F
  have hl : lv_has ls 2 [(0, .ref (ea E r 0)), (1, .int (nI li))] := hl
  refine lv_aload_n F.1 F.2.1 dX3_costOf_0 rfl (lv_at hl 0 rfl) ?_
  refine jgetR F hT hW fw_X3_25 (oSrv hr) (by decide) (rSrv2 hr) dX3_costOf_1 ?_
  refine lv_iload_n F.1 F.2.1 dX3_costOf_4 rfl (lv_at hl 1 rfl) ?_
  refine jaald (t := 3) (C := RX1) F hT hW li (oLns hr) rfl (by omega) (by decide) rfl (rLns hr) dX3_costOf_5 ?_
  refine jget F hT hW fw_X3_211 (oLin hr (by omega)) (by decide) (rLin hr (by omega)) dX3_costOf_6 ?_
  refine lv_aload_n F.1 F.2.1 dX3_costOf_9 rfl (lv_at hl 0 rfl) ?_
  refine jgetR F hT hW fw_X3_18 (oSrv hr) (by decide) (rSrv1 hr) dX3_costOf_10 ?_
  refine lv_iconst (v := 4) F.1 F.2.1 dX3_costOf_13 (by decide) ?_
  refine jiald F hT hW 4 (oSet hr) (by omega) (by decide) (lI 4) (rSet hr) dX3_costOf_14 ?_
  refine lv_iadd F.1 F.2.1 dX3_costOf_15 ?_
  have hq : ((S (3 + li) 1) + (S 1 4) : Int32) = p_X3_costOf S li := by
    exact (rfl).symm
  exact jri F hr0 hlk hW rfl dX3_costOf_16 ⟨hq, rfl⟩

def p_X3_numberOfLine (S : Sv) (ln : Int32) (wh : Int32) : Int32 :=
  let x1 : Int32 := p_X3_hasLine S ln
  if x1 = 0 then
    ((-1) : Int32)
  else
    let x3 : Int32 := p_X1_number S (cn ln) wh (S 1 0) (S 1 1)
    (x3 : Int32)

set_option maxHeartbeats 4000000 in
set_option maxRecDepth 100000 in
theorem c_X3_numberOfLine (l : Launch) (E : mE) (μ : Mu) (r : Nat) (hr : r < 11) (S : Sv) (ln : Int32) (wh : Int32) (hn : Bn (S 0 3) 12) : CtI l E yX3_numberOfLine cX3_numberOfLine 3 (some .int) 2 46 [.ref (ea E r 0), .int ln, .int wh] (fo μ r S) (fun x μ' => x = p_X3_numberOfLine S ln wh ∧ μ' = (fo μ r S)) := by
  refine jMet (by decide +kernel) (Nat.le_of_ble_eq_true rfl) ?_
  intro p e s m below meth c ls F hT hr0 hlk hW hl
  have F : CallFix p m c cX3_numberOfLine 3 s _ TB RX3 := F
  have hl : lv_has ls 3 [(0, .ref (ea E r 0)), (1, .int ln), (2, .int wh)] := hl
  refine lv_aload_n F.1 F.2.1 dX3_numberOfLine_0 rfl (lv_at hl 0 rfl) ?_
  refine lv_iload_n F.1 F.2.1 dX3_numberOfLine_1 rfl (lv_at hl 1 rfl) ?_
  refine jcip (jrunV (As := [.int ln]) (rest := []) F hT hW yc_X3_hasLine yv_X3_hasLine ml_X3_103 (oSrv hr) (by decide) rfl (c_X3_hasLine l E μ r hr S ln) rfl hl.1 ⟨Nat.le_of_ble_eq_true rfl, Nat.le_of_ble_eq_true rfl⟩ rfl (Nat.le_of_ble_eq_true rfl) ⟨Nat.le_refl _, Nat.le_refl _⟩ dX3_numberOfLine_2) hW (fun x1 H locs ex1 hW => ?_)
  refine lv_if_ne (tgt := 10) F.1 F.2.1 dX3_numberOfLine_5 (by decide) (fun h2 => ?_) (fun h2 => ?_)
  · obtain ⟨hl1, hl2⟩ := wL (a := ln) hn (by decide) (by assumption) (by assumption)
    have hn2 := hn.2
    refine lv_aload_n F.1 F.2.1 dX3_numberOfLine_10 rfl (lv_at hl 0 rfl) ?_
    refine jgetR F hT hW fw_X3_25 (oSrv hr) (by decide) (rSrv2 hr) dX3_numberOfLine_11 ?_
    refine lv_iload_n F.1 F.2.1 dX3_numberOfLine_14 rfl (lv_at hl 1 rfl) ?_
    refine jaald (t := 3) (C := RX1) F hT hW (cn ln) (oLns hr) rfl (by omega) (by decide) hl1 (rLns hr) dX3_numberOfLine_15 ?_
    refine lv_iload_n F.1 F.2.1 dX3_numberOfLine_16 rfl (lv_at hl 2 rfl) ?_
    refine lv_aload_n F.1 F.2.1 dX3_numberOfLine_17 rfl (lv_at hl 0 rfl) ?_
    refine jgetR F hT hW fw_X3_18 (oSrv hr) (by decide) (rSrv1 hr) dX3_numberOfLine_18 ?_
    refine lv_iconst (v := 0) F.1 F.2.1 dX3_numberOfLine_21 (by decide) ?_
    refine jiald F hT hW 0 (oSet hr) (by omega) (by decide) (lI 0) (rSet hr) dX3_numberOfLine_22 ?_
    refine lv_aload_n F.1 F.2.1 dX3_numberOfLine_23 rfl (lv_at hl 0 rfl) ?_
    refine jgetR F hT hW fw_X3_18 (oSrv hr) (by decide) (rSrv1 hr) dX3_numberOfLine_24 ?_
    refine lv_iconst (v := 1) F.1 F.2.1 dX3_numberOfLine_27 (by decide) ?_
    refine jiald F hT hW 1 (oSet hr) (by omega) (by decide) (lI 1) (rSet hr) dX3_numberOfLine_28 ?_
    refine jcip (jrunV (As := [.int wh, .int (S 1 0), .int (S 1 1)]) (rest := []) F hT hW yc_X1_number yv_X1_number ml_X3_195 (oLin hr (by omega)) (by decide) rfl (c_X1_number l E μ r hr S (cn ln) wh (S 1 0) (S 1 1) (by first | assumption | omega)) rfl hl.1 ⟨Nat.le_of_ble_eq_true rfl, Nat.le_of_ble_eq_true rfl⟩ rfl (Nat.le_of_ble_eq_true rfl) ⟨Nat.le_refl _, Nat.le_refl _⟩ dX3_numberOfLine_29) hW (fun x3 H locs ex3 hW => ?_)
    have hq : (x3 : Int32) = p_X3_numberOfLine S ln wh := by
      subst ex3
      subst ex1
      exact (if_neg h2).symm
    exact jri F hr0 hlk hW rfl dX3_numberOfLine_32 ⟨hq, rfl⟩
  · refine lv_iconst (v := (-1)) F.1 F.2.1 dX3_numberOfLine_8 (by decide) ?_
    have hq : ((-1) : Int32) = p_X3_numberOfLine S ln wh := by
      subst ex1
      exact (if_pos h2).symm
    exact jri F hr0 hlk hW rfl dX3_numberOfLine_9 ⟨hq, rfl⟩

def p_X3_numberOfPlace (S : Sv) (pl : Int32) (wh : Int32) : Int32 :=
  let x1 : Int32 := p_X6_within pl 0 ((S 0 7) - 1)
  let v4 : Int32 := (if x1 = 0 then (-1) else (let x3 : Int32 := p_X4_number S (cn pl) wh; x3))
  (v4 : Int32)

set_option maxHeartbeats 4000000 in
set_option maxRecDepth 100000 in
theorem c_X3_numberOfPlace (l : Launch) (E : mE) (μ : Mu) (r : Nat) (hr : r < 11) (S : Sv) (pl : Int32) (wh : Int32) (hd : Bn (S 0 7) 8) : CtI l E yX3_numberOfPlace cX3_numberOfPlace 3 (some .int) 1 22 [.ref (ea E r 0), .int pl, .int wh] (fo μ r S) (fun x μ' => x = p_X3_numberOfPlace S pl wh ∧ μ' = (fo μ r S)) := by
  refine jMet (by decide +kernel) (Nat.le_of_ble_eq_true rfl) ?_
  intro p e s m below meth c ls F hT hr0 hlk hW hl
  have F : CallFix p m c cX3_numberOfPlace 3 s _ TB RX3 := F
  have hl : lv_has ls 3 [(0, .ref (ea E r 0)), (1, .int pl), (2, .int wh)] := hl
  refine lv_iload_n F.1 F.2.1 dX3_numberOfPlace_0 rfl (lv_at hl 1 rfl) ?_
  refine lv_iconst (v := 0) F.1 F.2.1 dX3_numberOfPlace_1 (by decide) ?_
  refine lv_aload_n F.1 F.2.1 dX3_numberOfPlace_2 rfl (lv_at hl 0 rfl) ?_
  refine jget F hT hW fw_X3_67 (oSrv hr) (by decide) (rSrv7 hr) dX3_numberOfPlace_3 ?_
  refine lv_iconst (v := 1) F.1 F.2.1 dX3_numberOfPlace_6 (by decide) ?_
  refine lv_isub F.1 F.2.1 dX3_numberOfPlace_7 ?_
  refine jcip (jrunSN (As := [.int pl, .int 0, .int ((S 0 7) - 1)]) (rest := []) F hT hW yc_X6_within ys_X6_within (by decide +kernel) (c_X6_within l E (fo μ r S) pl 0 ((S 0 7) - 1)) rfl hl.1 ⟨Nat.le_of_ble_eq_true rfl, Nat.le_of_ble_eq_true rfl⟩ rfl (Nat.le_of_ble_eq_true rfl) ⟨Nat.le_refl _, Nat.le_refl _⟩ dX3_numberOfPlace_8) hW (fun x1 H locs ex1 hW => ?_)
  have hJ5 : ∀ (v4 : Int32) (H : Heap) (locs : List Loc) (ls : Array Slot), v4 = (if x1 = 0 then (-1) else (let x3 : Int32 := p_X4_number S (cn pl) wh; x3)) → Wd E s H locs (fo μ r S) → lv_has ls 3 [(0, .ref (ea E r 0)), (1, .int pl), (2, .int wh)] → W p l e (rmO 1 22) s m ([.ref (ea E r 0), .int pl, .int wh] : List Value).toArray below meth c H locs 0 0 (MQ below (va_Qi (fun x μ' => x = p_X3_numberOfPlace S pl wh ∧ μ' = (fo μ r S)) (fun μ' t => MB E μ' t.heap) (AA E)) ([.ref (ea E r 0), .int pl, .int wh] : List Value).toArray s 0 0 (AA E)) (F0 m 28 ls [.int v4]) := by
    intro v4 H locs ls ev4 hW hl
    have hq : (v4 : Int32) = p_X3_numberOfPlace S pl wh := by
      subst ev4
      subst ex1
      exact (rfl).symm
    exact jri F hr0 hlk hW rfl dX3_numberOfPlace_28 ⟨hq, rfl⟩
  refine lv_if_eq (tgt := 27) F.1 F.2.1 dX3_numberOfPlace_11 (by decide) (fun h2 => ?_) (fun h2 => ?_)
  · refine lv_iconst (v := (-1)) F.1 F.2.1 dX3_numberOfPlace_27 (by decide) ?_
    exact hJ5 _ _ _ _ (if_pos h2).symm hW (lv_sub hl [0, 1, 2] rfl)
  · obtain ⟨hl1, hl2⟩ := wL (a := pl) hd (by decide) (by assumption) (by assumption)
    have hd2 := hd.2
    refine lv_aload_n F.1 F.2.1 dX3_numberOfPlace_14 rfl (lv_at hl 0 rfl) ?_
    refine jgetR F hT hW fw_X3_39 (oSrv hr) (by decide) (rSrv6 hr) dX3_numberOfPlace_15 ?_
    refine lv_iload_n F.1 F.2.1 dX3_numberOfPlace_18 rfl (lv_at hl 1 rfl) ?_
    refine jaald (t := 5) (C := RX4) F hT hW (cn pl) (oNst hr) rfl (by omega) (by decide) hl1 (rNst hr) dX3_numberOfPlace_19 ?_
    refine lv_iload_n F.1 F.2.1 dX3_numberOfPlace_20 rfl (lv_at hl 2 rfl) ?_
    refine jcip (jrunV (As := [.int wh]) (rest := []) F hT hW yc_X4_number yv_X4_number ml_X3_199 (oSvc hr (by omega)) (by decide) rfl (c_X4_number l E μ r hr S (cn pl) wh (by first | assumption | omega)) rfl hl.1 ⟨Nat.le_of_ble_eq_true rfl, Nat.le_of_ble_eq_true rfl⟩ rfl (Nat.le_of_ble_eq_true rfl) ⟨Nat.le_refl _, Nat.le_refl _⟩ dX3_numberOfPlace_21) hW (fun x3 H locs ex3 hW => ?_)
    refine lv_goto (tgt := 28) F.1 F.2.1 dX3_numberOfPlace_24 (by decide) ?_
    subst ex3
    exact hJ5 _ _ _ _ (if_neg h2).symm hW (lv_sub hl [0, 1, 2] rfl)

def p_X3_numberOfTimer (S : Sv) (tm : Int32) (wh : Int32) : Int32 :=
  let x1 : Int32 := p_X3_hasTimer S tm
  let v4 : Int32 := (if x1 = 0 then (-1) else (let x3 : Int32 := p_X5_number S (cn tm) wh; x3))
  (v4 : Int32)

set_option maxHeartbeats 4000000 in
set_option maxRecDepth 100000 in
theorem c_X3_numberOfTimer (l : Launch) (E : mE) (μ : Mu) (r : Nat) (hr : r < 11) (S : Sv) (tm : Int32) (wh : Int32) (ht : Bn (S 0 5) 6) : CtI l E yX3_numberOfTimer cX3_numberOfTimer 3 (some .int) 2 43 [.ref (ea E r 0), .int tm, .int wh] (fo μ r S) (fun x μ' => x = p_X3_numberOfTimer S tm wh ∧ μ' = (fo μ r S)) := by
  refine jMet (by decide +kernel) (Nat.le_of_ble_eq_true rfl) ?_
  intro p e s m below meth c ls F hT hr0 hlk hW hl
  have F : CallFix p m c cX3_numberOfTimer 3 s _ TB RX3 := F
  have hl : lv_has ls 3 [(0, .ref (ea E r 0)), (1, .int tm), (2, .int wh)] := hl
  refine lv_aload_n F.1 F.2.1 dX3_numberOfTimer_0 rfl (lv_at hl 0 rfl) ?_
  refine lv_iload_n F.1 F.2.1 dX3_numberOfTimer_1 rfl (lv_at hl 1 rfl) ?_
  refine jcip (jrunV (As := [.int tm]) (rest := []) F hT hW yc_X3_hasTimer yv_X3_hasTimer ml_X3_123 (oSrv hr) (by decide) rfl (c_X3_hasTimer l E μ r hr S tm) rfl hl.1 ⟨Nat.le_of_ble_eq_true rfl, Nat.le_of_ble_eq_true rfl⟩ rfl (Nat.le_of_ble_eq_true rfl) ⟨Nat.le_refl _, Nat.le_refl _⟩ dX3_numberOfTimer_2) hW (fun x1 H locs ex1 hW => ?_)
  have hJ5 : ∀ (v4 : Int32) (H : Heap) (locs : List Loc) (ls : Array Slot), v4 = (if x1 = 0 then (-1) else (let x3 : Int32 := p_X5_number S (cn tm) wh; x3)) → Wd E s H locs (fo μ r S) → lv_has ls 3 [(0, .ref (ea E r 0)), (1, .int tm), (2, .int wh)] → W p l e (rmO 2 43) s m ([.ref (ea E r 0), .int tm, .int wh] : List Value).toArray below meth c H locs 0 0 (MQ below (va_Qi (fun x μ' => x = p_X3_numberOfTimer S tm wh ∧ μ' = (fo μ r S)) (fun μ' t => MB E μ' t.heap) (AA E)) ([.ref (ea E r 0), .int tm, .int wh] : List Value).toArray s 0 0 (AA E)) (F0 m 22 ls [.int v4]) := by
    intro v4 H locs ls ev4 hW hl
    have hq : (v4 : Int32) = p_X3_numberOfTimer S tm wh := by
      subst ev4
      subst ex1
      exact (rfl).symm
    exact jri F hr0 hlk hW rfl dX3_numberOfTimer_22 ⟨hq, rfl⟩
  refine lv_if_eq (tgt := 21) F.1 F.2.1 dX3_numberOfTimer_5 (by decide) (fun h2 => ?_) (fun h2 => ?_)
  · refine lv_iconst (v := (-1)) F.1 F.2.1 dX3_numberOfTimer_21 (by decide) ?_
    exact hJ5 _ _ _ _ (if_pos h2).symm hW (lv_sub hl [0, 1, 2] rfl)
  · obtain ⟨hl1, hl2⟩ := wL (a := tm) ht (by decide) (by assumption) (by assumption)
    have ht2 := ht.2
    refine lv_aload_n F.1 F.2.1 dX3_numberOfTimer_8 rfl (lv_at hl 0 rfl) ?_
    refine jgetR F hT hW fw_X3_32 (oSrv hr) (by decide) (rSrv4 hr) dX3_numberOfTimer_9 ?_
    refine lv_iload_n F.1 F.2.1 dX3_numberOfTimer_12 rfl (lv_at hl 1 rfl) ?_
    refine jaald (t := 4) (C := RX5) F hT hW (cn tm) (oTms hr) rfl (by omega) (by decide) hl1 (rTms hr) dX3_numberOfTimer_13 ?_
    refine lv_iload_n F.1 F.2.1 dX3_numberOfTimer_14 rfl (lv_at hl 2 rfl) ?_
    refine jcip (jrunV (As := [.int wh]) (rest := []) F hT hW yc_X5_number yv_X5_number ml_X3_201 (oTim hr (by omega)) (by decide) rfl (c_X5_number l E μ r hr S (cn tm) wh (by first | assumption | omega)) rfl hl.1 ⟨Nat.le_of_ble_eq_true rfl, Nat.le_of_ble_eq_true rfl⟩ rfl (Nat.le_of_ble_eq_true rfl) ⟨Nat.le_refl _, Nat.le_refl _⟩ dX3_numberOfTimer_15) hW (fun x3 H locs ex3 hW => ?_)
    refine lv_goto (tgt := 22) F.1 F.2.1 dX3_numberOfTimer_18 (by decide) ?_
    subst ex3
    exact hJ5 _ _ _ _ (if_neg h2).symm hW (lv_sub hl [0, 1, 2] rfl)

def q_X3_waitingLines_4 (S : Sv) (j : Nat) (σ : Int32) : Int32 :=
  let v1 : Int32 := σ
  let v4 : Int32 := (if (S (3 + j) 5) = 0 then v1 else v1 ||| ((1 : Int32) <<< ((nI j) &&& 31)))
  v4
def p_X3_waitingLines (S : Sv) : Int32 :=
  let v1 : Int32 := (itN (q_X3_waitingLines_4 S) (cn (S 0 3)) (0))
  (v1 : Int32)

set_option maxHeartbeats 4000000 in
set_option maxRecDepth 100000 in
theorem c_X3_waitingLines (l : Launch) (E : mE) (μ : Mu) (r : Nat) (hr : r < 11) (S : Sv) (hn : Bn (S 0 3) 12) : CtI l E yX3_waitingLines cX3_waitingLines 3 (some .int) 0 0 [.ref (ea E r 0)] (fo μ r S) (fun x μ' => x = p_X3_waitingLines S ∧ μ' = (fo μ r S)) := by
  refine jMet (by decide +kernel) (Nat.le_of_ble_eq_true rfl) ?_
  intro p e s m below meth c ls F hT hr0 hlk hW hl
  have F : CallFix p m c cX3_waitingLines 3 s _ TB RX3 := F
  have hl : lv_has ls 3 [(0, .ref (ea E r 0))] := hl
  have hn2 := hn.2
  refine lv_iconst (v := 0) F.1 F.2.1 dX3_waitingLines_0 (by decide) ?_
  refine lv_istore_n (lv' := [(1, .int 0), (0, .ref (ea E r 0))]) F.1 F.2.1 dX3_waitingLines_1 rfl hl (by decide) rfl (fun ls hl => ?_)
  refine lv_iconst (v := 0) F.1 F.2.1 dX3_waitingLines_2 (by decide) ?_
  refine lv_istore_n (lv' := [(2, .int 0), (1, .int 0), (0, .ref (ea E r 0))]) F.1 F.2.1 dX3_waitingLines_3 rfl hl (by decide) rfl (fun ls hl => ?_)
  have hL2 : ∀ (fu j : Nat) (v1 : Int32) (H : Heap) (locs : List Loc) (ls : Array Slot), j + fu = cn (S 0 3) → (v1) = itN (q_X3_waitingLines_4 S) j (0) → Wd E s H locs (fo μ r S) → lv_has ls 3 [(2, .int (nI j)), (1, .int v1), (0, .ref (ea E r 0))] → W p l e (rmO 0 0) s m ([.ref (ea E r 0)] : List Value).toArray below meth c H locs 0 0 (MQ below (va_Qi (fun x μ' => x = p_X3_waitingLines S ∧ μ' = (fo μ r S)) (fun μ' t => MB E μ' t.heap) (AA E)) ([.ref (ea E r 0)] : List Value).toArray s 0 0 (AA E)) (F0 m 4 ls []) := by
    intro fu
    induction fu with
    | zero =>
      intro j v1 H locs ls hj hs  hW hl
      obtain rfl : j = cn (S 0 3) := by omega
      have ev1 := hs
      refine lv_iload_n F.1 F.2.1 dX3_waitingLines_4 rfl (lv_at hl 0 rfl) ?_
      refine lv_aload_n F.1 F.2.1 dX3_waitingLines_5 rfl (lv_at hl 2 rfl) ?_
      refine jget F hT hW fw_X3_54 (oSrv hr) (by decide) (rSrv3 hr) dX3_waitingLines_6 ?_
      refine lv_icmp_ge (tgt := 36) F.1 F.2.1 dX3_waitingLines_9 (by decide) (fun h3 => ?_) (fun h3 => ?_)
      · refine lv_iload_n F.1 F.2.1 dX3_waitingLines_36 rfl (lv_at hl 1 rfl) ?_
        have hq : (v1 : Int32) = p_X3_waitingLines S := by
          subst ev1
          exact (rfl).symm
        exact jri F hr0 hlk hW rfl dX3_waitingLines_37 ⟨hq, rfl⟩
      · exact absurd (c_le hn.1 rfl (by omega) (by omega)) h3
    | succ fu ih =>
      intro j v1 H locs ls hj hs  hW hl
      refine lv_iload_n F.1 F.2.1 dX3_waitingLines_4 rfl (lv_at hl 0 rfl) ?_
      refine lv_aload_n F.1 F.2.1 dX3_waitingLines_5 rfl (lv_at hl 2 rfl) ?_
      refine jget F hT hW fw_X3_54 (oSrv hr) (by decide) (rSrv3 hr) dX3_waitingLines_6 ?_
      refine lv_icmp_ge (tgt := 36) F.1 F.2.1 dX3_waitingLines_9 (by decide) (fun h2 => ?_) (fun h2 => ?_)
      · exact absurd h2 (c_nle hn.1 rfl (by omega) (by omega))
      · refine lv_aload_n F.1 F.2.1 dX3_waitingLines_12 rfl (lv_at hl 2 rfl) ?_
        refine jgetR F hT hW fw_X3_25 (oSrv hr) (by decide) (rSrv2 hr) dX3_waitingLines_13 ?_
        refine lv_iload_n F.1 F.2.1 dX3_waitingLines_16 rfl (lv_at hl 0 rfl) ?_
        refine jaald (t := 3) (C := RX1) F hT hW j (oLns hr) rfl (by omega) (by decide) rfl (rLns hr) dX3_waitingLines_17 ?_
        refine jget F hT hW fw_X3_192 (oLin hr (by omega)) (by decide) (rLin hr (by omega)) dX3_waitingLines_18 ?_
        have hJ5 : ∀ (v4 : Int32) (H : Heap) (locs : List Loc) (ls : Array Slot), v4 = (if (S (3 + j) 5) = 0 then v1 else v1 ||| ((1 : Int32) <<< ((nI j) &&& 31))) → Wd E s H locs (fo μ r S) → lv_has ls 3 [(2, .int (nI j)), (1, .int v4), (0, .ref (ea E r 0))] → W p l e (rmO 0 0) s m ([.ref (ea E r 0)] : List Value).toArray below meth c H locs 0 0 (MQ below (va_Qi (fun x μ' => x = p_X3_waitingLines S ∧ μ' = (fo μ r S)) (fun μ' t => MB E μ' t.heap) (AA E)) ([.ref (ea E r 0)] : List Value).toArray s 0 0 (AA E)) (F0 m 30 ls []) := by
          intro v4 H locs ls ev4 hW hl
          refine lv_iinc (v := nI (j + 1)) (lv' := [(2, .int (nI (j + 1))), (1, .int v4), (0, .ref (ea E r 0))]) F.1 F.2.1 dX3_waitingLines_30 hl (k := 0) rfl (ia rfl rfl) (by decide) rfl (fun ls hl => ?_)
          refine lv_goto (tgt := 4) F.1 F.2.1 dX3_waitingLines_33 (by decide) ?_
          subst ev4
          exact ih (j + 1) _ _ _ _ (by omega) (by rw [itN_s, ← hs]; exact (rfl).symm) hW (lv_sub hl [0, 1, 2] rfl)
        refine lv_if_eq (tgt := 30) F.1 F.2.1 dX3_waitingLines_21 (by decide) (fun h3 => ?_) (fun h3 => ?_)
        · exact hJ5 _ _ _ _ (if_pos h3).symm hW (lv_sub hl [0, 1, 2] rfl)
        · refine lv_iload_n F.1 F.2.1 dX3_waitingLines_24 rfl (lv_at hl 1 rfl) ?_
          refine lv_iconst (v := 1) F.1 F.2.1 dX3_waitingLines_25 (by decide) ?_
          refine lv_iload_n F.1 F.2.1 dX3_waitingLines_26 rfl (lv_at hl 0 rfl) ?_
          refine lv_ishl F.1 F.2.1 dX3_waitingLines_27 ?_
          refine lv_ior F.1 F.2.1 dX3_waitingLines_28 ?_
          refine lv_istore_n (lv' := [(1, .int (v1 ||| ((1 : Int32) <<< ((nI j) &&& 31)))), (2, .int (nI j)), (0, .ref (ea E r 0))]) F.1 F.2.1 dX3_waitingLines_29 rfl hl (by decide) rfl (fun ls hl => ?_)
          exact hJ5 _ _ _ _ (if_neg h3).symm hW (lv_sub hl [1, 0, 2] rfl)
  exact hL2 (cn (S 0 3)) 0 0 _ _ _ (by omega) rfl hW (lv_sub hl [0, 1, 2] rfl)

def q_X3_missesOfAll_4 (S : Sv) (j : Nat) (σ : Int32) : Int32 :=
  let v1 : Int32 := σ
  v1 + (S (3 + j) 15)
def p_X3_missesOfAll (S : Sv) : Int32 :=
  let v1 : Int32 := (itN (q_X3_missesOfAll_4 S) (cn (S 0 3)) (0))
  (v1 : Int32)

set_option maxHeartbeats 4000000 in
set_option maxRecDepth 100000 in
theorem c_X3_missesOfAll (l : Launch) (E : mE) (μ : Mu) (r : Nat) (hr : r < 11) (S : Sv) (hn : Bn (S 0 3) 12) : CtI l E yX3_missesOfAll cX3_missesOfAll 3 (some .int) 0 0 [.ref (ea E r 0)] (fo μ r S) (fun x μ' => x = p_X3_missesOfAll S ∧ μ' = (fo μ r S)) := by
  refine jMet (by decide +kernel) (Nat.le_of_ble_eq_true rfl) ?_
  intro p e s m below meth c ls F hT hr0 hlk hW hl
  have F : CallFix p m c cX3_missesOfAll 3 s _ TB RX3 := F
  have hl : lv_has ls 3 [(0, .ref (ea E r 0))] := hl
  have hn2 := hn.2
  refine lv_iconst (v := 0) F.1 F.2.1 dX3_missesOfAll_0 (by decide) ?_
  refine lv_istore_n (lv' := [(1, .int 0), (0, .ref (ea E r 0))]) F.1 F.2.1 dX3_missesOfAll_1 rfl hl (by decide) rfl (fun ls hl => ?_)
  refine lv_iconst (v := 0) F.1 F.2.1 dX3_missesOfAll_2 (by decide) ?_
  refine lv_istore_n (lv' := [(2, .int 0), (1, .int 0), (0, .ref (ea E r 0))]) F.1 F.2.1 dX3_missesOfAll_3 rfl hl (by decide) rfl (fun ls hl => ?_)
  have hL2 : ∀ (fu j : Nat) (v1 : Int32) (H : Heap) (locs : List Loc) (ls : Array Slot), j + fu = cn (S 0 3) → (v1) = itN (q_X3_missesOfAll_4 S) j (0) → Wd E s H locs (fo μ r S) → lv_has ls 3 [(2, .int (nI j)), (1, .int v1), (0, .ref (ea E r 0))] → W p l e (rmO 0 0) s m ([.ref (ea E r 0)] : List Value).toArray below meth c H locs 0 0 (MQ below (va_Qi (fun x μ' => x = p_X3_missesOfAll S ∧ μ' = (fo μ r S)) (fun μ' t => MB E μ' t.heap) (AA E)) ([.ref (ea E r 0)] : List Value).toArray s 0 0 (AA E)) (F0 m 4 ls []) := by
    intro fu
    induction fu with
    | zero =>
      intro j v1 H locs ls hj hs  hW hl
      obtain rfl : j = cn (S 0 3) := by omega
      have ev1 := hs
      refine lv_iload_n F.1 F.2.1 dX3_missesOfAll_4 rfl (lv_at hl 0 rfl) ?_
      refine lv_aload_n F.1 F.2.1 dX3_missesOfAll_5 rfl (lv_at hl 2 rfl) ?_
      refine jget F hT hW fw_X3_54 (oSrv hr) (by decide) (rSrv3 hr) dX3_missesOfAll_6 ?_
      refine lv_icmp_ge (tgt := 30) F.1 F.2.1 dX3_missesOfAll_9 (by decide) (fun h3 => ?_) (fun h3 => ?_)
      · refine lv_iload_n F.1 F.2.1 dX3_missesOfAll_30 rfl (lv_at hl 1 rfl) ?_
        have hq : (v1 : Int32) = p_X3_missesOfAll S := by
          subst ev1
          exact (rfl).symm
        exact jri F hr0 hlk hW rfl dX3_missesOfAll_31 ⟨hq, rfl⟩
      · exact absurd (c_le hn.1 rfl (by omega) (by omega)) h3
    | succ fu ih =>
      intro j v1 H locs ls hj hs  hW hl
      refine lv_iload_n F.1 F.2.1 dX3_missesOfAll_4 rfl (lv_at hl 0 rfl) ?_
      refine lv_aload_n F.1 F.2.1 dX3_missesOfAll_5 rfl (lv_at hl 2 rfl) ?_
      refine jget F hT hW fw_X3_54 (oSrv hr) (by decide) (rSrv3 hr) dX3_missesOfAll_6 ?_
      refine lv_icmp_ge (tgt := 30) F.1 F.2.1 dX3_missesOfAll_9 (by decide) (fun h2 => ?_) (fun h2 => ?_)
      · exact absurd h2 (c_nle hn.1 rfl (by omega) (by omega))
      · refine lv_iload_n F.1 F.2.1 dX3_missesOfAll_12 rfl (lv_at hl 1 rfl) ?_
        refine lv_aload_n F.1 F.2.1 dX3_missesOfAll_13 rfl (lv_at hl 2 rfl) ?_
        refine jgetR F hT hW fw_X3_25 (oSrv hr) (by decide) (rSrv2 hr) dX3_missesOfAll_14 ?_
        refine lv_iload_n F.1 F.2.1 dX3_missesOfAll_17 rfl (lv_at hl 0 rfl) ?_
        refine jaald (t := 3) (C := RX1) F hT hW j (oLns hr) rfl (by omega) (by decide) rfl (rLns hr) dX3_missesOfAll_18 ?_
        refine jget F hT hW fw_X3_208 (oLin hr (by omega)) (by decide) (rLin hr (by omega)) dX3_missesOfAll_19 ?_
        refine lv_iadd F.1 F.2.1 dX3_missesOfAll_22 ?_
        refine lv_istore_n (lv' := [(1, .int (v1 + (S (3 + j) 15))), (2, .int (nI j)), (0, .ref (ea E r 0))]) F.1 F.2.1 dX3_missesOfAll_23 rfl hl (by decide) rfl (fun ls hl => ?_)
        refine lv_iinc (v := nI (j + 1)) (lv' := [(2, .int (nI (j + 1))), (1, .int (v1 + (S (3 + j) 15))), (0, .ref (ea E r 0))]) F.1 F.2.1 dX3_missesOfAll_24 hl (k := 1) rfl (ia rfl rfl) (by decide) rfl (fun ls hl => ?_)
        refine lv_goto (tgt := 4) F.1 F.2.1 dX3_missesOfAll_27 (by decide) ?_
        exact ih (j + 1) _ _ _ _ (by omega) (by rw [itN_s, ← hs]; exact (rfl).symm) hW (lv_sub hl [0, 1, 2] rfl)
  exact hL2 (cn (S 0 3)) 0 0 _ _ _ (by omega) rfl hW (lv_sub hl [0, 1, 2] rfl)

def q_X3_greatestCostBelow_4 (S : Sv) (rk : Int32) (j : Nat) (σ : Int32) : Int32 :=
  let v1 : Int32 := σ
  let v7 : Int32 := (if rk ≤ (S (3 + j) 0) then v1 else (let x4 : Int32 := p_X3_costOf S j; (if x4 ≤ v1 then v1 else (let x6 : Int32 := p_X3_costOf S j; x6))))
  v7
def p_X3_greatestCostBelow (S : Sv) (rk : Int32) : Int32 :=
  let v1 : Int32 := (itN (q_X3_greatestCostBelow_4 S rk) (cn (S 0 3)) (0))
  (v1 : Int32)
