/-! the reference: what reads a text -/
theorem bn_nle {x y : Int32} {a b : Nat} (hx : Bn x a) (hy : Bn y b) (ha : a < 2 ^ 31) (hb : b < 2 ^ 31) (h : ¬ y ≤ x) : cn x < cn y := Nat.not_le.mp fun q => h (by
  have h1 := hx.1
  have h2 := hy.1
  rw [h1, h2]
  exact (nI_leI (Nat.lt_of_le_of_lt hy.2 hb) (Nat.lt_of_le_of_lt hx.2 ha)).mpr q)
/-- where the reading stands -/
def Pk (S : Sv) : Prop := Bn (S 0 7) 80 ∧ Bn (S 0 11) 80 ∧ cn (S 0 11) ≤ cn (S 0 7)
theorem Pk.same {S S' : Sv} (h : Pk S) (h7 : S' 0 7 = S 0 7) (h11 : S' 0 11 = S 0 11) : Pk S' := by
  unfold Pk
  rw [h7, h11]
  exact h

def p_X7_sign (S : Sv) : Int32 :=
  let v2 : Int32 := (if (S 0 7) ≤ (S 0 11) then 0 else S 6 (cn (S 0 11)))
  (v2 : Int32)

set_option maxHeartbeats 4000000 in
set_option maxRecDepth 100000 in
theorem c_X7_sign (l : Launch) (E : mE) (μ : Mu) (S : Sv) (pkS : Pk S) : CtI l E yX7_sign cX7_sign 1 (some .int) 0 0 [.ref (ea E 13 0)] (fo μ 13 S) (fun x μ' => x = p_X7_sign S ∧ μ' = (fo μ 13 S)) := by
  refine jMet (by decide +kernel) (Nat.le_of_ble_eq_true rfl) ?_
  intro p e s m below meth c ls F hT hr0 hlk hW hl
  have F : CallFix p m c cX7_sign 1 s _ TB RX7 := F
  have hl : lv_has ls 1 [(0, .ref (ea E 13 0))] := hl
  refine lv_aload_n F.1 F.2.1 dX7_sign_0 rfl (lv_at hl 0 rfl) ?_
  refine jget F hT hW fw_X7_123 oM0 (by decide) rfl dX7_sign_1 ?_
  refine lv_aload_n F.1 F.2.1 dX7_sign_4 rfl (lv_at hl 0 rfl) ?_
  refine jget F hT hW fw_X7_108 oM0 (by decide) rfl dX7_sign_5 ?_
  have hJ3 : ∀ (v2 : Int32) (H : Heap) (locs : List Loc) (ls : Array Slot), v2 = (if (S 0 7) ≤ (S 0 11) then 0 else S 6 (cn (S 0 11))) → Wd E s H locs (fo μ 13 S) → lv_has ls 1 [(0, .ref (ea E 13 0))] → W p l e (rmO 0 0) s m ([.ref (ea E 13 0)] : List Value).toArray below meth c H locs 0 0 (MQ below (va_Qi (fun x μ' => x = p_X7_sign S ∧ μ' = (fo μ 13 S)) (fun μ' t => MB E μ' t.heap) (AA E)) ([.ref (ea E 13 0)] : List Value).toArray s 0 0 (AA E)) (F0 m 24 ls [.int v2]) := by
    intro v2 H locs ls ev2 hW hl
    have hq : (v2 : Int32) = p_X7_sign S := by
      subst ev2
      exact (rfl).symm
    exact jri F hr0 hlk hW rfl dX7_sign_24 ⟨hq, rfl⟩
  refine lv_icmp_ge (tgt := 23) F.1 F.2.1 dX7_sign_8 (by decide) (fun h1 => ?_) (fun h1 => ?_)
  · refine lv_iconst (v := 0) F.1 F.2.1 dX7_sign_23 (by decide) ?_
    exact hJ3 _ _ _ _ (if_pos h1).symm hW (lv_sub hl [0] rfl)
  · have hlt := bn_nle pkS.2.1 pkS.1 (by decide) (by decide) (by assumption)
    have h80 := pkS.1.2
    refine lv_aload_n F.1 F.2.1 dX7_sign_11 rfl (lv_at hl 0 rfl) ?_
    refine jgetR F hT hW fw_X7_26 oM0 (by decide) rfl dX7_sign_12 ?_
    refine lv_aload_n F.1 F.2.1 dX7_sign_15 rfl (lv_at hl 0 rfl) ?_
    refine jget F hT hW fw_X7_123 oM0 (by decide) rfl dX7_sign_16 ?_
    refine jiald F hT hW (cn (S 0 11)) oM6 (by omega) (by decide) pkS.2.1.1 rfl dX7_sign_19 ?_
    refine lv_goto (tgt := 24) F.1 F.2.1 dX7_sign_20 (by decide) ?_
    exact hJ3 _ _ _ _ (if_neg h1).symm hW (lv_sub hl [0] rfl)

theorem sign_lt {S : Sv} (h : Pk S) (h0 : ¬ p_X7_sign S = 0) : cn (S 0 11) < cn (S 0 7) := by
  unfold p_X7_sign at h0
  dsimp only at h0
  by_cases hc : S 0 7 ≤ S 0 11
  · rw [if_pos hc] at h0
    exact absurd rfl h0
  · exact bn_nle h.2.1 h.1 (by decide) (by decide) hc
theorem Pk.inc {S S' : Sv} (h : Pk S) (h0 : ¬ p_X7_sign S = 0) (h7 : S' 0 7 = S 0 7) (h11 : S' 0 11 = S 0 11 + 1) : Pk S' ∧ cn (S' 0 11) = cn (S 0 11) + 1 := by
  have hl := sign_lt h h0
  have h80 := h.1.2
  have e1 : S' 0 11 = nI (cn (S 0 11) + 1) := by rw [h11]; exact ia h.2.1.1 (lI 1)
  have e2 : cn (S' 0 11) = cn (S 0 11) + 1 := by rw [e1]; exact nI_clamp (by omega)
  refine ⟨⟨by rw [h7]; exact h.1, ⟨by rw [e2]; exact e1, by omega⟩, by rw [e2, h7]; omega⟩, e2⟩

def p_X7_one (S : Sv) (no : Int32) (hi : Int32) : Int32 × Sv :=
  let x1 : Int32 := p_X7_sign S
  let v5 : Int32 := (if (S 0 12) = 0 then (let x3 : Int32 := p_X7_in (x1 - no) 0 hi; (if x3 = 0 then 1 else 0)) else 1)
  let S7 : Sv := us S 0 12 v5
  let v9 : Int32 := (if (S7 0 12) = 0 then 1 else 0)
  let S11 : Sv := us S7 0 11 ((S7 0 11) + v9)
  ((x1 - no : Int32), S11)

set_option maxHeartbeats 4000000 in
set_option maxRecDepth 100000 in
theorem c_X7_one (l : Launch) (E : mE) (μ : Mu) (S : Sv) (no : Int32) (hi : Int32) (pkS : Pk S) : CtI l E yX7_one cX7_one 4 (some .int) 1 22 [.ref (ea E 13 0), .int no, .int hi] (fo μ 13 S) (fun x μ' => x = (p_X7_one S no hi).1 ∧ μ' = fo μ 13 (p_X7_one S no hi).2) := by
  refine jMet (by decide +kernel) (Nat.le_of_ble_eq_true rfl) ?_
  intro p e s m below meth c ls F hT hr0 hlk hW hl
  have F : CallFix p m c cX7_one 4 s _ TB RX7 := F
  have hl : lv_has ls 4 [(0, .ref (ea E 13 0)), (1, .int no), (2, .int hi)] := hl
  refine lv_aload_n F.1 F.2.1 dX7_one_0 rfl (lv_at hl 0 rfl) ?_
  refine jcip (jrunV (As := []) (rest := []) F hT hW yc_X7_sign yv_X7_sign ml_X7_126 oM0 (by decide) rfl (c_X7_sign l E μ S (by first | assumption | omega)) rfl hl.1 ⟨Nat.le_of_ble_eq_true rfl, Nat.le_of_ble_eq_true rfl⟩ rfl (Nat.le_of_ble_eq_true rfl) ⟨Nat.le_refl _, Nat.le_refl _⟩ dX7_one_1) hW (fun x1 H locs ex1 hW => ?_)
  refine lv_iload_n F.1 F.2.1 dX7_one_4 rfl (lv_at hl 1 rfl) ?_
  refine lv_isub F.1 F.2.1 dX7_one_5 ?_
  refine lv_istore_n (lv' := [(3, .int (x1 - no)), (0, .ref (ea E 13 0)), (1, .int no), (2, .int hi)]) F.1 F.2.1 dX7_one_6 rfl hl (by decide) rfl (fun ls hl => ?_)
  refine lv_aload_n F.1 F.2.1 dX7_one_7 rfl (lv_at hl 1 rfl) ?_
  refine lv_aload_n F.1 F.2.1 dX7_one_8 rfl (lv_at hl 1 rfl) ?_
  refine jget F hT hW fw_X7_129 oM0 (by decide) rfl dX7_one_9 ?_
  have hJ6 : ∀ (v5 : Int32) (H : Heap) (locs : List Loc) (ls : Array Slot), v5 = (if (S 0 12) = 0 then (let x3 : Int32 := p_X7_in (x1 - no) 0 hi; (if x3 = 0 then 1 else 0)) else 1) → Wd E s H locs (fo μ 13 S) → lv_has ls 4 [(3, .int (x1 - no)), (0, .ref (ea E 13 0)), (1, .int no), (2, .int hi)] → W p l e (rmO 1 22) s m ([.ref (ea E 13 0), .int no, .int hi] : List Value).toArray below meth c H locs 0 0 (MQ below (va_Qi (fun x μ' => x = (p_X7_one S no hi).1 ∧ μ' = fo μ 13 (p_X7_one S no hi).2) (fun μ' t => MB E μ' t.heap) (AA E)) ([.ref (ea E 13 0), .int no, .int hi] : List Value).toArray s 0 0 (AA E)) (F0 m 29 ls [.int v5, .ref (ea E 13 0)]) := by
    intro v5 H locs ls ev5 hW hl
    refine jput F hT hW fw_X7_129 ft_7_12 oM0 (by decide) (by decide) rfl (znar (by first | assumption | ((try clear hq); subst_vars; (try dsimp only); repeat' (first | exact Or.inl rfl | exact Or.inr rfl | exact b_in | refine iteZ ?_ ?_)))) (zfit (by first | assumption | ((try clear hq); subst_vars; (try dsimp only); repeat' (first | exact Or.inl rfl | exact Or.inr rfl | exact b_in | refine iteZ ?_ ?_)))) dX7_one_29 (fun S7 H locs eS7 hW => ?_)
    refine lv_aload_n F.1 F.2.1 dX7_one_32 rfl (lv_at hl 1 rfl) ?_
    refine lv_dup F.1 F.2.1 dX7_one_33 rfl ?_
    refine jget F hT hW fw_X7_123 oM0 (by decide) rfl dX7_one_34 ?_
    refine lv_aload_n F.1 F.2.1 dX7_one_37 rfl (lv_at hl 1 rfl) ?_
    refine jget F hT hW fw_X7_129 oM0 (by decide) rfl dX7_one_38 ?_
    have hJ10 : ∀ (v9 : Int32) (H : Heap) (locs : List Loc) (ls : Array Slot), v9 = (if (S7 0 12) = 0 then 1 else 0) → Wd E s H locs (fo μ 13 S7) → lv_has ls 4 [(3, .int (x1 - no)), (0, .ref (ea E 13 0)), (1, .int no), (2, .int hi)] → W p l e (rmO 1 22) s m ([.ref (ea E 13 0), .int no, .int hi] : List Value).toArray below meth c H locs 0 0 (MQ below (va_Qi (fun x μ' => x = (p_X7_one S no hi).1 ∧ μ' = fo μ 13 (p_X7_one S no hi).2) (fun μ' t => MB E μ' t.heap) (AA E)) ([.ref (ea E 13 0), .int no, .int hi] : List Value).toArray s 0 0 (AA E)) (F0 m 49 ls [.int v9, .int (S7 0 11), .ref (ea E 13 0)]) := by
      intro v9 H locs ls ev9 hW hl
      refine lv_iadd F.1 F.2.1 dX7_one_49 ?_
      refine jput F hT hW fw_X7_123 ft_7_11 oM0 (by decide) (by decide) rfl rfl rfl dX7_one_50 (fun S11 H locs eS11 hW => ?_)
      refine lv_iload_n F.1 F.2.1 dX7_one_53 rfl (lv_at hl 0 rfl) ?_
      have hq : ((x1 - no : Int32), S11) = p_X7_one S no hi := by
        subst eS11
        subst ev9
        subst eS7
        subst ev5
        subst ex1
        exact (rfl).symm
      exact jri F hr0 hlk hW rfl dX7_one_54 ⟨congrArg Prod.fst hq, congrArg (fun z => fo μ 13 z.2) hq⟩
    refine lv_if_eq (tgt := 48) F.1 F.2.1 dX7_one_41 (by decide) (fun h8 => ?_) (fun h8 => ?_)
    · refine lv_iconst (v := 1) F.1 F.2.1 dX7_one_48 (by decide) ?_
      exact hJ10 _ _ _ _ (if_pos h8).symm hW (lv_sub hl [0, 1, 2, 3] rfl)
    · refine lv_iconst (v := 0) F.1 F.2.1 dX7_one_44 (by decide) ?_
      refine lv_goto (tgt := 49) F.1 F.2.1 dX7_one_45 (by decide) ?_
      exact hJ10 _ _ _ _ (if_neg h8).symm hW (lv_sub hl [0, 1, 2, 3] rfl)
  refine lv_if_ne (tgt := 24) F.1 F.2.1 dX7_one_12 (by decide) (fun h2 => ?_) (fun h2 => ?_)
  · refine lv_iconst (v := 1) F.1 F.2.1 dX7_one_24 (by decide) ?_
    refine lv_goto (tgt := 29) F.1 F.2.1 dX7_one_25 (by decide) ?_
    exact hJ6 _ _ _ _ (if_neg h2).symm hW (lv_sub hl [0, 1, 2, 3] rfl)
  · refine lv_iload_n F.1 F.2.1 dX7_one_15 rfl (lv_at hl 0 rfl) ?_
    refine lv_iconst (v := 0) F.1 F.2.1 dX7_one_16 (by decide) ?_
    refine lv_iload_n F.1 F.2.1 dX7_one_17 rfl (lv_at hl 3 rfl) ?_
    refine jcip (jrunS (As := [.int (x1 - no), .int 0, .int hi]) (rest := [.ref (ea E 13 0)]) F hT hW yc_X7_in ys_X7_in ml_X7_40 (c_X7_in l E (fo μ 13 S) (x1 - no) 0 hi) rfl hl.1 ⟨Nat.le_of_ble_eq_true rfl, Nat.le_of_ble_eq_true rfl⟩ rfl (Nat.le_of_ble_eq_true rfl) ⟨Nat.le_refl _, Nat.le_refl _⟩ dX7_one_18) hW (fun x3 H locs ex3 hW => ?_)
    refine lv_if_ne (tgt := 28) F.1 F.2.1 dX7_one_21 (by decide) (fun h4 => ?_) (fun h4 => ?_)
    · refine lv_iconst (v := 0) F.1 F.2.1 dX7_one_28 (by decide) ?_
      subst ex3
      exact hJ6 _ _ _ _ ((if_pos h2).trans (if_neg h4)).symm hW (lv_sub hl [0, 1, 2, 3] rfl)
    · refine lv_iconst (v := 1) F.1 F.2.1 dX7_one_24 (by decide) ?_
      refine lv_goto (tgt := 29) F.1 F.2.1 dX7_one_25 (by decide) ?_
      subst ex3
      exact hJ6 _ _ _ _ ((if_pos h2).trans (if_pos h4)).symm hW (lv_sub hl [0, 1, 2, 3] rfl)

