/-! the reference: a text is carried out -/

theorem iteR {α : Type} {P : α → Prop} {c : Prop} {h : Decidable c} {a b : α} (h1 : P a) (h2 : P b) : P (@ite _ c h a b) := by
  by_cases hc : c
  · rw [if_pos hc]; exact h1
  · rw [if_neg hc]; exact h2
theorem cx_carry {S : Sv} {fr : Nat} (h : Cx S) : Cx (p_X7_carry S fr).2 := by
  have h1 := cx_raise (ln := S 7 (fr + 1)) h
  have h2 := cx_hold (ln := S 7 (fr + 1)) (d := S 7 (fr + 2)) (u := 1) h
  have h3 := cx_hold (ln := S 7 (fr + 1)) (d := S 7 (fr + 2)) (u := 0) h
  have h4 := cx_mask (ln := S 7 (fr + 1)) (i := 1) h
  have h5 := cx_mask (ln := S 7 (fr + 1)) (i := 0) h
  have h6 := cx_ticks (tk := S 7 (fr + 1)) h
  unfold p_X7_carry
  dsimp only
  generalize p_X7_raise S (S 7 (fr + 1)) = r1 at h1 ⊢
  generalize p_X7_hold S (S 7 (fr + 1)) (S 7 (fr + 2)) 1 = r2 at h2 ⊢
  generalize p_X7_hold S (S 7 (fr + 1)) (S 7 (fr + 2)) 0 = r3 at h3 ⊢
  generalize p_X7_mask S (S 7 (fr + 1)) 1 = r4 at h4 ⊢
  generalize p_X7_mask S (S 7 (fr + 1)) 0 = r5 at h5 ⊢
  generalize p_X7_ticks S (S 7 (fr + 1)) = r6 at h6 ⊢
  repeat' (first | refine iteR (P := fun z : Int32 × Sv => Cx z.2) ?_ ?_ | assumption)
theorem cx_0 {S : Sv} (h : Cx S) {v : Int32} {k : Nat} (hk : ¬ (k = 10 ∨ k = 3)) : Cx (us S 0 k v) := ⟨by rw [us_ne _ _ (by omega)]; exact h.1, by rw [us_ne _ _ (by omega)]; exact h.2.1, h.2.2.row fun _ _ => us_ne _ _ (by omega)⟩
theorem cx_fa {S : Sv} (h7 : Bn (S 0 7) 80) (hu : Bn (S 0 3) 6) (hw : Wm S) : Cx (p_X7_faultOf S).2 := ⟨(faultOf_pk h7).2, by rw [faultOf_f (by decide) (by decide)]; exact hu, hw.row fun _ _ => faultOf_f (by decide) (by omega)⟩

def q_X7_carryOut_23 (S : Sv) : Nat → Nat → Sv → Int32 × Sv
  | 0, j, S6 =>
    let S9 : Sv := us S6 0 8 0
    let S10 : Sv := us S9 0 7 0
    ((nI j : Int32), S10)
  | fu + 1, j, S6 =>
    if (S6 0 10) ≤ (nI j) then
      let S8 : Sv := us S6 0 8 0
      let S9 : Sv := us S8 0 7 0
      ((nI j : Int32), S9)
    else
      let x10 : Int32 := (p_X7_carry S6 (3 * j)).1
      let S11 : Sv := (p_X7_carry S6 (3 * j)).2
      if x10 < 0 then
        let S13 : Sv := us S11 0 8 0
        let S14 : Sv := us S13 0 7 0
        ((nI j : Int32), S14)
      else
        q_X7_carryOut_23 S fu (j + 1) S11
def p_X7_carryOut (S : Sv) : Int32 × Sv :=
  let x1 : Int32 := (p_X7_faultOf S).1
  let S2 : Sv := (p_X7_faultOf S).2
  if x1 = (-6) then
    let S4 : Sv := p_X7_record S2
    let S5 : Sv := us S4 0 8 1
    q_X7_carryOut_23 S 27 0 S5
  else
    (((-3) : Int32), S2)

set_option maxHeartbeats 4000000 in
set_option maxRecDepth 100000 in
theorem c_X7_carryOut (l : Launch) (E : mE) (μ : Mu) (S : Sv) (hsg : Bn (S 0 7) 80) (hu : Bn (S 0 3) 6) (wfS : Wm S) : CtI l E yX7_carryOut cX7_carryOut 2 (some .int) 7 158 [.ref (ea E 13 0)] (fo μ 13 S) (fun x μ' => x = (p_X7_carryOut S).1 ∧ μ' = fo μ 13 (p_X7_carryOut S).2) := by
  refine jMet (by decide +kernel) (Nat.le_of_ble_eq_true rfl) ?_
  intro p e s m below meth c ls F hT hr0 hlk hW hl
  have F : CallFix p m c cX7_carryOut 2 s _ TB RX7 := F
  have hl : lv_has ls 2 [(0, .ref (ea E 13 0))] := hl
  refine lv_aload_n F.1 F.2.1 dX7_carryOut_0 rfl (lv_at hl 0 rfl) ?_
  refine jcif (jrunV (As := []) (rest := []) F hT hW yc_X7_faultOf yv_X7_faultOf ml_X7_146 oM0 (by decide) rfl (c_X7_faultOf l E μ S (by first | assumption | omega)) rfl hl.1 ⟨Nat.le_of_ble_eq_true rfl, Nat.le_of_ble_eq_true rfl⟩ rfl (Nat.le_of_ble_eq_true rfl) ⟨Nat.le_refl _, Nat.le_refl _⟩ dX7_carryOut_1) hW (fun x1 S2 H locs ex1 eS2 hW => ?_)
  have cx1 : Cx S2 := by rw [eS2]; exact cx_fa hsg hu wfS
  refine lv_bipush (v := (-6)) F.1 F.2.1 dX7_carryOut_4 (by decide) ?_
  refine lv_icmp_eq (tgt := 12) F.1 F.2.1 dX7_carryOut_6 (by decide) (fun h3 => ?_) (fun h3 => ?_)
  · refine lv_aload_n F.1 F.2.1 dX7_carryOut_12 rfl (lv_at hl 0 rfl) ?_
    refine jcvf (jrunV (As := []) (rest := []) F hT hW yc_X7_record yv_X7_record ml_X7_51 oM0 (by decide) rfl (c_X7_record l E μ S2 cx1.2.1) rfl hl.1 ⟨Nat.le_of_ble_eq_true rfl, Nat.le_of_ble_eq_true rfl⟩ rfl (Nat.le_of_ble_eq_true rfl) ⟨Nat.le_refl _, Nat.le_refl _⟩ dX7_carryOut_13) hW (fun S4 H locs eS4 hW => ?_)
    have cx2 : Cx S4 := by rw [eS4]; exact cx_rec cx1
    refine lv_aload_n F.1 F.2.1 dX7_carryOut_16 rfl (lv_at hl 0 rfl) ?_
    refine lv_iconst (v := 1) F.1 F.2.1 dX7_carryOut_17 (by decide) ?_
    refine jput F hT hW fw_X7_32 ft_7_8 oM0 (by decide) (by decide) rfl (znar (Or.inr rfl)) (zfit (Or.inr rfl)) dX7_carryOut_18 (fun S5 H locs eS5 hW => ?_)
    refine lv_iconst (v := 0) F.1 F.2.1 dX7_carryOut_21 (by decide) ?_
    refine lv_istore_n (lv' := [(1, .int 0), (0, .ref (ea E 13 0))]) F.1 F.2.1 dX7_carryOut_22 rfl hl (by decide) rfl (fun ls hl => ?_)
    have hL7 : ∀ (fu j : Nat) (S6 : Sv) (H : Heap) (locs : List Loc) (ls : Array Slot), j + fu = 27 → p_X7_carryOut S = q_X7_carryOut_23 S fu j S6 → Cx S6 → Wd E s H locs (fo μ 13 S6) → lv_has ls 2 [(1, .int (nI j)), (0, .ref (ea E 13 0))] → W p l e (rmO 7 158) s m ([.ref (ea E 13 0)] : List Value).toArray below meth c H locs 0 0 (MQ below (va_Qi (fun x μ' => x = (p_X7_carryOut S).1 ∧ μ' = fo μ 13 (p_X7_carryOut S).2) (fun μ' t => MB E μ' t.heap) (AA E)) ([.ref (ea E 13 0)] : List Value).toArray s 0 0 (AA E)) (F0 m 23 ls []) := by
      intro fu
      induction fu with
      | zero =>
        intro j S6 H locs ls hj hres cax hW hl
        have c10 := cax.1.2
        refine lv_iload_n F.1 F.2.1 dX7_carryOut_23 rfl (lv_at hl 0 rfl) ?_
        refine lv_aload_n F.1 F.2.1 dX7_carryOut_24 rfl (lv_at hl 1 rfl) ?_
        refine jget F hT hW fw_X7_135 oM0 (by decide) rfl dX7_carryOut_25 ?_
        refine lv_icmp_ge (tgt := 47) F.1 F.2.1 dX7_carryOut_28 (by decide) (fun h8 => ?_) (fun h8 => ?_)
        · refine lv_aload_n F.1 F.2.1 dX7_carryOut_47 rfl (lv_at hl 1 rfl) ?_
          refine lv_iconst (v := 0) F.1 F.2.1 dX7_carryOut_48 (by decide) ?_
          refine jput F hT hW fw_X7_32 ft_7_8 oM0 (by decide) (by decide) rfl (znar (Or.inl rfl)) (zfit (Or.inl rfl)) dX7_carryOut_49 (fun S9 H locs eS9 hW => ?_)
          refine lv_aload_n F.1 F.2.1 dX7_carryOut_52 rfl (lv_at hl 1 rfl) ?_
          refine lv_iconst (v := 0) F.1 F.2.1 dX7_carryOut_53 (by decide) ?_
          refine jput F hT hW fw_X7_108 ft_7_7 oM0 (by decide) (by decide) rfl rfl rfl dX7_carryOut_54 (fun S10 H locs eS10 hW => ?_)
          refine lv_iload_n F.1 F.2.1 dX7_carryOut_57 rfl (lv_at hl 0 rfl) ?_
          have hq : ((nI j : Int32), S10) = p_X7_carryOut S := by
            subst eS10
            subst eS9
            exact (hres).symm
          exact jri F hr0 hlk hW rfl dX7_carryOut_58 ⟨congrArg Prod.fst hq, congrArg (fun z => fo μ 13 z.2) hq⟩
        · exact absurd (c_le cax.1.1 rfl (by omega) (by omega)) h8
      | succ fu ih =>
        intro j S6 H locs ls hj hres cax hW hl
        refine lv_iload_n F.1 F.2.1 dX7_carryOut_23 rfl (lv_at hl 0 rfl) ?_
        refine lv_aload_n F.1 F.2.1 dX7_carryOut_24 rfl (lv_at hl 1 rfl) ?_
        refine jget F hT hW fw_X7_135 oM0 (by decide) rfl dX7_carryOut_25 ?_
        refine lv_icmp_ge (tgt := 47) F.1 F.2.1 dX7_carryOut_28 (by decide) (fun h7 => ?_) (fun h7 => ?_)
        · refine lv_aload_n F.1 F.2.1 dX7_carryOut_47 rfl (lv_at hl 1 rfl) ?_
          refine lv_iconst (v := 0) F.1 F.2.1 dX7_carryOut_48 (by decide) ?_
          refine jput F hT hW fw_X7_32 ft_7_8 oM0 (by decide) (by decide) rfl (znar (Or.inl rfl)) (zfit (Or.inl rfl)) dX7_carryOut_49 (fun S8 H locs eS8 hW => ?_)
          refine lv_aload_n F.1 F.2.1 dX7_carryOut_52 rfl (lv_at hl 1 rfl) ?_
          refine lv_iconst (v := 0) F.1 F.2.1 dX7_carryOut_53 (by decide) ?_
          refine jput F hT hW fw_X7_108 ft_7_7 oM0 (by decide) (by decide) rfl rfl rfl dX7_carryOut_54 (fun S9 H locs eS9 hW => ?_)
          refine lv_iload_n F.1 F.2.1 dX7_carryOut_57 rfl (lv_at hl 0 rfl) ?_
          have hq : ((nI j : Int32), S9) = p_X7_carryOut S := by
            subst eS9
            subst eS8
            exact ((hres).trans (if_pos h7)).symm
          exact jri F hr0 hlk hW rfl dX7_carryOut_58 ⟨congrArg Prod.fst hq, congrArg (fun z => fo μ 13 z.2) hq⟩
        · refine lv_aload_n F.1 F.2.1 dX7_carryOut_31 rfl (lv_at hl 1 rfl) ?_
          refine lv_iconst (v := 3) F.1 F.2.1 dX7_carryOut_32 (by decide) ?_
          refine lv_iload_n F.1 F.2.1 dX7_carryOut_33 rfl (lv_at hl 0 rfl) ?_
          refine lv_imul F.1 F.2.1 dX7_carryOut_34 ?_
          refine jcif (jrunV (As := [.int (3 * (nI j))]) (rest := []) F hT hW yc_X7_carry yv_X7_carry ml_X7_162 oM0 (by decide) rfl (c_X7_carry l E μ S6 (3 * (nI j)) (3 * j) (im (lI 3) rfl) (by omega) cax.2.1 cax.2.2) rfl hl.1 ⟨Nat.le_of_ble_eq_true rfl, Nat.le_of_ble_eq_true rfl⟩ rfl (Nat.le_of_ble_eq_true rfl) ⟨Nat.le_refl _, Nat.le_refl _⟩ dX7_carryOut_35) hW (fun x10 S11 H locs ex10 eS11 hW => ?_)
          have cxn : Cx S11 := by rw [eS11]; exact cx_carry cax
          refine lv_if_lt (tgt := 47) F.1 F.2.1 dX7_carryOut_38 (by decide) (fun h12 => ?_) (fun h12 => ?_)
          · refine lv_aload_n F.1 F.2.1 dX7_carryOut_47 rfl (lv_at hl 1 rfl) ?_
            refine lv_iconst (v := 0) F.1 F.2.1 dX7_carryOut_48 (by decide) ?_
            refine jput F hT hW fw_X7_32 ft_7_8 oM0 (by decide) (by decide) rfl (znar (Or.inl rfl)) (zfit (Or.inl rfl)) dX7_carryOut_49 (fun S13 H locs eS13 hW => ?_)
            refine lv_aload_n F.1 F.2.1 dX7_carryOut_52 rfl (lv_at hl 1 rfl) ?_
            refine lv_iconst (v := 0) F.1 F.2.1 dX7_carryOut_53 (by decide) ?_
            refine jput F hT hW fw_X7_108 ft_7_7 oM0 (by decide) (by decide) rfl rfl rfl dX7_carryOut_54 (fun S14 H locs eS14 hW => ?_)
            refine lv_iload_n F.1 F.2.1 dX7_carryOut_57 rfl (lv_at hl 0 rfl) ?_
            have hq : ((nI j : Int32), S14) = p_X7_carryOut S := by
              subst eS14
              subst eS13
              subst eS11
              subst ex10
              exact ((hres).trans ((if_neg h7).trans (if_pos h12))).symm
            exact jri F hr0 hlk hW rfl dX7_carryOut_58 ⟨congrArg Prod.fst hq, congrArg (fun z => fo μ 13 z.2) hq⟩
          · refine lv_iinc (v := nI (j + 1)) (lv' := [(1, .int (nI (j + 1))), (0, .ref (ea E 13 0))]) F.1 F.2.1 dX7_carryOut_41 hl (k := 0) rfl (ia rfl rfl) (by decide) rfl (fun ls hl => ?_)
            refine lv_goto (tgt := 23) F.1 F.2.1 dX7_carryOut_44 (by decide) ?_
            subst eS11
            subst ex10
            exact ih (j + 1) _ _ _ _ (by omega) (hres.trans ((if_neg h7).trans (if_neg h12))) cxn hW (lv_sub hl [0, 1] rfl)
    have cx3 : Cx S5 := by rw [eS5]; exact cx_0 cx2 (by decide)
    exact hL7 27 0 S5 _ _ _ (by omega) (by subst eS5; subst eS4; subst eS2; subst ex1; exact if_pos h3) cx3 hW (lv_sub hl [0, 1] rfl)
  · refine lv_bipush (v := (-3)) F.1 F.2.1 dX7_carryOut_9 (by decide) ?_
    have hq : (((-3) : Int32), S2) = p_X7_carryOut S := by
      subst eS2
      subst ex1
      exact (if_neg h3).symm
    exact jri F hr0 hlk hW rfl dX7_carryOut_11 ⟨congrArg Prod.fst hq, congrArg (fun z => fo μ 13 z.2) hq⟩

