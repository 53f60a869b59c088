/-! the reference: put, carryOut, undo, save, restore -/
theorem fr_rec {S : Sv} {p k : Nat} (h0 : ¬ (p = 0 ∧ k = 3)) (h3 : ¬ p = 3) : p_X7_record S p k = S p k := by
  unfold p_X7_record
  dsimp only
  split
  · rw [us_ne _ _ (by omega), rec_keep _ _ _ h3]
    split
    · rw [us_ne _ _ (by omega), rec1_keep _ _ _ h3]
    · rfl
  · rfl
theorem rec_u {S : Sv} (hu : Bn (S 0 3) 6) : Bn (p_X7_record S 0 3) 6 := by
  unfold p_X7_record
  dsimp only
  split
  · rw [us_at, rec_keep _ _ _ (by decide)]
    by_cases hz : S 0 3 = 6
    · rw [if_pos hz, us_at]
      exact bnI (n := 6) (by decide) (by decide)
    · rw [if_neg hz]
      have h7 := bn_neI hu (lI 6) hz
      exact (bn_inc hu h7 (by decide)).2
  · exact hu
/-- what carrying a text out stands on -/
def Cx (S : Sv) : Prop := Bn (S 0 10) 27 ∧ Bn (S 0 3) 6 ∧ Wm S
theorem cx_rec {S : Sv} (h : Cx S) : Cx (p_X7_record S) := ⟨by rw [fr_rec (by decide) (by decide)]; exact h.1, rec_u h.2.1, wm_record h.2.2⟩
theorem Cx.same {S T : Sv} (h : Cx S) (h0 : ∀ k, T 0 k = S 0 k) (h1 : Wm T) : Cx T := ⟨by rw [h0]; exact h.1, by rw [h0]; exact h.2.1, h1⟩
theorem wm_line {S T : Sv} {li : Nat} (h : Wm S) (hli : li < 12) (hk : ∀ k, ¬ (20 + 16 * li ≤ k ∧ k < 36 + 16 * li) → T 1 k = S 1 k) : Wm T :=
  h.same (hk _ (by omega)) (hk _ (by omega)) (hk _ (by omega)) (hk _ (by omega)) (fun q hq => hk _ (by omega)) (fun q hq => hk _ (by omega))
theorem cx_raise {S : Sv} {ln : Int32} (h : Cx S) : Cx (p_X7_raise S ln).2 := by
  have hn2 := h.2.2.1.2
  unfold p_X7_raise
  dsimp only
  split
  · exact h
  · next h1 =>
    obtain ⟨hl1, hl2⟩ := wI h.2.2.1 rfl h1
    split
    · exact h
    · have hr := cx_rec h
      exact hr.same (fun k => fr_edge (by omega)) (wm_line hr.2.2 (li := cn ln) (by omega) fun k hk => fr_edge (by omega))
theorem cx_mask {S : Sv} {ln i : Int32} (h : Cx S) : Cx (p_X7_mask S ln i).2 := by
  have hn2 := h.2.2.1.2
  unfold p_X7_mask
  dsimp only
  split
  · exact h
  · next h1 =>
    obtain ⟨hl1, hl2⟩ := wI h.2.2.1 rfl h1
    split
    · exact h
    · have hr := cx_rec h
      dsimp only
      exact hr.same (fun k => fr_book (by omega)) (wm_line hr.2.2 (li := cn ln) (by omega) fun k hk => fr_book (by omega))
theorem cx_hold {S : Sv} {ln d u : Int32} (h : Cx S) : Cx (p_X7_hold S ln d u).2 := by
  have hn2 := h.2.2.1.2
  have hr := cx_rec h
  unfold p_X7_hold
  dsimp only
  repeat' split
  all_goals first | exact h | skip
  · next h1 _ _ _ =>
    obtain ⟨hl1, hl2⟩ := wI h.2.2.1 rfl h1
    dsimp only
    exact hr.same (fun k => by rw [fr_look (by omega), fr_book (by omega)]) (wm_line hr.2.2 (li := cn ln) (by omega) fun k hk => by rw [fr_look (by omega), fr_book (by omega)])
theorem cx_ticks {S : Sv} {tk : Int32} (h : Cx S) : Cx (p_X7_ticks S tk).2 := by
  have hr := cx_rec h
  have hw : ∀ n, Wm (itN (q_X7_ticks_20 S tk) n (p_X7_record S)) := wm_it hr.2.2 tk_f
  have h0 : ∀ n k, itN (q_X7_ticks_20 S tk) n (p_X7_record S) 0 k = p_X7_record S 0 k := by
    intro n
    induction n with
    | zero => intro k; rfl
    | succ n ih =>
      intro k
      rw [itN_s]
      exact ((hw n).frP (by decide)).trans (ih k)
  unfold p_X7_ticks
  dsimp only
  split
  · exact h
  · exact hr.same (fun k => h0 _ k) (hw _)

def p_X7_carry (S : Sv) (fr : Nat) : Int32 × Sv :=
  if (S 7 fr) = 104 then
    let x1 : Int32 := (p_X7_hold S (S 7 (fr + 1)) (S 7 (fr + 2)) 1).1
    let S2 : Sv := (p_X7_hold S (S 7 (fr + 1)) (S 7 (fr + 2)) 1).2
    ((x1 : Int32), S2)
  else
    if (S 7 fr) = 105 then
      let x3 : Int32 := (p_X7_ticks S (S 7 (fr + 1))).1
      let S4 : Sv := (p_X7_ticks S (S 7 (fr + 1))).2
      ((x3 : Int32), S4)
    else
      if (S 7 fr) = 106 then
        let x5 : Int32 := (p_X7_ticks S (S 7 (fr + 1))).1
        let S6 : Sv := (p_X7_ticks S (S 7 (fr + 1))).2
        ((x5 : Int32), S6)
      else
        if (S 7 fr) = 107 then
          let x7 : Int32 := (p_X7_ticks S (S 7 (fr + 1))).1
          let S8 : Sv := (p_X7_ticks S (S 7 (fr + 1))).2
          ((x7 : Int32), S8)
        else
          if (S 7 fr) = 108 then
            let x9 : Int32 := (p_X7_hold S (S 7 (fr + 1)) (S 7 (fr + 2)) 0).1
            let S10 : Sv := (p_X7_hold S (S 7 (fr + 1)) (S 7 (fr + 2)) 0).2
            ((x9 : Int32), S10)
          else
            if (S 7 fr) = 109 then
              let x11 : Int32 := (p_X7_mask S (S 7 (fr + 1)) 1).1
              let S12 : Sv := (p_X7_mask S (S 7 (fr + 1)) 1).2
              ((x11 : Int32), S12)
            else
              if (S 7 fr) = 110 then
                let x13 : Int32 := (p_X7_mask S (S 7 (fr + 1)) 0).1
                let S14 : Sv := (p_X7_mask S (S 7 (fr + 1)) 0).2
                ((x13 : Int32), S14)
              else
                if (S 7 fr) = 111 then
                  let x15 : Int32 := (p_X7_ticks S (S 7 (fr + 1))).1
                  let S16 : Sv := (p_X7_ticks S (S 7 (fr + 1))).2
                  ((x15 : Int32), S16)
                else
                  if (S 7 fr) = 112 then
                    let x17 : Int32 := (p_X7_ticks S (S 7 (fr + 1))).1
                    let S18 : Sv := (p_X7_ticks S (S 7 (fr + 1))).2
                    ((x17 : Int32), S18)
                  else
                    if (S 7 fr) = 113 then
                      let x19 : Int32 := (p_X7_ticks S (S 7 (fr + 1))).1
                      let S20 : Sv := (p_X7_ticks S (S 7 (fr + 1))).2
                      ((x19 : Int32), S20)
                    else
                      if (S 7 fr) = 114 then
                        let x21 : Int32 := (p_X7_ticks S (S 7 (fr + 1))).1
                        let S22 : Sv := (p_X7_ticks S (S 7 (fr + 1))).2
                        ((x21 : Int32), S22)
                      else
                        if (S 7 fr) = 115 then
                          let x23 : Int32 := (p_X7_ticks S (S 7 (fr + 1))).1
                          let S24 : Sv := (p_X7_ticks S (S 7 (fr + 1))).2
                          ((x23 : Int32), S24)
                        else
                          if (S 7 fr) = 116 then
                            let x25 : Int32 := (p_X7_ticks S (S 7 (fr + 1))).1
                            let S26 : Sv := (p_X7_ticks S (S 7 (fr + 1))).2
                            ((x25 : Int32), S26)
                          else
                            if (S 7 fr) = 117 then
                              let x27 : Int32 := (p_X7_raise S (S 7 (fr + 1))).1
                              let S28 : Sv := (p_X7_raise S (S 7 (fr + 1))).2
                              ((x27 : Int32), S28)
                            else
                              let x29 : Int32 := (p_X7_ticks S (S 7 (fr + 1))).1
                              let S30 : Sv := (p_X7_ticks S (S 7 (fr + 1))).2
                              ((x29 : Int32), S30)

set_option maxHeartbeats 4000000 in
set_option maxRecDepth 100000 in
theorem c_X7_carry (l : Launch) (E : mE) (μ : Mu) (S : Sv) (xf : Int32) (fr : Nat) (exf : xf = nI fr) (hfr : fr + 2 < 240) (hu : Bn (S 0 3) 6) (wfS : Wm S) : CtI l E yX7_carry cX7_carry 3 (some .int) 6 136 [.ref (ea E 13 0), .int xf] (fo μ 13 S) (fun x μ' => x = (p_X7_carry S fr).1 ∧ μ' = fo μ 13 (p_X7_carry S fr).2) := by
  subst exf
  refine jMet (by decide +kernel) (Nat.le_of_ble_eq_true rfl) ?_
  intro p e s m below meth c ls F hT hr0 hlk hW hl
  have F : CallFix p m c cX7_carry 3 s _ TB RX7 := F
  have hl : lv_has ls 3 [(0, .ref (ea E 13 0)), (1, .int (nI fr))] := hl
  refine lv_aload_n F.1 F.2.1 dX7_carry_0 rfl (lv_at hl 0 rfl) ?_
  refine jgetR F hT hW fw_X7_29 oM0 (by decide) rfl dX7_carry_1 ?_
  refine lv_iload_n F.1 F.2.1 dX7_carry_4 rfl (lv_at hl 1 rfl) ?_
  refine lv_iconst (v := 1) F.1 F.2.1 dX7_carry_5 (by decide) ?_
  refine lv_iadd F.1 F.2.1 dX7_carry_6 ?_
  refine jiald F hT hW (fr + 1) oM7 (by omega) (by decide) (ia rfl (lI 1)) rfl dX7_carry_7 ?_
  refine lv_istore_n (lv' := [(2, .int (S 7 (fr + 1))), (0, .ref (ea E 13 0)), (1, .int (nI fr))]) F.1 F.2.1 dX7_carry_8 rfl hl (by decide) rfl (fun ls hl => ?_)
  refine lv_aload_n F.1 F.2.1 dX7_carry_9 rfl (lv_at hl 1 rfl) ?_
  refine jgetR F hT hW fw_X7_29 oM0 (by decide) rfl dX7_carry_10 ?_
  refine lv_iload_n F.1 F.2.1 dX7_carry_13 rfl (lv_at hl 2 rfl) ?_
  refine jiald F hT hW fr oM7 (by omega) (by decide) rfl rfl dX7_carry_14 ?_
  rcases Decidable.em ((S 7 fr) = 104) with hk15_0 | hk15_0
  · refine lv_tableIn (off := 75) (tgt := 90) F.1 F.2.1 dX7_carry_15 (by rw [hk15_0]; decide) (by rw [hk15_0]; decide) (by rw [hk15_0]; rfl) (by decide) ?_
    refine lv_aload_n F.1 F.2.1 dX7_carry_90 rfl (lv_at hl 1 rfl) ?_
    refine lv_iload_n F.1 F.2.1 dX7_carry_91 rfl (lv_at hl 0 rfl) ?_
    refine lv_aload_n F.1 F.2.1 dX7_carry_92 rfl (lv_at hl 1 rfl) ?_
    refine jgetR F hT hW fw_X7_29 oM0 (by decide) rfl dX7_carry_93 ?_
    refine lv_iload_n F.1 F.2.1 dX7_carry_96 rfl (lv_at hl 2 rfl) ?_
    refine lv_iconst (v := 2) F.1 F.2.1 dX7_carry_97 (by decide) ?_
    refine lv_iadd F.1 F.2.1 dX7_carry_98 ?_
    refine jiald F hT hW (fr + 2) oM7 (by omega) (by decide) (ia rfl (lI 2)) rfl dX7_carry_99 ?_
    refine lv_iconst (v := 1) F.1 F.2.1 dX7_carry_100 (by decide) ?_
    refine jcif (jrunV (As := [.int (S 7 (fr + 1)), .int (S 7 (fr + 2)), .int 1]) (rest := []) F hT hW yc_X7_hold yv_X7_hold ml_X7_152 oM0 (by decide) rfl (c_X7_hold l E μ S (S 7 (fr + 1)) (S 7 (fr + 2)) 1 (by first | assumption | omega) wfS.1 wfS.2.2.2.1.1) rfl hl.1 ⟨Nat.le_of_ble_eq_true rfl, Nat.le_of_ble_eq_true rfl⟩ rfl (Nat.le_of_ble_eq_true rfl) ⟨Nat.le_refl _, Nat.le_refl _⟩ dX7_carry_101) hW (fun x1 S2 H locs ex1 eS2 hW => ?_)
    have hq : ((x1 : Int32), S2) = p_X7_carry S fr := by
      subst eS2
      subst ex1
      exact (if_pos hk15_0).symm
    exact jri F hr0 hlk hW rfl dX7_carry_104 ⟨congrArg Prod.fst hq, congrArg (fun z => fo μ 13 z.2) hq⟩
  · rcases Decidable.em ((S 7 fr) = 105) with hk15_1 | hk15_1
    · refine lv_tableIn (off := 119) (tgt := 134) F.1 F.2.1 dX7_carry_15 (by rw [hk15_1]; decide) (by rw [hk15_1]; decide) (by rw [hk15_1]; rfl) (by decide) ?_
      refine lv_aload_n F.1 F.2.1 dX7_carry_134 rfl (lv_at hl 1 rfl) ?_
      refine lv_iload_n F.1 F.2.1 dX7_carry_135 rfl (lv_at hl 0 rfl) ?_
      refine jcif (jrunV (As := [.int (S 7 (fr + 1))]) (rest := []) F hT hW yc_X7_ticks yv_X7_ticks ml_X7_159 oM0 (by decide) rfl (c_X7_ticks l E μ S (S 7 (fr + 1)) (by first | assumption | omega) (by first | assumption | omega)) rfl hl.1 ⟨Nat.le_of_ble_eq_true rfl, Nat.le_of_ble_eq_true rfl⟩ rfl (Nat.le_of_ble_eq_true rfl) ⟨Nat.le_refl _, Nat.le_refl _⟩ dX7_carry_136) hW (fun x3 S4 H locs ex3 eS4 hW => ?_)
      have hq : ((x3 : Int32), S4) = p_X7_carry S fr := by
        subst eS4
        subst ex3
        exact ((if_neg hk15_0).trans (if_pos hk15_1)).symm
      exact jri F hr0 hlk hW rfl dX7_carry_139 ⟨congrArg Prod.fst hq, congrArg (fun z => fo μ 13 z.2) hq⟩
    · rcases Decidable.em ((S 7 fr) = 106) with hk15_2 | hk15_2
      · refine lv_tableIn (off := 119) (tgt := 134) F.1 F.2.1 dX7_carry_15 (by rw [hk15_2]; decide) (by rw [hk15_2]; decide) (by rw [hk15_2]; rfl) (by decide) ?_
        refine lv_aload_n F.1 F.2.1 dX7_carry_134 rfl (lv_at hl 1 rfl) ?_
        refine lv_iload_n F.1 F.2.1 dX7_carry_135 rfl (lv_at hl 0 rfl) ?_
        refine jcif (jrunV (As := [.int (S 7 (fr + 1))]) (rest := []) F hT hW yc_X7_ticks yv_X7_ticks ml_X7_159 oM0 (by decide) rfl (c_X7_ticks l E μ S (S 7 (fr + 1)) (by first | assumption | omega) (by first | assumption | omega)) rfl hl.1 ⟨Nat.le_of_ble_eq_true rfl, Nat.le_of_ble_eq_true rfl⟩ rfl (Nat.le_of_ble_eq_true rfl) ⟨Nat.le_refl _, Nat.le_refl _⟩ dX7_carry_136) hW (fun x5 S6 H locs ex5 eS6 hW => ?_)
        have hq : ((x5 : Int32), S6) = p_X7_carry S fr := by
          subst eS6
          subst ex5
          exact ((if_neg hk15_0).trans ((if_neg hk15_1).trans (if_pos hk15_2))).symm
        exact jri F hr0 hlk hW rfl dX7_carry_139 ⟨congrArg Prod.fst hq, congrArg (fun z => fo μ 13 z.2) hq⟩
      · rcases Decidable.em ((S 7 fr) = 107) with hk15_3 | hk15_3
        · refine lv_tableIn (off := 119) (tgt := 134) F.1 F.2.1 dX7_carry_15 (by rw [hk15_3]; decide) (by rw [hk15_3]; decide) (by rw [hk15_3]; rfl) (by decide) ?_
          refine lv_aload_n F.1 F.2.1 dX7_carry_134 rfl (lv_at hl 1 rfl) ?_
          refine lv_iload_n F.1 F.2.1 dX7_carry_135 rfl (lv_at hl 0 rfl) ?_
          refine jcif (jrunV (As := [.int (S 7 (fr + 1))]) (rest := []) F hT hW yc_X7_ticks yv_X7_ticks ml_X7_159 oM0 (by decide) rfl (c_X7_ticks l E μ S (S 7 (fr + 1)) (by first | assumption | omega) (by first | assumption | omega)) rfl hl.1 ⟨Nat.le_of_ble_eq_true rfl, Nat.le_of_ble_eq_true rfl⟩ rfl (Nat.le_of_ble_eq_true rfl) ⟨Nat.le_refl _, Nat.le_refl _⟩ dX7_carry_136) hW (fun x7 S8 H locs ex7 eS8 hW => ?_)
          have hq : ((x7 : Int32), S8) = p_X7_carry S fr := by
            subst eS8
            subst ex7
            exact ((if_neg hk15_0).trans ((if_neg hk15_1).trans ((if_neg hk15_2).trans (if_pos hk15_3)))).symm
          exact jri F hr0 hlk hW rfl dX7_carry_139 ⟨congrArg Prod.fst hq, congrArg (fun z => fo μ 13 z.2) hq⟩
        · rcases Decidable.em ((S 7 fr) = 108) with hk15_4 | hk15_4
          · refine lv_tableIn (off := 90) (tgt := 105) F.1 F.2.1 dX7_carry_15 (by rw [hk15_4]; decide) (by rw [hk15_4]; decide) (by rw [hk15_4]; rfl) (by decide) ?_
            refine lv_aload_n F.1 F.2.1 dX7_carry_105 rfl (lv_at hl 1 rfl) ?_
            refine lv_iload_n F.1 F.2.1 dX7_carry_106 rfl (lv_at hl 0 rfl) ?_
            refine lv_aload_n F.1 F.2.1 dX7_carry_107 rfl (lv_at hl 1 rfl) ?_
            refine jgetR F hT hW fw_X7_29 oM0 (by decide) rfl dX7_carry_108 ?_
            refine lv_iload_n F.1 F.2.1 dX7_carry_111 rfl (lv_at hl 2 rfl) ?_
            refine lv_iconst (v := 2) F.1 F.2.1 dX7_carry_112 (by decide) ?_
            refine lv_iadd F.1 F.2.1 dX7_carry_113 ?_
            refine jiald F hT hW (fr + 2) oM7 (by omega) (by decide) (ia rfl (lI 2)) rfl dX7_carry_114 ?_
            refine lv_iconst (v := 0) F.1 F.2.1 dX7_carry_115 (by decide) ?_
            refine jcif (jrunV (As := [.int (S 7 (fr + 1)), .int (S 7 (fr + 2)), .int 0]) (rest := []) F hT hW yc_X7_hold yv_X7_hold ml_X7_152 oM0 (by decide) rfl (c_X7_hold l E μ S (S 7 (fr + 1)) (S 7 (fr + 2)) 0 (by first | assumption | omega) wfS.1 wfS.2.2.2.1.1) rfl hl.1 ⟨Nat.le_of_ble_eq_true rfl, Nat.le_of_ble_eq_true rfl⟩ rfl (Nat.le_of_ble_eq_true rfl) ⟨Nat.le_refl _, Nat.le_refl _⟩ dX7_carry_116) hW (fun x9 S10 H locs ex9 eS10 hW => ?_)
            have hq : ((x9 : Int32), S10) = p_X7_carry S fr := by
              subst eS10
              subst ex9
              exact ((if_neg hk15_0).trans ((if_neg hk15_1).trans ((if_neg hk15_2).trans ((if_neg hk15_3).trans (if_pos hk15_4))))).symm
            exact jri F hr0 hlk hW rfl dX7_carry_119 ⟨congrArg Prod.fst hq, congrArg (fun z => fo μ 13 z.2) hq⟩
          · rcases Decidable.em ((S 7 fr) = 109) with hk15_5 | hk15_5
            · refine lv_tableIn (off := 105) (tgt := 120) F.1 F.2.1 dX7_carry_15 (by rw [hk15_5]; decide) (by rw [hk15_5]; decide) (by rw [hk15_5]; rfl) (by decide) ?_
              refine lv_aload_n F.1 F.2.1 dX7_carry_120 rfl (lv_at hl 1 rfl) ?_
              refine lv_iload_n F.1 F.2.1 dX7_carry_121 rfl (lv_at hl 0 rfl) ?_
              refine lv_iconst (v := 1) F.1 F.2.1 dX7_carry_122 (by decide) ?_
              refine jcif (jrunV (As := [.int (S 7 (fr + 1)), .int 1]) (rest := []) F hT hW yc_X7_mask yv_X7_mask ml_X7_156 oM0 (by decide) rfl (c_X7_mask l E μ S (S 7 (fr + 1)) 1 (by first | assumption | omega) wfS.1) rfl hl.1 ⟨Nat.le_of_ble_eq_true rfl, Nat.le_of_ble_eq_true rfl⟩ rfl (Nat.le_of_ble_eq_true rfl) ⟨Nat.le_refl _, Nat.le_refl _⟩ dX7_carry_123) hW (fun x11 S12 H locs ex11 eS12 hW => ?_)
              have hq : ((x11 : Int32), S12) = p_X7_carry S fr := by
                subst eS12
                subst ex11
                exact ((if_neg hk15_0).trans ((if_neg hk15_1).trans ((if_neg hk15_2).trans ((if_neg hk15_3).trans ((if_neg hk15_4).trans (if_pos hk15_5)))))).symm
              exact jri F hr0 hlk hW rfl dX7_carry_126 ⟨congrArg Prod.fst hq, congrArg (fun z => fo μ 13 z.2) hq⟩
            · rcases Decidable.em ((S 7 fr) = 110) with hk15_6 | hk15_6
              · refine lv_tableIn (off := 112) (tgt := 127) F.1 F.2.1 dX7_carry_15 (by rw [hk15_6]; decide) (by rw [hk15_6]; decide) (by rw [hk15_6]; rfl) (by decide) ?_
                refine lv_aload_n F.1 F.2.1 dX7_carry_127 rfl (lv_at hl 1 rfl) ?_
                refine lv_iload_n F.1 F.2.1 dX7_carry_128 rfl (lv_at hl 0 rfl) ?_
                refine lv_iconst (v := 0) F.1 F.2.1 dX7_carry_129 (by decide) ?_
                refine jcif (jrunV (As := [.int (S 7 (fr + 1)), .int 0]) (rest := []) F hT hW yc_X7_mask yv_X7_mask ml_X7_156 oM0 (by decide) rfl (c_X7_mask l E μ S (S 7 (fr + 1)) 0 (by first | assumption | omega) wfS.1) rfl hl.1 ⟨Nat.le_of_ble_eq_true rfl, Nat.le_of_ble_eq_true rfl⟩ rfl (Nat.le_of_ble_eq_true rfl) ⟨Nat.le_refl _, Nat.le_refl _⟩ dX7_carry_130) hW (fun x13 S14 H locs ex13 eS14 hW => ?_)
                have hq : ((x13 : Int32), S14) = p_X7_carry S fr := by
                  subst eS14
                  subst ex13
                  exact ((if_neg hk15_0).trans ((if_neg hk15_1).trans ((if_neg hk15_2).trans ((if_neg hk15_3).trans ((if_neg hk15_4).trans ((if_neg hk15_5).trans (if_pos hk15_6))))))).symm
                exact jri F hr0 hlk hW rfl dX7_carry_133 ⟨congrArg Prod.fst hq, congrArg (fun z => fo μ 13 z.2) hq⟩
              · rcases Decidable.em ((S 7 fr) = 111) with hk15_7 | hk15_7
                · refine lv_tableIn (off := 119) (tgt := 134) F.1 F.2.1 dX7_carry_15 (by rw [hk15_7]; decide) (by rw [hk15_7]; decide) (by rw [hk15_7]; rfl) (by decide) ?_
                  refine lv_aload_n F.1 F.2.1 dX7_carry_134 rfl (lv_at hl 1 rfl) ?_
                  refine lv_iload_n F.1 F.2.1 dX7_carry_135 rfl (lv_at hl 0 rfl) ?_
                  refine jcif (jrunV (As := [.int (S 7 (fr + 1))]) (rest := []) F hT hW yc_X7_ticks yv_X7_ticks ml_X7_159 oM0 (by decide) rfl (c_X7_ticks l E μ S (S 7 (fr + 1)) (by first | assumption | omega) (by first | assumption | omega)) rfl hl.1 ⟨Nat.le_of_ble_eq_true rfl, Nat.le_of_ble_eq_true rfl⟩ rfl (Nat.le_of_ble_eq_true rfl) ⟨Nat.le_refl _, Nat.le_refl _⟩ dX7_carry_136) hW (fun x15 S16 H locs ex15 eS16 hW => ?_)
                  have hq : ((x15 : Int32), S16) = p_X7_carry S fr := by
                    subst eS16
                    subst ex15
                    exact ((if_neg hk15_0).trans ((if_neg hk15_1).trans ((if_neg hk15_2).trans ((if_neg hk15_3).trans ((if_neg hk15_4).trans ((if_neg hk15_5).trans ((if_neg hk15_6).trans (if_pos hk15_7)))))))).symm
                  exact jri F hr0 hlk hW rfl dX7_carry_139 ⟨congrArg Prod.fst hq, congrArg (fun z => fo μ 13 z.2) hq⟩
                · rcases Decidable.em ((S 7 fr) = 112) with hk15_8 | hk15_8
                  · refine lv_tableIn (off := 119) (tgt := 134) F.1 F.2.1 dX7_carry_15 (by rw [hk15_8]; decide) (by rw [hk15_8]; decide) (by rw [hk15_8]; rfl) (by decide) ?_
                    refine lv_aload_n F.1 F.2.1 dX7_carry_134 rfl (lv_at hl 1 rfl) ?_
                    refine lv_iload_n F.1 F.2.1 dX7_carry_135 rfl (lv_at hl 0 rfl) ?_
                    refine jcif (jrunV (As := [.int (S 7 (fr + 1))]) (rest := []) F hT hW yc_X7_ticks yv_X7_ticks ml_X7_159 oM0 (by decide) rfl (c_X7_ticks l E μ S (S 7 (fr + 1)) (by first | assumption | omega) (by first | assumption | omega)) rfl hl.1 ⟨Nat.le_of_ble_eq_true rfl, Nat.le_of_ble_eq_true rfl⟩ rfl (Nat.le_of_ble_eq_true rfl) ⟨Nat.le_refl _, Nat.le_refl _⟩ dX7_carry_136) hW (fun x17 S18 H locs ex17 eS18 hW => ?_)
                    have hq : ((x17 : Int32), S18) = p_X7_carry S fr := by
                      subst eS18
                      subst ex17
                      exact ((if_neg hk15_0).trans ((if_neg hk15_1).trans ((if_neg hk15_2).trans ((if_neg hk15_3).trans ((if_neg hk15_4).trans ((if_neg hk15_5).trans ((if_neg hk15_6).trans ((if_neg hk15_7).trans (if_pos hk15_8))))))))).symm
                    exact jri F hr0 hlk hW rfl dX7_carry_139 ⟨congrArg Prod.fst hq, congrArg (fun z => fo μ 13 z.2) hq⟩
                  · rcases Decidable.em ((S 7 fr) = 113) with hk15_9 | hk15_9
                    · refine lv_tableIn (off := 119) (tgt := 134) F.1 F.2.1 dX7_carry_15 (by rw [hk15_9]; decide) (by rw [hk15_9]; decide) (by rw [hk15_9]; rfl) (by decide) ?_
                      refine lv_aload_n F.1 F.2.1 dX7_carry_134 rfl (lv_at hl 1 rfl) ?_
                      refine lv_iload_n F.1 F.2.1 dX7_carry_135 rfl (lv_at hl 0 rfl) ?_
                      refine jcif (jrunV (As := [.int (S 7 (fr + 1))]) (rest := []) F hT hW yc_X7_ticks yv_X7_ticks ml_X7_159 oM0 (by decide) rfl (c_X7_ticks l E μ S (S 7 (fr + 1)) (by first | assumption | omega) (by first | assumption | omega)) rfl hl.1 ⟨Nat.le_of_ble_eq_true rfl, Nat.le_of_ble_eq_true rfl⟩ rfl (Nat.le_of_ble_eq_true rfl) ⟨Nat.le_refl _, Nat.le_refl _⟩ dX7_carry_136) hW (fun x19 S20 H locs ex19 eS20 hW => ?_)
                      have hq : ((x19 : Int32), S20) = p_X7_carry S fr := by
                        subst eS20
                        subst ex19
                        exact ((if_neg hk15_0).trans ((if_neg hk15_1).trans ((if_neg hk15_2).trans ((if_neg hk15_3).trans ((if_neg hk15_4).trans ((if_neg hk15_5).trans ((if_neg hk15_6).trans ((if_neg hk15_7).trans ((if_neg hk15_8).trans (if_pos hk15_9)))))))))).symm
                      exact jri F hr0 hlk hW rfl dX7_carry_139 ⟨congrArg Prod.fst hq, congrArg (fun z => fo μ 13 z.2) hq⟩
                    · rcases Decidable.em ((S 7 fr) = 114) with hk15_10 | hk15_10
                      · refine lv_tableIn (off := 119) (tgt := 134) F.1 F.2.1 dX7_carry_15 (by rw [hk15_10]; decide) (by rw [hk15_10]; decide) (by rw [hk15_10]; rfl) (by decide) ?_
                        refine lv_aload_n F.1 F.2.1 dX7_carry_134 rfl (lv_at hl 1 rfl) ?_
                        refine lv_iload_n F.1 F.2.1 dX7_carry_135 rfl (lv_at hl 0 rfl) ?_
                        refine jcif (jrunV (As := [.int (S 7 (fr + 1))]) (rest := []) F hT hW yc_X7_ticks yv_X7_ticks ml_X7_159 oM0 (by decide) rfl (c_X7_ticks l E μ S (S 7 (fr + 1)) (by first | assumption | omega) (by first | assumption | omega)) rfl hl.1 ⟨Nat.le_of_ble_eq_true rfl, Nat.le_of_ble_eq_true rfl⟩ rfl (Nat.le_of_ble_eq_true rfl) ⟨Nat.le_refl _, Nat.le_refl _⟩ dX7_carry_136) hW (fun x21 S22 H locs ex21 eS22 hW => ?_)
                        have hq : ((x21 : Int32), S22) = p_X7_carry S fr := by
                          subst eS22
                          subst ex21
                          exact ((if_neg hk15_0).trans ((if_neg hk15_1).trans ((if_neg hk15_2).trans ((if_neg hk15_3).trans ((if_neg hk15_4).trans ((if_neg hk15_5).trans ((if_neg hk15_6).trans ((if_neg hk15_7).trans ((if_neg hk15_8).trans ((if_neg hk15_9).trans (if_pos hk15_10))))))))))).symm
                        exact jri F hr0 hlk hW rfl dX7_carry_139 ⟨congrArg Prod.fst hq, congrArg (fun z => fo μ 13 z.2) hq⟩
                      · rcases Decidable.em ((S 7 fr) = 115) with hk15_11 | hk15_11
                        · refine lv_tableIn (off := 119) (tgt := 134) F.1 F.2.1 dX7_carry_15 (by rw [hk15_11]; decide) (by rw [hk15_11]; decide) (by rw [hk15_11]; rfl) (by decide) ?_
                          refine lv_aload_n F.1 F.2.1 dX7_carry_134 rfl (lv_at hl 1 rfl) ?_
                          refine lv_iload_n F.1 F.2.1 dX7_carry_135 rfl (lv_at hl 0 rfl) ?_
                          refine jcif (jrunV (As := [.int (S 7 (fr + 1))]) (rest := []) F hT hW yc_X7_ticks yv_X7_ticks ml_X7_159 oM0 (by decide) rfl (c_X7_ticks l E μ S (S 7 (fr + 1)) (by first | assumption | omega) (by first | assumption | omega)) rfl hl.1 ⟨Nat.le_of_ble_eq_true rfl, Nat.le_of_ble_eq_true rfl⟩ rfl (Nat.le_of_ble_eq_true rfl) ⟨Nat.le_refl _, Nat.le_refl _⟩ dX7_carry_136) hW (fun x23 S24 H locs ex23 eS24 hW => ?_)
                          have hq : ((x23 : Int32), S24) = p_X7_carry S fr := by
                            subst eS24
                            subst ex23
                            exact ((if_neg hk15_0).trans ((if_neg hk15_1).trans ((if_neg hk15_2).trans ((if_neg hk15_3).trans ((if_neg hk15_4).trans ((if_neg hk15_5).trans ((if_neg hk15_6).trans ((if_neg hk15_7).trans ((if_neg hk15_8).trans ((if_neg hk15_9).trans ((if_neg hk15_10).trans (if_pos hk15_11)))))))))))).symm
                          exact jri F hr0 hlk hW rfl dX7_carry_139 ⟨congrArg Prod.fst hq, congrArg (fun z => fo μ 13 z.2) hq⟩
                        · rcases Decidable.em ((S 7 fr) = 116) with hk15_12 | hk15_12
                          · refine lv_tableIn (off := 119) (tgt := 134) F.1 F.2.1 dX7_carry_15 (by rw [hk15_12]; decide) (by rw [hk15_12]; decide) (by rw [hk15_12]; rfl) (by decide) ?_
                            refine lv_aload_n F.1 F.2.1 dX7_carry_134 rfl (lv_at hl 1 rfl) ?_
                            refine lv_iload_n F.1 F.2.1 dX7_carry_135 rfl (lv_at hl 0 rfl) ?_
                            refine jcif (jrunV (As := [.int (S 7 (fr + 1))]) (rest := []) F hT hW yc_X7_ticks yv_X7_ticks ml_X7_159 oM0 (by decide) rfl (c_X7_ticks l E μ S (S 7 (fr + 1)) (by first | assumption | omega) (by first | assumption | omega)) rfl hl.1 ⟨Nat.le_of_ble_eq_true rfl, Nat.le_of_ble_eq_true rfl⟩ rfl (Nat.le_of_ble_eq_true rfl) ⟨Nat.le_refl _, Nat.le_refl _⟩ dX7_carry_136) hW (fun x25 S26 H locs ex25 eS26 hW => ?_)
                            have hq : ((x25 : Int32), S26) = p_X7_carry S fr := by
                              subst eS26
                              subst ex25
                              exact ((if_neg hk15_0).trans ((if_neg hk15_1).trans ((if_neg hk15_2).trans ((if_neg hk15_3).trans ((if_neg hk15_4).trans ((if_neg hk15_5).trans ((if_neg hk15_6).trans ((if_neg hk15_7).trans ((if_neg hk15_8).trans ((if_neg hk15_9).trans ((if_neg hk15_10).trans ((if_neg hk15_11).trans (if_pos hk15_12))))))))))))).symm
                            exact jri F hr0 hlk hW rfl dX7_carry_139 ⟨congrArg Prod.fst hq, congrArg (fun z => fo μ 13 z.2) hq⟩
                          · rcases Decidable.em ((S 7 fr) = 117) with hk15_13 | hk15_13
                            · refine lv_tableIn (off := 69) (tgt := 84) F.1 F.2.1 dX7_carry_15 (by rw [hk15_13]; decide) (by rw [hk15_13]; decide) (by rw [hk15_13]; rfl) (by decide) ?_
                              refine lv_aload_n F.1 F.2.1 dX7_carry_84 rfl (lv_at hl 1 rfl) ?_
                              refine lv_iload_n F.1 F.2.1 dX7_carry_85 rfl (lv_at hl 0 rfl) ?_
                              refine jcif (jrunV (As := [.int (S 7 (fr + 1))]) (rest := []) F hT hW yc_X7_raise yv_X7_raise ml_X7_149 oM0 (by decide) rfl (c_X7_raise l E μ S (S 7 (fr + 1)) (by first | assumption | omega) wfS.1) rfl hl.1 ⟨Nat.le_of_ble_eq_true rfl, Nat.le_of_ble_eq_true rfl⟩ rfl (Nat.le_of_ble_eq_true rfl) ⟨Nat.le_refl _, Nat.le_refl _⟩ dX7_carry_86) hW (fun x27 S28 H locs ex27 eS28 hW => ?_)
                              have hq : ((x27 : Int32), S28) = p_X7_carry S fr := by
                                subst eS28
                                subst ex27
                                exact ((if_neg hk15_0).trans ((if_neg hk15_1).trans ((if_neg hk15_2).trans ((if_neg hk15_3).trans ((if_neg hk15_4).trans ((if_neg hk15_5).trans ((if_neg hk15_6).trans ((if_neg hk15_7).trans ((if_neg hk15_8).trans ((if_neg hk15_9).trans ((if_neg hk15_10).trans ((if_neg hk15_11).trans ((if_neg hk15_12).trans (if_pos hk15_13)))))))))))))).symm
                              exact jri F hr0 hlk hW rfl dX7_carry_89 ⟨congrArg Prod.fst hq, congrArg (fun z => fo μ 13 z.2) hq⟩
                            · refine lv_tableOut (tgt := 134) F.1 F.2.1 dX7_carry_15 (by have := lv_neT (a := 104) hk15_0 rfl; have := lv_neT (a := 105) hk15_1 rfl; have := lv_neT (a := 106) hk15_2 rfl; have := lv_neT (a := 107) hk15_3 rfl; have := lv_neT (a := 108) hk15_4 rfl; have := lv_neT (a := 109) hk15_5 rfl; have := lv_neT (a := 110) hk15_6 rfl; have := lv_neT (a := 111) hk15_7 rfl; have := lv_neT (a := 112) hk15_8 rfl; have := lv_neT (a := 113) hk15_9 rfl; have := lv_neT (a := 114) hk15_10 rfl; have := lv_neT (a := 115) hk15_11 rfl; have := lv_neT (a := 116) hk15_12 rfl; have := lv_neT (a := 117) hk15_13 rfl; omega) (by decide) ?_
                              refine lv_aload_n F.1 F.2.1 dX7_carry_134 rfl (lv_at hl 1 rfl) ?_
                              refine lv_iload_n F.1 F.2.1 dX7_carry_135 rfl (lv_at hl 0 rfl) ?_
                              refine jcif (jrunV (As := [.int (S 7 (fr + 1))]) (rest := []) F hT hW yc_X7_ticks yv_X7_ticks ml_X7_159 oM0 (by decide) rfl (c_X7_ticks l E μ S (S 7 (fr + 1)) (by first | assumption | omega) (by first | assumption | omega)) rfl hl.1 ⟨Nat.le_of_ble_eq_true rfl, Nat.le_of_ble_eq_true rfl⟩ rfl (Nat.le_of_ble_eq_true rfl) ⟨Nat.le_refl _, Nat.le_refl _⟩ dX7_carry_136) hW (fun x29 S30 H locs ex29 eS30 hW => ?_)
                              have hq : ((x29 : Int32), S30) = p_X7_carry S fr := by
                                subst eS30
                                subst ex29
                                exact ((if_neg hk15_0).trans ((if_neg hk15_1).trans ((if_neg hk15_2).trans ((if_neg hk15_3).trans ((if_neg hk15_4).trans ((if_neg hk15_5).trans ((if_neg hk15_6).trans ((if_neg hk15_7).trans ((if_neg hk15_8).trans ((if_neg hk15_9).trans ((if_neg hk15_10).trans ((if_neg hk15_11).trans ((if_neg hk15_12).trans (if_neg hk15_13)))))))))))))).symm
                              exact jri F hr0 hlk hW rfl dX7_carry_139 ⟨congrArg Prod.fst hq, congrArg (fun z => fo μ 13 z.2) hq⟩

