/-! isAct -/
theorem z1_lt {q : Nat} (h : q < 2) : Z1 (nI q) := by
  match q, h with
  | 0, _ => exact Or.inl rfl
  | 1, _ => exact Or.inr rfl
  | q + 2, h => exact absurd h (by omega)
theorem rg0 {q : Nat} (h : q ≤ 100) : vLst 0 ≤ nI q ∧ nI q ≤ vMst 0 := ⟨nI_pos' (by omega), nI_le (b := 100) h (by decide)⟩
theorem rg2 {q : Nat} (h0 : 1 ≤ q) (h : q ≤ 9) : vLst 2 ≤ nI q ∧ nI q ≤ vMst 2 := ⟨nI_le (a := 1) h0 (by omega), nI_le (b := 9) h (by decide)⟩
theorem rg3 {q : Nat} (h0 : 1 ≤ q) (h : q ≤ 8) : vLst 3 ≤ nI q ∧ nI q ≤ vMst 3 := ⟨nI_le (a := 1) h0 (by omega), nI_le (b := 8) h (by decide)⟩
theorem rg6 {q : Nat} (h : q ≤ 31) : vLst 6 ≤ nI q ∧ nI q ≤ vMst 6 := ⟨nI_pos' (by omega), nI_le (b := 31) h (by decide)⟩
theorem c93 {k : Nat} {v : Int32} (h : v = (if nI k = 0 then 9 else 3)) (hk : k < 4) : v = nI (if k = 0 then 9 else 3) := by
  rw [h]
  by_cases q : k = 0
  · rw [if_pos q, if_pos (by rw [q]; rfl)]
    rfl
  · rw [if_neg q, if_neg (nI_ne0 (by omega) (by omega))]
    rfl
theorem st_10 {k : Nat} {st : Int32} (hk : k < 4) (hst : st = (if nI k = 0 then 0 else if nI k = 1 then 2 else if nI k = 2 then 3 else 6)) : ¬ 12 + st = 10 ∧ ¬ 12 + st = 11 := by
  rw [hst]
  match k, hk with
  | 0, _ => decide
  | 1, _ => decide
  | 2, _ => decide
  | 3, _ => decide
  | k + 4, h => exact absurd h (by omega)
theorem a_set9 {b n t d g k c1 c2 : Nat} {st v : Int32} {μ : Mu} (h : JJ b n t d g μ) (hb : b < 900) (hk : k < 4) (h1 : c1 < 12) (h2 : c2 < (if k = 0 then 9 else 3)) (hst : st = (if nI k = 0 then 0 else if nI k = 1 then 2 else if nI k = 2 then 3 else 6)) (hv : v = (if nI k = 3 then nI c1 else 1 + nI c2)) : 0 ≤ (p_X6_set μ st v).1 ∧ JJ (b + 1) n t d g (p_X6_set μ st v).2 ∧ p_X3_numberOfAll ((p_X6_set μ st v).2 0) (12 + st) = v := by
  have e2 : (1 : Int32) + nI c2 = nI (1 + c2) := ia (lI 1) rfl
  rw [hst, hv, e2]
  match k, hk, h2 with
  | 0, _, h2 => exact a_set (st := 0) h hb (by omega) (rg0 (by simp at h2; omega))
  | 1, _, h2 => exact a_set (st := 2) h hb (by omega) (rg2 (by omega) (by simp at h2; omega))
  | 2, _, h2 => exact a_set (st := 3) h hb (by omega) (rg3 (by omega) (by simp at h2; omega))
  | 3, _, _ => exact a_set (st := 6) h hb (by omega) (rg6 (by omega))
  | k + 4, h, _ => exact absurd h (by omega)
set_option maxHeartbeats 4000000 in
set_option maxRecDepth 100000 in
theorem c_L_isAct (l : Launch) (E : mE) (μ : Mu) {b9 n t d g b L at_ : Nat} {xs : Nat → Int32} (hJ : JJ b9 n t d g μ) (hb9 : b9 < 900) (hn0 : 0 < n) (hE0 : nlc E = 0) (hL : L ≤ 260) (hbA : ¬ AA E b) (hat : at_ < 1000) : Met l yL_isAct (Cond.code yL_isAct cL_isAct 11 (some .boolean) :: TB) (rmC 7 182 16 177) (Px E b L xs [.ref (ea E 11 0), .ref b, .int (nI at_)] μ) (va_Qi (fun x μ' => x = 1 ∧ ∃ t' d' g', JJ (b9 + 1) n t' d' g' μ') (fun μ' t => MB E μ' t.heap) (AA E)) 16 177 (AA E) := by
  have hK := hJ.2.1
  have hn := hK.n12
  have hq : ceN L xs (at_ + 1) n < n := ceN_lt hn0
  refine xMet (by decide +kernel) (Nat.le_of_ble_eq_true rfl) ?_
  intro p e s m below meth c ls F hT hr0 hlk hW hX hbl hl
  have F : CallFix p m c cL_isAct 11 s _ TB RL := F
  have hl : lv_has ls 11 [(0, .ref (ea E 11 0)), (1, .ref b), (2, .int (nI at_))] := hl
  refine lv_aload_n F.1 F.2.1 dL_isAct_0 rfl (lv_at hl 1 rfl) ?_
  refine lv_iload_n F.1 F.2.1 dL_isAct_1 rfl (lv_at hl 2 rfl) ?_
  refine lv_iconst (v := 1) F.1 F.2.1 dL_isAct_2 (by decide) ?_
  refine lv_iadd F.1 F.2.1 dL_isAct_3 ?_
  refine lv_aload_n F.1 F.2.1 dL_isAct_4 rfl (lv_at hl 0 rfl) ?_
  refine lv_iconst (v := 1) F.1 F.2.1 dL_isAct_5 (by decide) ?_
  refine jcir (jrunV (As := [.int 1]) (rest := [.int ((nI at_) + 1), .ref b]) F hT hW yc_X6_count yv_X6_count ml_L_14 oH0 (by decide) rfl (r_count l E μ rfl hJ.1 1 (by decide) (by decide)) rfl hl.1 ⟨Nat.le_of_ble_eq_true rfl, Nat.le_of_ble_eq_true rfl⟩ rfl (Nat.le_of_ble_eq_true rfl) ⟨by decide, by decide⟩ dL_isAct_6) hW (fun H locs hW => ?_)
  refine jcir (xrunS (As := [.ref b, .int ((nI at_) + 1), .int (p_X3_numberOfAll (μ 0) 1)]) (rest := []) F hT hW hX hbl hbA yc_L_cell ys_L_cell ml_L_47 (c_L_cell l E μ hL hbA ((nI at_) + 1) (ia rfl (lI 1)) (p_X3_numberOfAll (μ 0) 1) (na1.trans hK.en) (by omega) ⟨hn0, by omega⟩) rfl hl.1 ⟨Nat.le_of_ble_eq_true rfl, Nat.le_of_ble_eq_true rfl⟩ rfl (Nat.le_of_ble_eq_true rfl) ⟨by decide, by decide⟩ dL_isAct_9) hW (fun H locs hW => ?_)
  refine lv_istore_n (lv' := [(3, .int (nI (ceN L xs (at_ + 1) n))), (0, .ref (ea E 11 0)), (1, .ref b), (2, .int (nI at_))]) F.1 F.2.1 dL_isAct_12 rfl hl (by decide) rfl (fun ls hl => ?_)
  refine lv_aload_n F.1 F.2.1 dL_isAct_13 rfl (lv_at hl 2 rfl) ?_
  refine lv_iload_n F.1 F.2.1 dL_isAct_14 rfl (lv_at hl 3 rfl) ?_
  refine lv_bipush (v := 20) F.1 F.2.1 dL_isAct_15 (by decide) ?_
  refine jcir (xrunS (As := [.ref b, .int (nI at_), .int 20]) (rest := []) F hT hW hX hbl hbA yc_L_cell ys_L_cell ml_L_47 (c_L_cell l E μ hL hbA (nI at_) rfl 20 (lI 20) (by omega) (by omega)) rfl hl.1 ⟨Nat.le_of_ble_eq_true rfl, Nat.le_of_ble_eq_true rfl⟩ rfl (Nat.le_of_ble_eq_true rfl) ⟨by decide, by decide⟩ dL_isAct_17) hW (fun H locs hW => ?_)
  rcases Decidable.em ((nI (ceN L xs at_ 20)) = 0) with hk20_0 | hk20_0
  · refine lv_tableIn (off := 60) (tgt := 80) F.1 F.2.1 dL_isAct_20 (by rw [hk20_0]; decide) (by rw [hk20_0]; decide) (by rw [hk20_0]; rfl) (by decide) ?_
    refine lv_aload_n F.1 F.2.1 dL_isAct_80 rfl (lv_at hl 1 rfl) ?_
    refine lv_iload_n F.1 F.2.1 dL_isAct_81 rfl (lv_at hl 0 rfl) ?_
    refine jciG (jrunS (As := [.ref (ea E 11 0), .int (nI (ceN L xs (at_ + 1) n))]) (rest := []) F hT hW yc_L_isRaised ys_L_isRaised ml_L_51 (c_L_isRaised l E μ (nI (ceN L xs (at_ + 1) n)) hJ.1 (a_raised hJ hb9 hq).2.1.1) rfl hl.1 ⟨Nat.le_of_ble_eq_true rfl, Nat.le_of_ble_eq_true rfl⟩ rfl (Nat.le_of_ble_eq_true rfl) ⟨by decide, by decide⟩ dL_isAct_82) hW (fun x1 S2 H locs ex1 eS2 hW => ?_)
    have hx1 := ex1.trans (a_raised hJ hb9 hq).1
    exact xri F hr0 hlk hW (znar (Or.inr hx1)) ⟨Nat.le_of_ble_eq_true rfl, Nat.le_of_ble_eq_true rfl⟩ dL_isAct_85 ⟨hx1, t, d, g, by rw [eS2, (a_raised hJ hb9 hq).2.2]; exact (a_raised hJ hb9 hq).2.1⟩
  · rcases Decidable.em ((nI (ceN L xs at_ 20)) = 1) with hk20_1 | hk20_1
    · refine lv_tableIn (off := 60) (tgt := 80) F.1 F.2.1 dL_isAct_20 (by rw [hk20_1]; decide) (by rw [hk20_1]; decide) (by rw [hk20_1]; rfl) (by decide) ?_
      refine lv_aload_n F.1 F.2.1 dL_isAct_80 rfl (lv_at hl 1 rfl) ?_
      refine lv_iload_n F.1 F.2.1 dL_isAct_81 rfl (lv_at hl 0 rfl) ?_
      refine jciG (jrunS (As := [.ref (ea E 11 0), .int (nI (ceN L xs (at_ + 1) n))]) (rest := []) F hT hW yc_L_isRaised ys_L_isRaised ml_L_51 (c_L_isRaised l E μ (nI (ceN L xs (at_ + 1) n)) hJ.1 (a_raised hJ hb9 hq).2.1.1) rfl hl.1 ⟨Nat.le_of_ble_eq_true rfl, Nat.le_of_ble_eq_true rfl⟩ rfl (Nat.le_of_ble_eq_true rfl) ⟨by decide, by decide⟩ dL_isAct_82) hW (fun x3 S4 H locs ex3 eS4 hW => ?_)
      have hx1 := ex3.trans (a_raised hJ hb9 hq).1
      exact xri F hr0 hlk hW (znar (Or.inr hx1)) ⟨Nat.le_of_ble_eq_true rfl, Nat.le_of_ble_eq_true rfl⟩ dL_isAct_85 ⟨hx1, t, d, g, by rw [eS4, (a_raised hJ hb9 hq).2.2]; exact (a_raised hJ hb9 hq).2.1⟩
    · rcases Decidable.em ((nI (ceN L xs at_ 20)) = 2) with hk20_2 | hk20_2
      · refine lv_tableIn (off := 60) (tgt := 80) F.1 F.2.1 dL_isAct_20 (by rw [hk20_2]; decide) (by rw [hk20_2]; decide) (by rw [hk20_2]; rfl) (by decide) ?_
        refine lv_aload_n F.1 F.2.1 dL_isAct_80 rfl (lv_at hl 1 rfl) ?_
        refine lv_iload_n F.1 F.2.1 dL_isAct_81 rfl (lv_at hl 0 rfl) ?_
        refine jciG (jrunS (As := [.ref (ea E 11 0), .int (nI (ceN L xs (at_ + 1) n))]) (rest := []) F hT hW yc_L_isRaised ys_L_isRaised ml_L_51 (c_L_isRaised l E μ (nI (ceN L xs (at_ + 1) n)) hJ.1 (a_raised hJ hb9 hq).2.1.1) rfl hl.1 ⟨Nat.le_of_ble_eq_true rfl, Nat.le_of_ble_eq_true rfl⟩ rfl (Nat.le_of_ble_eq_true rfl) ⟨by decide, by decide⟩ dL_isAct_82) hW (fun x5 S6 H locs ex5 eS6 hW => ?_)
        have hx1 := ex5.trans (a_raised hJ hb9 hq).1
        exact xri F hr0 hlk hW (znar (Or.inr hx1)) ⟨Nat.le_of_ble_eq_true rfl, Nat.le_of_ble_eq_true rfl⟩ dL_isAct_85 ⟨hx1, t, d, g, by rw [eS6, (a_raised hJ hb9 hq).2.2]; exact (a_raised hJ hb9 hq).2.1⟩
      · rcases Decidable.em ((nI (ceN L xs at_ 20)) = 3) with hk20_3 | hk20_3
        · refine lv_tableIn (off := 66) (tgt := 86) F.1 F.2.1 dL_isAct_20 (by rw [hk20_3]; decide) (by rw [hk20_3]; decide) (by rw [hk20_3]; rfl) (by decide) ?_
          refine lv_aload_n F.1 F.2.1 dL_isAct_86 rfl (lv_at hl 1 rfl) ?_
          refine lv_iload_n F.1 F.2.1 dL_isAct_87 rfl (lv_at hl 0 rfl) ?_
          refine lv_aload_n F.1 F.2.1 dL_isAct_88 rfl (lv_at hl 2 rfl) ?_
          refine lv_iload_n F.1 F.2.1 dL_isAct_89 rfl (lv_at hl 3 rfl) ?_
          refine lv_iconst (v := 2) F.1 F.2.1 dL_isAct_90 (by decide) ?_
          refine lv_iadd F.1 F.2.1 dL_isAct_91 ?_
          refine lv_iconst (v := 4) F.1 F.2.1 dL_isAct_92 (by decide) ?_
          refine jcir (xrunS (As := [.ref b, .int ((nI at_) + 2), .int 4]) (rest := [.int (nI (ceN L xs (at_ + 1) n)), .ref (ea E 11 0)]) F hT hW hX hbl hbA yc_L_cell ys_L_cell ml_L_47 (c_L_cell l E μ hL hbA ((nI at_) + 2) (ia rfl (lI 2)) 4 (lI 4) (by omega) (by omega)) rfl hl.1 ⟨Nat.le_of_ble_eq_true rfl, Nat.le_of_ble_eq_true rfl⟩ rfl (Nat.le_of_ble_eq_true rfl) ⟨by decide, by decide⟩ dL_isAct_93) hW (fun H locs hW => ?_)
          refine lv_aload_n F.1 F.2.1 dL_isAct_96 rfl (lv_at hl 2 rfl) ?_
          refine lv_iload_n F.1 F.2.1 dL_isAct_97 rfl (lv_at hl 3 rfl) ?_
          refine lv_iconst (v := 3) F.1 F.2.1 dL_isAct_98 (by decide) ?_
          refine lv_iadd F.1 F.2.1 dL_isAct_99 ?_
          refine lv_iconst (v := 4) F.1 F.2.1 dL_isAct_100 (by decide) ?_
          refine jcir (xrunS (As := [.ref b, .int ((nI at_) + 3), .int 4]) (rest := [.int (nI (ceN L xs (at_ + 2) 4)), .int (nI (ceN L xs (at_ + 1) n)), .ref (ea E 11 0)]) F hT hW hX hbl hbA yc_L_cell ys_L_cell ml_L_47 (c_L_cell l E μ hL hbA ((nI at_) + 3) (ia rfl (lI 3)) 4 (lI 4) (by omega) (by omega)) rfl hl.1 ⟨Nat.le_of_ble_eq_true rfl, Nat.le_of_ble_eq_true rfl⟩ rfl (Nat.le_of_ble_eq_true rfl) ⟨by decide, by decide⟩ dL_isAct_101) hW (fun H locs hW => ?_)
          have hJ9 : ∀ (v8 : Int32) (H : Heap) (locs : List Loc) (ls : Array Slot), v8 = (if (nI (ceN L xs (at_ + 3) 4)) = 0 then 0 else 1) → Wd E s H locs μ → lv_has ls 11 [(3, .int (nI (ceN L xs (at_ + 1) n))), (0, .ref (ea E 11 0)), (1, .ref b), (2, .int (nI at_))] → W p l e (rmC 7 182 16 177) s m #[.ref (ea E 11 0), .ref b, .int (nI at_)] below meth c H locs 0 0 (MQ below (va_Qi (fun x μ' => x = 1 ∧ ∃ t' d' g', JJ (b9 + 1) n t' d' g' μ') (fun μ' t => MB E μ' t.heap) (AA E)) #[.ref (ea E 11 0), .ref b, .int (nI at_)] s 16 177 (AA E)) (F0 m 112 ls [.int v8, .int (nI (ceN L xs (at_ + 2) 4)), .int (nI (ceN L xs (at_ + 1) n)), .ref (ea E 11 0)]) := by
            intro v8 H locs ls ev8 hW hl
            refine jciG (jrunS (As := [.ref (ea E 11 0), .int (nI (ceN L xs (at_ + 1) n)), .int (nI (ceN L xs (at_ + 2) 4)), .int v8]) (rest := []) F hT hW yc_L_isHeld ys_L_isHeld ml_L_55 (c_L_isHeld l E μ (nI (ceN L xs (at_ + 1) n)) (nI (ceN L xs (at_ + 2) 4)) v8 hJ.1 (a_held (q := ceN L xs (at_ + 2) 4) hJ hb9 hq (ceN_lt (by decide)) (show Z1 v8 by rw [ev8]; exact z1_ite z1_0 z1_1)).2.1.1) rfl hl.1 ⟨Nat.le_of_ble_eq_true rfl, Nat.le_of_ble_eq_true rfl⟩ rfl (Nat.le_of_ble_eq_true rfl) ⟨by decide, by decide⟩ dL_isAct_112) hW (fun x10 S11 H locs ex10 eS11 hW => ?_)
            have hA := (a_held (q := ceN L xs (at_ + 2) 4) hJ hb9 hq (ceN_lt (by decide)) (show Z1 v8 by rw [ev8]; exact z1_ite z1_0 z1_1))
            have hx1 := ex10.trans hA.1
            exact xri F hr0 hlk hW (znar (Or.inr hx1)) ⟨Nat.le_of_ble_eq_true rfl, Nat.le_of_ble_eq_true rfl⟩ dL_isAct_115 ⟨hx1, t, d, g, by rw [eS11, hA.2.2]; exact hA.2.1⟩
          refine lv_if_ne (tgt := 111) F.1 F.2.1 dL_isAct_104 (by decide) (fun h7 => ?_) (fun h7 => ?_)
          · refine lv_iconst (v := 1) F.1 F.2.1 dL_isAct_111 (by decide) ?_
            exact hJ9 _ _ _ _ (if_neg h7).symm hW (lv_sub hl [0, 1, 2, 3] rfl)
          · refine lv_iconst (v := 0) F.1 F.2.1 dL_isAct_107 (by decide) ?_
            refine lv_goto (tgt := 112) F.1 F.2.1 dL_isAct_108 (by decide) ?_
            exact hJ9 _ _ _ _ (if_pos h7).symm hW (lv_sub hl [0, 1, 2, 3] rfl)
        · rcases Decidable.em ((nI (ceN L xs at_ 20)) = 4) with hk20_4 | hk20_4
          · refine lv_tableIn (off := 66) (tgt := 86) F.1 F.2.1 dL_isAct_20 (by rw [hk20_4]; decide) (by rw [hk20_4]; decide) (by rw [hk20_4]; rfl) (by decide) ?_
            refine lv_aload_n F.1 F.2.1 dL_isAct_86 rfl (lv_at hl 1 rfl) ?_
            refine lv_iload_n F.1 F.2.1 dL_isAct_87 rfl (lv_at hl 0 rfl) ?_
            refine lv_aload_n F.1 F.2.1 dL_isAct_88 rfl (lv_at hl 2 rfl) ?_
            refine lv_iload_n F.1 F.2.1 dL_isAct_89 rfl (lv_at hl 3 rfl) ?_
            refine lv_iconst (v := 2) F.1 F.2.1 dL_isAct_90 (by decide) ?_
            refine lv_iadd F.1 F.2.1 dL_isAct_91 ?_
            refine lv_iconst (v := 4) F.1 F.2.1 dL_isAct_92 (by decide) ?_
            refine jcir (xrunS (As := [.ref b, .int ((nI at_) + 2), .int 4]) (rest := [.int (nI (ceN L xs (at_ + 1) n)), .ref (ea E 11 0)]) F hT hW hX hbl hbA yc_L_cell ys_L_cell ml_L_47 (c_L_cell l E μ hL hbA ((nI at_) + 2) (ia rfl (lI 2)) 4 (lI 4) (by omega) (by omega)) rfl hl.1 ⟨Nat.le_of_ble_eq_true rfl, Nat.le_of_ble_eq_true rfl⟩ rfl (Nat.le_of_ble_eq_true rfl) ⟨by decide, by decide⟩ dL_isAct_93) hW (fun H locs hW => ?_)
            refine lv_aload_n F.1 F.2.1 dL_isAct_96 rfl (lv_at hl 2 rfl) ?_
            refine lv_iload_n F.1 F.2.1 dL_isAct_97 rfl (lv_at hl 3 rfl) ?_
            refine lv_iconst (v := 3) F.1 F.2.1 dL_isAct_98 (by decide) ?_
            refine lv_iadd F.1 F.2.1 dL_isAct_99 ?_
            refine lv_iconst (v := 4) F.1 F.2.1 dL_isAct_100 (by decide) ?_
            refine jcir (xrunS (As := [.ref b, .int ((nI at_) + 3), .int 4]) (rest := [.int (nI (ceN L xs (at_ + 2) 4)), .int (nI (ceN L xs (at_ + 1) n)), .ref (ea E 11 0)]) F hT hW hX hbl hbA yc_L_cell ys_L_cell ml_L_47 (c_L_cell l E μ hL hbA ((nI at_) + 3) (ia rfl (lI 3)) 4 (lI 4) (by omega) (by omega)) rfl hl.1 ⟨Nat.le_of_ble_eq_true rfl, Nat.le_of_ble_eq_true rfl⟩ rfl (Nat.le_of_ble_eq_true rfl) ⟨by decide, by decide⟩ dL_isAct_101) hW (fun H locs hW => ?_)
            have hJ14 : ∀ (v13 : Int32) (H : Heap) (locs : List Loc) (ls : Array Slot), v13 = (if (nI (ceN L xs (at_ + 3) 4)) = 0 then 0 else 1) → Wd E s H locs μ → lv_has ls 11 [(3, .int (nI (ceN L xs (at_ + 1) n))), (0, .ref (ea E 11 0)), (1, .ref b), (2, .int (nI at_))] → W p l e (rmC 7 182 16 177) s m #[.ref (ea E 11 0), .ref b, .int (nI at_)] below meth c H locs 0 0 (MQ below (va_Qi (fun x μ' => x = 1 ∧ ∃ t' d' g', JJ (b9 + 1) n t' d' g' μ') (fun μ' t => MB E μ' t.heap) (AA E)) #[.ref (ea E 11 0), .ref b, .int (nI at_)] s 16 177 (AA E)) (F0 m 112 ls [.int v13, .int (nI (ceN L xs (at_ + 2) 4)), .int (nI (ceN L xs (at_ + 1) n)), .ref (ea E 11 0)]) := by
              intro v13 H locs ls ev13 hW hl
              refine jciG (jrunS (As := [.ref (ea E 11 0), .int (nI (ceN L xs (at_ + 1) n)), .int (nI (ceN L xs (at_ + 2) 4)), .int v13]) (rest := []) F hT hW yc_L_isHeld ys_L_isHeld ml_L_55 (c_L_isHeld l E μ (nI (ceN L xs (at_ + 1) n)) (nI (ceN L xs (at_ + 2) 4)) v13 hJ.1 (a_held (q := ceN L xs (at_ + 2) 4) hJ hb9 hq (ceN_lt (by decide)) (show Z1 v13 by rw [ev13]; exact z1_ite z1_0 z1_1)).2.1.1) rfl hl.1 ⟨Nat.le_of_ble_eq_true rfl, Nat.le_of_ble_eq_true rfl⟩ rfl (Nat.le_of_ble_eq_true rfl) ⟨by decide, by decide⟩ dL_isAct_112) hW (fun x15 S16 H locs ex15 eS16 hW => ?_)
              have hA := (a_held (q := ceN L xs (at_ + 2) 4) hJ hb9 hq (ceN_lt (by decide)) (show Z1 v13 by rw [ev13]; exact z1_ite z1_0 z1_1))
              have hx1 := ex15.trans hA.1
              exact xri F hr0 hlk hW (znar (Or.inr hx1)) ⟨Nat.le_of_ble_eq_true rfl, Nat.le_of_ble_eq_true rfl⟩ dL_isAct_115 ⟨hx1, t, d, g, by rw [eS16, hA.2.2]; exact hA.2.1⟩
            refine lv_if_ne (tgt := 111) F.1 F.2.1 dL_isAct_104 (by decide) (fun h12 => ?_) (fun h12 => ?_)
            · refine lv_iconst (v := 1) F.1 F.2.1 dL_isAct_111 (by decide) ?_
              exact hJ14 _ _ _ _ (if_neg h12).symm hW (lv_sub hl [0, 1, 2, 3] rfl)
            · refine lv_iconst (v := 0) F.1 F.2.1 dL_isAct_107 (by decide) ?_
              refine lv_goto (tgt := 112) F.1 F.2.1 dL_isAct_108 (by decide) ?_
              exact hJ14 _ _ _ _ (if_pos h12).symm hW (lv_sub hl [0, 1, 2, 3] rfl)
          · rcases Decidable.em ((nI (ceN L xs at_ 20)) = 5) with hk20_5 | hk20_5
            · refine lv_tableIn (off := 66) (tgt := 86) F.1 F.2.1 dL_isAct_20 (by rw [hk20_5]; decide) (by rw [hk20_5]; decide) (by rw [hk20_5]; rfl) (by decide) ?_
              refine lv_aload_n F.1 F.2.1 dL_isAct_86 rfl (lv_at hl 1 rfl) ?_
              refine lv_iload_n F.1 F.2.1 dL_isAct_87 rfl (lv_at hl 0 rfl) ?_
              refine lv_aload_n F.1 F.2.1 dL_isAct_88 rfl (lv_at hl 2 rfl) ?_
              refine lv_iload_n F.1 F.2.1 dL_isAct_89 rfl (lv_at hl 3 rfl) ?_
              refine lv_iconst (v := 2) F.1 F.2.1 dL_isAct_90 (by decide) ?_
              refine lv_iadd F.1 F.2.1 dL_isAct_91 ?_
              refine lv_iconst (v := 4) F.1 F.2.1 dL_isAct_92 (by decide) ?_
              refine jcir (xrunS (As := [.ref b, .int ((nI at_) + 2), .int 4]) (rest := [.int (nI (ceN L xs (at_ + 1) n)), .ref (ea E 11 0)]) F hT hW hX hbl hbA yc_L_cell ys_L_cell ml_L_47 (c_L_cell l E μ hL hbA ((nI at_) + 2) (ia rfl (lI 2)) 4 (lI 4) (by omega) (by omega)) rfl hl.1 ⟨Nat.le_of_ble_eq_true rfl, Nat.le_of_ble_eq_true rfl⟩ rfl (Nat.le_of_ble_eq_true rfl) ⟨by decide, by decide⟩ dL_isAct_93) hW (fun H locs hW => ?_)
              refine lv_aload_n F.1 F.2.1 dL_isAct_96 rfl (lv_at hl 2 rfl) ?_
              refine lv_iload_n F.1 F.2.1 dL_isAct_97 rfl (lv_at hl 3 rfl) ?_
              refine lv_iconst (v := 3) F.1 F.2.1 dL_isAct_98 (by decide) ?_
              refine lv_iadd F.1 F.2.1 dL_isAct_99 ?_
              refine lv_iconst (v := 4) F.1 F.2.1 dL_isAct_100 (by decide) ?_
              refine jcir (xrunS (As := [.ref b, .int ((nI at_) + 3), .int 4]) (rest := [.int (nI (ceN L xs (at_ + 2) 4)), .int (nI (ceN L xs (at_ + 1) n)), .ref (ea E 11 0)]) F hT hW hX hbl hbA yc_L_cell ys_L_cell ml_L_47 (c_L_cell l E μ hL hbA ((nI at_) + 3) (ia rfl (lI 3)) 4 (lI 4) (by omega) (by omega)) rfl hl.1 ⟨Nat.le_of_ble_eq_true rfl, Nat.le_of_ble_eq_true rfl⟩ rfl (Nat.le_of_ble_eq_true rfl) ⟨by decide, by decide⟩ dL_isAct_101) hW (fun H locs hW => ?_)
              have hJ19 : ∀ (v18 : Int32) (H : Heap) (locs : List Loc) (ls : Array Slot), v18 = (if (nI (ceN L xs (at_ + 3) 4)) = 0 then 0 else 1) → Wd E s H locs μ → lv_has ls 11 [(3, .int (nI (ceN L xs (at_ + 1) n))), (0, .ref (ea E 11 0)), (1, .ref b), (2, .int (nI at_))] → W p l e (rmC 7 182 16 177) s m #[.ref (ea E 11 0), .ref b, .int (nI at_)] below meth c H locs 0 0 (MQ below (va_Qi (fun x μ' => x = 1 ∧ ∃ t' d' g', JJ (b9 + 1) n t' d' g' μ') (fun μ' t => MB E μ' t.heap) (AA E)) #[.ref (ea E 11 0), .ref b, .int (nI at_)] s 16 177 (AA E)) (F0 m 112 ls [.int v18, .int (nI (ceN L xs (at_ + 2) 4)), .int (nI (ceN L xs (at_ + 1) n)), .ref (ea E 11 0)]) := by
                intro v18 H locs ls ev18 hW hl
                refine jciG (jrunS (As := [.ref (ea E 11 0), .int (nI (ceN L xs (at_ + 1) n)), .int (nI (ceN L xs (at_ + 2) 4)), .int v18]) (rest := []) F hT hW yc_L_isHeld ys_L_isHeld ml_L_55 (c_L_isHeld l E μ (nI (ceN L xs (at_ + 1) n)) (nI (ceN L xs (at_ + 2) 4)) v18 hJ.1 (a_held (q := ceN L xs (at_ + 2) 4) hJ hb9 hq (ceN_lt (by decide)) (show Z1 v18 by rw [ev18]; exact z1_ite z1_0 z1_1)).2.1.1) rfl hl.1 ⟨Nat.le_of_ble_eq_true rfl, Nat.le_of_ble_eq_true rfl⟩ rfl (Nat.le_of_ble_eq_true rfl) ⟨by decide, by decide⟩ dL_isAct_112) hW (fun x20 S21 H locs ex20 eS21 hW => ?_)
                have hA := (a_held (q := ceN L xs (at_ + 2) 4) hJ hb9 hq (ceN_lt (by decide)) (show Z1 v18 by rw [ev18]; exact z1_ite z1_0 z1_1))
                have hx1 := ex20.trans hA.1
                exact xri F hr0 hlk hW (znar (Or.inr hx1)) ⟨Nat.le_of_ble_eq_true rfl, Nat.le_of_ble_eq_true rfl⟩ dL_isAct_115 ⟨hx1, t, d, g, by rw [eS21, hA.2.2]; exact hA.2.1⟩
              refine lv_if_ne (tgt := 111) F.1 F.2.1 dL_isAct_104 (by decide) (fun h17 => ?_) (fun h17 => ?_)
              · refine lv_iconst (v := 1) F.1 F.2.1 dL_isAct_111 (by decide) ?_
                exact hJ19 _ _ _ _ (if_neg h17).symm hW (lv_sub hl [0, 1, 2, 3] rfl)
              · refine lv_iconst (v := 0) F.1 F.2.1 dL_isAct_107 (by decide) ?_
                refine lv_goto (tgt := 112) F.1 F.2.1 dL_isAct_108 (by decide) ?_
                exact hJ19 _ _ _ _ (if_pos h17).symm hW (lv_sub hl [0, 1, 2, 3] rfl)
            · rcases Decidable.em ((nI (ceN L xs at_ 20)) = 6) with hk20_6 | hk20_6
              · refine lv_tableIn (off := 96) (tgt := 116) F.1 F.2.1 dL_isAct_20 (by rw [hk20_6]; decide) (by rw [hk20_6]; decide) (by rw [hk20_6]; rfl) (by decide) ?_
                refine lv_aload_n F.1 F.2.1 dL_isAct_116 rfl (lv_at hl 2 rfl) ?_
                refine lv_iload_n F.1 F.2.1 dL_isAct_117 rfl (lv_at hl 3 rfl) ?_
                refine lv_iconst (v := 2) F.1 F.2.1 dL_isAct_118 (by decide) ?_
                refine lv_iadd F.1 F.2.1 dL_isAct_119 ?_
                refine lv_iconst (v := 2) F.1 F.2.1 dL_isAct_120 (by decide) ?_
                refine jcir (xrunS (As := [.ref b, .int ((nI at_) + 2), .int 2]) (rest := []) F hT hW hX hbl hbA yc_L_cell ys_L_cell ml_L_47 (c_L_cell l E μ hL hbA ((nI at_) + 2) (ia rfl (lI 2)) 2 (lI 2) (by omega) (by omega)) rfl hl.1 ⟨Nat.le_of_ble_eq_true rfl, Nat.le_of_ble_eq_true rfl⟩ rfl (Nat.le_of_ble_eq_true rfl) ⟨by decide, by decide⟩ dL_isAct_121) hW (fun H locs hW => ?_)
                refine lv_istore (lv' := [(4, .int (nI (ceN L xs (at_ + 2) 2))), (3, .int (nI (ceN L xs (at_ + 1) n))), (0, .ref (ea E 11 0)), (1, .ref b), (2, .int (nI at_))]) F.1 F.2.1 dL_isAct_124 hl (by decide) rfl (fun ls hl => ?_)
                refine lv_aload_n F.1 F.2.1 dL_isAct_126 rfl (lv_at hl 2 rfl) ?_
                refine lv_iload_n F.1 F.2.1 dL_isAct_127 rfl (lv_at hl 1 rfl) ?_
                refine lv_iconst (v := 4) F.1 F.2.1 dL_isAct_128 (by decide) ?_
                refine jcir (jrunV (As := [.int (nI (ceN L xs (at_ + 1) n)), .int 4]) (rest := []) F hT hW yc_X6_ofLine yv_X6_ofLine ml_L_8 oH0 (by decide) rfl (r_ofLine l E μ rfl hJ.1 (nI (ceN L xs (at_ + 1) n)) 4) rfl hl.1 ⟨Nat.le_of_ble_eq_true rfl, Nat.le_of_ble_eq_true rfl⟩ rfl (Nat.le_of_ble_eq_true rfl) ⟨by decide, by decide⟩ dL_isAct_129) hW (fun H locs hW => ?_)
                refine lv_istore (lv' := [(5, .int (p_X3_numberOfLine (μ 0) (nI (ceN L xs (at_ + 1) n)) 4)), (4, .int (nI (ceN L xs (at_ + 2) 2))), (3, .int (nI (ceN L xs (at_ + 1) n))), (0, .ref (ea E 11 0)), (1, .ref b), (2, .int (nI at_))]) F.1 F.2.1 dL_isAct_132 hl (by decide) rfl (fun ls hl => ?_)
                refine lv_aload_n F.1 F.2.1 dL_isAct_134 rfl (lv_at hl 3 rfl) ?_
                refine lv_iload_n F.1 F.2.1 dL_isAct_135 rfl (lv_at hl 2 rfl) ?_
                refine lv_iload F.1 F.2.1 dL_isAct_136 (lv_at hl 1 rfl) ?_
                have hA6 := a_mask hJ hb9 hq (z1_lt (ceN_lt (L := L) (xs := xs) (k := at_ + 2) (n := 2) (by decide)))
                have hWc := hA6.2.1.1
                refine jciG (jrunV (As := [.int (nI (ceN L xs (at_ + 1) n)), .int (nI (ceN L xs (at_ + 2) 2))]) (rest := []) F hT hW yc_X6_mask yv_X6_mask ml_L_59 oH0 (by decide) rfl (c_X6_mask l E μ (nI (ceN L xs (at_ + 1) n)) (nI (ceN L xs (at_ + 2) 2)) hJ.1) rfl hl.1 ⟨Nat.le_of_ble_eq_true rfl, Nat.le_of_ble_eq_true rfl⟩ rfl (Nat.le_of_ble_eq_true rfl) ⟨by decide, by decide⟩ dL_isAct_138) hW (fun x22 S23 H locs ex22 eS23 hW => ?_)
                refine lv_iload F.1 F.2.1 dL_isAct_141 (lv_at hl 0 rfl) ?_
                refine lv_icmp_ne (tgt := 161) F.1 F.2.1 dL_isAct_143 (by decide) (fun h24 => ?_) (fun h24 => ?_)
                · exact absurd (ex22.trans hA6.1) h24
                · refine lv_aload_n F.1 F.2.1 dL_isAct_146 rfl (lv_at hl 3 rfl) ?_
                  refine lv_iload_n F.1 F.2.1 dL_isAct_147 rfl (lv_at hl 2 rfl) ?_
                  refine lv_iconst (v := 4) F.1 F.2.1 dL_isAct_148 (by decide) ?_
                  refine jcir (jrunV (As := [.int (nI (ceN L xs (at_ + 1) n)), .int 4]) (rest := []) F hT hW yc_X6_ofLine yv_X6_ofLine ml_L_8 oH0 (by decide) rfl (r_ofLine l E S23 rfl (by rw [eS23]; exact hWc) (nI (ceN L xs (at_ + 1) n)) 4) rfl hl.1 ⟨Nat.le_of_ble_eq_true rfl, Nat.le_of_ble_eq_true rfl⟩ rfl (Nat.le_of_ble_eq_true rfl) ⟨by decide, by decide⟩ dL_isAct_149) hW (fun H locs hW => ?_)
                  refine lv_iload F.1 F.2.1 dL_isAct_152 (lv_at hl 1 rfl) ?_
                  refine lv_icmp_ne (tgt := 161) F.1 F.2.1 dL_isAct_154 (by decide) (fun h25 => ?_) (fun h25 => ?_)
                  · exact absurd (by rw [eS23]; exact hA6.2.2) h25
                  · refine lv_iconst (v := 1) F.1 F.2.1 dL_isAct_157 (by decide) ?_
                    refine lv_goto (tgt := 162) F.1 F.2.1 dL_isAct_158 (by decide) ?_
                    exact xri F hr0 hlk hW rfl ⟨Nat.le_of_ble_eq_true rfl, Nat.le_of_ble_eq_true rfl⟩ dL_isAct_162 ⟨rfl, t, d, g, by rw [eS23]; exact hA6.2.1⟩
              · rcases Decidable.em ((nI (ceN L xs at_ 20)) = 7) with hk20_7 | hk20_7
                · refine lv_tableIn (off := 143) (tgt := 163) F.1 F.2.1 dL_isAct_20 (by rw [hk20_7]; decide) (by rw [hk20_7]; decide) (by rw [hk20_7]; rfl) (by decide) ?_
                  refine lv_aload_n F.1 F.2.1 dL_isAct_163 rfl (lv_at hl 1 rfl) ?_
                  refine lv_iload_n F.1 F.2.1 dL_isAct_164 rfl (lv_at hl 0 rfl) ?_
                  refine lv_iconst (v := 1) F.1 F.2.1 dL_isAct_165 (by decide) ?_
                  refine lv_aload_n F.1 F.2.1 dL_isAct_166 rfl (lv_at hl 2 rfl) ?_
                  refine lv_iload_n F.1 F.2.1 dL_isAct_167 rfl (lv_at hl 3 rfl) ?_
                  refine lv_iconst (v := 2) F.1 F.2.1 dL_isAct_168 (by decide) ?_
                  refine lv_iadd F.1 F.2.1 dL_isAct_169 ?_
                  refine lv_bipush (v := 30) F.1 F.2.1 dL_isAct_170 (by decide) ?_
                  refine jcir (xrunS (As := [.ref b, .int ((nI at_) + 2), .int 30]) (rest := [.int 1, .int (nI (ceN L xs (at_ + 1) n)), .ref (ea E 11 0)]) F hT hW hX hbl hbA yc_L_cell ys_L_cell ml_L_47 (c_L_cell l E μ hL hbA ((nI at_) + 2) (ia rfl (lI 2)) 30 (lI 30) (by omega) (by omega)) rfl hl.1 ⟨Nat.le_of_ble_eq_true rfl, Nat.le_of_ble_eq_true rfl⟩ rfl (Nat.le_of_ble_eq_true rfl) ⟨by decide, by decide⟩ dL_isAct_172) hW (fun H locs hW => ?_)
                  refine lv_iadd F.1 F.2.1 dL_isAct_175 ?_
                  rw [show 1 + (nI (ceN L xs (at_ + 2) 30)) = nI (1 + ceN L xs (at_ + 2) 30) from (ia (lI 1) rfl)]
                  refine lv_aload_n F.1 F.2.1 dL_isAct_176 rfl (lv_at hl 2 rfl) ?_
                  refine lv_iload_n F.1 F.2.1 dL_isAct_177 rfl (lv_at hl 3 rfl) ?_
                  refine lv_iconst (v := 3) F.1 F.2.1 dL_isAct_178 (by decide) ?_
                  refine lv_iadd F.1 F.2.1 dL_isAct_179 ?_
                  refine lv_bipush (v := 20) F.1 F.2.1 dL_isAct_180 (by decide) ?_
                  refine jcir (xrunS (As := [.ref b, .int ((nI at_) + 3), .int 20]) (rest := [.int (nI (1 + ceN L xs (at_ + 2) 30)), .int (nI (ceN L xs (at_ + 1) n)), .ref (ea E 11 0)]) F hT hW hX hbl hbA yc_L_cell ys_L_cell ml_L_47 (c_L_cell l E μ hL hbA ((nI at_) + 3) (ia rfl (lI 3)) 20 (lI 20) (by omega) (by omega)) rfl hl.1 ⟨Nat.le_of_ble_eq_true rfl, Nat.le_of_ble_eq_true rfl⟩ rfl (Nat.le_of_ble_eq_true rfl) ⟨by decide, by decide⟩ dL_isAct_182) hW (fun H locs hW => ?_)
                  have hA7 := a_timer (p := 1 + ceN L xs (at_ + 2) 30) (f := ceN L xs (at_ + 3) 20) hJ hb9 hq (by have := ceN_lt (L := L) (xs := xs) (k := at_ + 2) (n := 30) (by decide); omega) (by have := ceN_lt (L := L) (xs := xs) (k := at_ + 3) (n := 20) (by decide); omega)
                  refine jciG (jrunS (As := [.ref (ea E 11 0), .int (nI (ceN L xs (at_ + 1) n)), .int (nI (1 + ceN L xs (at_ + 2) 30)), .int (nI (ceN L xs (at_ + 3) 20))]) (rest := []) F hT hW yc_L_isTimer ys_L_isTimer ml_L_62 (c_L_isTimer l E μ (nI (ceN L xs (at_ + 1) n)) (nI (1 + ceN L xs (at_ + 2) 30)) (nI (ceN L xs (at_ + 3) 20)) hJ.1 hA7.2.2.choose_spec.1) rfl hl.1 ⟨Nat.le_of_ble_eq_true rfl, Nat.le_of_ble_eq_true rfl⟩ rfl (Nat.le_of_ble_eq_true rfl) ⟨by decide, by decide⟩ dL_isAct_185) hW (fun x26 S27 H locs ex26 eS27 hW => ?_)
                  have hx1 := ex26.trans hA7.1
                  obtain ⟨t7, hj7⟩ := hA7.2.2
                  exact xri F hr0 hlk hW (znar (Or.inr hx1)) ⟨Nat.le_of_ble_eq_true rfl, Nat.le_of_ble_eq_true rfl⟩ dL_isAct_188 ⟨hx1, t7, d, g, by rw [eS27, hA7.2.1]; exact hj7⟩
                · rcases Decidable.em ((nI (ceN L xs at_ 20)) = 8) with hk20_8 | hk20_8
                  · refine lv_tableIn (off := 169) (tgt := 189) F.1 F.2.1 dL_isAct_20 (by rw [hk20_8]; decide) (by rw [hk20_8]; decide) (by rw [hk20_8]; rfl) (by decide) ?_
                    refine lv_aload_n F.1 F.2.1 dL_isAct_189 rfl (lv_at hl 1 rfl) ?_
                    refine lv_iload_n F.1 F.2.1 dL_isAct_190 rfl (lv_at hl 0 rfl) ?_
                    refine lv_iconst (v := 0) F.1 F.2.1 dL_isAct_191 (by decide) ?_
                    refine jcir (jrunV (As := [.int (nI (ceN L xs (at_ + 1) n)), .int 0]) (rest := []) F hT hW yc_X6_ofLine yv_X6_ofLine ml_L_8 oH0 (by decide) rfl (r_ofLine l E μ rfl hJ.1 (nI (ceN L xs (at_ + 1) n)) 0) rfl hl.1 ⟨Nat.le_of_ble_eq_true rfl, Nat.le_of_ble_eq_true rfl⟩ rfl (Nat.le_of_ble_eq_true rfl) ⟨by decide, by decide⟩ dL_isAct_192) hW (fun H locs hW => ?_)
                    refine lv_istore (lv' := [(6, .int (p_X3_numberOfLine (μ 0) (nI (ceN L xs (at_ + 1) n)) 0)), (3, .int (nI (ceN L xs (at_ + 1) n))), (0, .ref (ea E 11 0)), (1, .ref b), (2, .int (nI at_))]) F.1 F.2.1 dL_isAct_195 hl (by decide) rfl (fun ls hl => ?_)
                    refine lv_aload_n F.1 F.2.1 dL_isAct_197 rfl (lv_at hl 2 rfl) ?_
                    refine lv_iload_n F.1 F.2.1 dL_isAct_198 rfl (lv_at hl 1 rfl) ?_
                    refine lv_aload_n F.1 F.2.1 dL_isAct_199 rfl (lv_at hl 3 rfl) ?_
                    refine lv_iload_n F.1 F.2.1 dL_isAct_200 rfl (lv_at hl 4 rfl) ?_
                    refine lv_iconst (v := 2) F.1 F.2.1 dL_isAct_201 (by decide) ?_
                    refine lv_iadd F.1 F.2.1 dL_isAct_202 ?_
                    refine lv_bipush (v := 16) F.1 F.2.1 dL_isAct_203 (by decide) ?_
                    refine jcir (xrunS (As := [.ref b, .int ((nI at_) + 2), .int 16]) (rest := [.int (nI (ceN L xs (at_ + 1) n)), .ref (ea E 11 0)]) F hT hW hX hbl hbA yc_L_cell ys_L_cell ml_L_47 (c_L_cell l E μ hL hbA ((nI at_) + 2) (ia rfl (lI 2)) 16 (lI 16) (by omega) (by omega)) rfl hl.1 ⟨Nat.le_of_ble_eq_true rfl, Nat.le_of_ble_eq_true rfl⟩ rfl (Nat.le_of_ble_eq_true rfl) ⟨by decide, by decide⟩ dL_isAct_205) hW (fun H locs hW => ?_)
                    refine lv_iconst (v := 1) F.1 F.2.1 dL_isAct_208 (by decide) ?_
                    refine lv_aload_n F.1 F.2.1 dL_isAct_209 rfl (lv_at hl 3 rfl) ?_
                    refine lv_iload_n F.1 F.2.1 dL_isAct_210 rfl (lv_at hl 4 rfl) ?_
                    refine lv_iconst (v := 3) F.1 F.2.1 dL_isAct_211 (by decide) ?_
                    refine lv_iadd F.1 F.2.1 dL_isAct_212 ?_
                    refine lv_bipush (v := 6) F.1 F.2.1 dL_isAct_213 (by decide) ?_
                    refine jcir (xrunS (As := [.ref b, .int ((nI at_) + 3), .int 6]) (rest := [.int 1, .int (nI (ceN L xs (at_ + 2) 16)), .int (nI (ceN L xs (at_ + 1) n)), .ref (ea E 11 0)]) F hT hW hX hbl hbA yc_L_cell ys_L_cell ml_L_47 (c_L_cell l E μ hL hbA ((nI at_) + 3) (ia rfl (lI 3)) 6 (lI 6) (by omega) (by omega)) rfl hl.1 ⟨Nat.le_of_ble_eq_true rfl, Nat.le_of_ble_eq_true rfl⟩ rfl (Nat.le_of_ble_eq_true rfl) ⟨by decide, by decide⟩ dL_isAct_215) hW (fun H locs hW => ?_)
                    refine lv_iadd F.1 F.2.1 dL_isAct_218 ?_
                    rw [show 1 + (nI (ceN L xs (at_ + 3) 6)) = nI (1 + ceN L xs (at_ + 3) 6) from (ia (lI 1) rfl)]
                    refine lv_aload_n F.1 F.2.1 dL_isAct_219 rfl (lv_at hl 3 rfl) ?_
                    refine lv_iload_n F.1 F.2.1 dL_isAct_220 rfl (lv_at hl 4 rfl) ?_
                    refine lv_iconst (v := 4) F.1 F.2.1 dL_isAct_221 (by decide) ?_
                    refine lv_iadd F.1 F.2.1 dL_isAct_222 ?_
                    refine lv_bipush (v := 30) F.1 F.2.1 dL_isAct_223 (by decide) ?_
                    refine jcir (xrunS (As := [.ref b, .int ((nI at_) + 4), .int 30]) (rest := [.int (nI (1 + ceN L xs (at_ + 3) 6)), .int (nI (ceN L xs (at_ + 2) 16)), .int (nI (ceN L xs (at_ + 1) n)), .ref (ea E 11 0)]) F hT hW hX hbl hbA yc_L_cell ys_L_cell ml_L_47 (c_L_cell l E μ hL hbA ((nI at_) + 4) (ia rfl (lI 4)) 30 (lI 30) (by omega) (by omega)) rfl hl.1 ⟨Nat.le_of_ble_eq_true rfl, Nat.le_of_ble_eq_true rfl⟩ rfl (Nat.le_of_ble_eq_true rfl) ⟨by decide, by decide⟩ dL_isAct_225) hW (fun H locs hW => ?_)
                    have hA8 := a_change (x := ceN L xs (at_ + 2) 16) (y := 1 + ceN L xs (at_ + 3) 6) (z := ceN L xs (at_ + 4) 30) hJ hb9 hq (by have := ceN_lt (L := L) (xs := xs) (k := at_ + 2) (n := 16) (by decide); omega) (by have := ceN_lt (L := L) (xs := xs) (k := at_ + 3) (n := 6) (by decide); omega) (by have := ceN_lt (L := L) (xs := xs) (k := at_ + 4) (n := 30) (by decide); omega)
                    have hWc := hA8.2.1.1
                    refine jciG (jrunV (As := [.int (nI (ceN L xs (at_ + 1) n)), .int (nI (ceN L xs (at_ + 2) 16)), .int (nI (1 + ceN L xs (at_ + 3) 6)), .int (nI (ceN L xs (at_ + 4) 30))]) (rest := []) F hT hW yc_X6_change yv_X6_change ml_L_65 oH0 (by decide) rfl (c_X6_change l E μ (nI (ceN L xs (at_ + 1) n)) (nI (ceN L xs (at_ + 2) 16)) (nI (1 + ceN L xs (at_ + 3) 6)) (nI (ceN L xs (at_ + 4) 30)) hJ.1) rfl hl.1 ⟨Nat.le_of_ble_eq_true rfl, Nat.le_of_ble_eq_true rfl⟩ rfl (Nat.le_of_ble_eq_true rfl) ⟨by decide, by decide⟩ dL_isAct_228) hW (fun x28 S29 H locs ex28 eS29 hW => ?_)
                    refine lv_iload F.1 F.2.1 dL_isAct_231 (lv_at hl 0 rfl) ?_
                    refine lv_icmp_ne (tgt := 278) F.1 F.2.1 dL_isAct_233 (by decide) (fun h30 => ?_) (fun h30 => ?_)
                    · exact absurd (ex28.trans hA8.1) h30
                    · refine lv_aload_n F.1 F.2.1 dL_isAct_236 rfl (lv_at hl 2 rfl) ?_
                      refine lv_iload_n F.1 F.2.1 dL_isAct_237 rfl (lv_at hl 1 rfl) ?_
                      refine lv_iconst (v := 0) F.1 F.2.1 dL_isAct_238 (by decide) ?_
                      refine jcir (jrunV (As := [.int (nI (ceN L xs (at_ + 1) n)), .int 0]) (rest := []) F hT hW yc_X6_ofLine yv_X6_ofLine ml_L_8 oH0 (by decide) rfl (r_ofLine l E S29 rfl (by rw [eS29]; exact hWc) (nI (ceN L xs (at_ + 1) n)) 0) rfl hl.1 ⟨Nat.le_of_ble_eq_true rfl, Nat.le_of_ble_eq_true rfl⟩ rfl (Nat.le_of_ble_eq_true rfl) ⟨by decide, by decide⟩ dL_isAct_239) hW (fun H locs hW => ?_)
                      refine lv_aload_n F.1 F.2.1 dL_isAct_242 rfl (lv_at hl 3 rfl) ?_
                      refine lv_iload_n F.1 F.2.1 dL_isAct_243 rfl (lv_at hl 4 rfl) ?_
                      refine lv_iconst (v := 2) F.1 F.2.1 dL_isAct_244 (by decide) ?_
                      refine lv_iadd F.1 F.2.1 dL_isAct_245 ?_
                      refine lv_bipush (v := 16) F.1 F.2.1 dL_isAct_246 (by decide) ?_
                      refine jcir (xrunS (As := [.ref b, .int ((nI at_) + 2), .int 16]) (rest := [.int (p_X3_numberOfLine (S29 0) (nI (ceN L xs (at_ + 1) n)) 0)]) F hT hW hX hbl hbA yc_L_cell ys_L_cell ml_L_47 (c_L_cell l E S29 hL hbA ((nI at_) + 2) (ia rfl (lI 2)) 16 (lI 16) (by omega) (by omega)) rfl hl.1 ⟨Nat.le_of_ble_eq_true rfl, Nat.le_of_ble_eq_true rfl⟩ rfl (Nat.le_of_ble_eq_true rfl) ⟨by decide, by decide⟩ dL_isAct_248) hW (fun H locs hW => ?_)
                      refine lv_icmp_ne (tgt := 278) F.1 F.2.1 dL_isAct_251 (by decide) (fun h31 => ?_) (fun h31 => ?_)
                      · exact absurd (by rw [eS29]; exact hA8.2.2.1) h31
                      · refine lv_aload_n F.1 F.2.1 dL_isAct_254 rfl (lv_at hl 2 rfl) ?_
                        refine lv_iload_n F.1 F.2.1 dL_isAct_255 rfl (lv_at hl 1 rfl) ?_
                        refine lv_iconst (v := 1) F.1 F.2.1 dL_isAct_256 (by decide) ?_
                        refine jcir (jrunV (As := [.int (nI (ceN L xs (at_ + 1) n)), .int 1]) (rest := []) F hT hW yc_X6_ofLine yv_X6_ofLine ml_L_8 oH0 (by decide) rfl (r_ofLine l E S29 rfl (by rw [eS29]; exact hWc) (nI (ceN L xs (at_ + 1) n)) 1) rfl hl.1 ⟨Nat.le_of_ble_eq_true rfl, Nat.le_of_ble_eq_true rfl⟩ rfl (Nat.le_of_ble_eq_true rfl) ⟨by decide, by decide⟩ dL_isAct_257) hW (fun H locs hW => ?_)
                        refine lv_iconst (v := 1) F.1 F.2.1 dL_isAct_260 (by decide) ?_
                        refine lv_aload_n F.1 F.2.1 dL_isAct_261 rfl (lv_at hl 3 rfl) ?_
                        refine lv_iload_n F.1 F.2.1 dL_isAct_262 rfl (lv_at hl 4 rfl) ?_
                        refine lv_iconst (v := 3) F.1 F.2.1 dL_isAct_263 (by decide) ?_
                        refine lv_iadd F.1 F.2.1 dL_isAct_264 ?_
                        refine lv_bipush (v := 6) F.1 F.2.1 dL_isAct_265 (by decide) ?_
                        refine jcir (xrunS (As := [.ref b, .int ((nI at_) + 3), .int 6]) (rest := [.int 1, .int (p_X3_numberOfLine (S29 0) (nI (ceN L xs (at_ + 1) n)) 1)]) F hT hW hX hbl hbA yc_L_cell ys_L_cell ml_L_47 (c_L_cell l E S29 hL hbA ((nI at_) + 3) (ia rfl (lI 3)) 6 (lI 6) (by omega) (by omega)) rfl hl.1 ⟨Nat.le_of_ble_eq_true rfl, Nat.le_of_ble_eq_true rfl⟩ rfl (Nat.le_of_ble_eq_true rfl) ⟨by decide, by decide⟩ dL_isAct_267) hW (fun H locs hW => ?_)
                        refine lv_iadd F.1 F.2.1 dL_isAct_270 ?_
                        rw [show 1 + (nI (ceN L xs (at_ + 3) 6)) = nI (1 + ceN L xs (at_ + 3) 6) from (ia (lI 1) rfl)]
                        refine lv_icmp_ne (tgt := 278) F.1 F.2.1 dL_isAct_271 (by decide) (fun h32 => ?_) (fun h32 => ?_)
                        · exact absurd (by rw [eS29]; exact hA8.2.2.2) h32
                        · refine lv_iconst (v := 1) F.1 F.2.1 dL_isAct_274 (by decide) ?_
                          refine lv_goto (tgt := 279) F.1 F.2.1 dL_isAct_275 (by decide) ?_
                          exact xri F hr0 hlk hW rfl ⟨Nat.le_of_ble_eq_true rfl, Nat.le_of_ble_eq_true rfl⟩ dL_isAct_279 ⟨rfl, t, d, g, by rw [eS29]; exact hA8.2.1⟩
                  · rcases Decidable.em ((nI (ceN L xs at_ 20)) = 9) with hk20_9 | hk20_9
                    · refine lv_tableIn (off := 260) (tgt := 280) F.1 F.2.1 dL_isAct_20 (by rw [hk20_9]; decide) (by rw [hk20_9]; decide) (by rw [hk20_9]; rfl) (by decide) ?_
                      refine lv_aload_n F.1 F.2.1 dL_isAct_280 rfl (lv_at hl 2 rfl) ?_
                      refine lv_iload_n F.1 F.2.1 dL_isAct_281 rfl (lv_at hl 3 rfl) ?_
                      refine lv_iconst (v := 2) F.1 F.2.1 dL_isAct_282 (by decide) ?_
                      refine lv_iadd F.1 F.2.1 dL_isAct_283 ?_
                      refine lv_iconst (v := 4) F.1 F.2.1 dL_isAct_284 (by decide) ?_
                      refine jcir (xrunS (As := [.ref b, .int ((nI at_) + 2), .int 4]) (rest := []) F hT hW hX hbl hbA yc_L_cell ys_L_cell ml_L_47 (c_L_cell l E μ hL hbA ((nI at_) + 2) (ia rfl (lI 2)) 4 (lI 4) (by omega) (by omega)) rfl hl.1 ⟨Nat.le_of_ble_eq_true rfl, Nat.le_of_ble_eq_true rfl⟩ rfl (Nat.le_of_ble_eq_true rfl) ⟨by decide, by decide⟩ dL_isAct_285) hW (fun H locs hW => ?_)
                      refine lv_istore (lv' := [(7, .int (nI (ceN L xs (at_ + 2) 4))), (3, .int (nI (ceN L xs (at_ + 1) n))), (0, .ref (ea E 11 0)), (1, .ref b), (2, .int (nI at_))]) F.1 F.2.1 dL_isAct_288 hl (by decide) rfl (fun ls hl => ?_)
                      refine lv_iload F.1 F.2.1 dL_isAct_290 (lv_at hl 0 rfl) ?_
                      have hJ37 : ∀ (v36 : Int32) (H : Heap) (locs : List Loc) (ls : Array Slot), v36 = (if (nI (ceN L xs (at_ + 2) 4)) = 0 then 0 else (if (nI (ceN L xs (at_ + 2) 4)) = 1 then 2 else (if (nI (ceN L xs (at_ + 2) 4)) = 2 then 3 else 6))) → Wd E s H locs μ → lv_has ls 11 [(7, .int (nI (ceN L xs (at_ + 2) 4))), (3, .int (nI (ceN L xs (at_ + 1) n))), (0, .ref (ea E 11 0)), (1, .ref b), (2, .int (nI at_))] → W p l e (rmC 7 182 16 177) s m #[.ref (ea E 11 0), .ref b, .int (nI at_)] below meth c H locs 0 0 (MQ below (va_Qi (fun x μ' => x = 1 ∧ ∃ t' d' g', JJ (b9 + 1) n t' d' g' μ') (fun μ' t => MB E μ' t.heap) (AA E)) #[.ref (ea E 11 0), .ref b, .int (nI at_)] s 16 177 (AA E)) (F0 m 321 ls [.int v36]) := by
                        intro v36 H locs ls ev36 hW hl
                        refine lv_istore (lv' := [(8, .int v36), (7, .int (nI (ceN L xs (at_ + 2) 4))), (3, .int (nI (ceN L xs (at_ + 1) n))), (0, .ref (ea E 11 0)), (1, .ref b), (2, .int (nI at_))]) F.1 F.2.1 dL_isAct_321 hl (by decide) rfl (fun ls hl => ?_)
                        refine lv_iload F.1 F.2.1 dL_isAct_323 (lv_at hl 1 rfl) ?_
                        refine lv_iconst (v := 3) F.1 F.2.1 dL_isAct_325 (by decide) ?_
                        have hJ43 : ∀ (v42 : Int32) (H : Heap) (locs : List Loc) (ls : Array Slot), v42 = (if (nI (ceN L xs (at_ + 2) 4)) = 3 then nI (ceN L xs (at_ + 3) 12) else (let v40 : Int32 := (if (nI (ceN L xs (at_ + 2) 4)) = 0 then 9 else 3); 1 + (nI (ceN L xs (at_ + 3) (if ceN L xs (at_ + 2) 4 = 0 then 9 else 3))))) → Wd E s H locs μ → lv_has ls 11 [(8, .int v36), (7, .int (nI (ceN L xs (at_ + 2) 4))), (3, .int (nI (ceN L xs (at_ + 1) n))), (0, .ref (ea E 11 0)), (1, .ref b), (2, .int (nI at_))] → W p l e (rmC 7 182 16 177) s m #[.ref (ea E 11 0), .ref b, .int (nI at_)] below meth c H locs 0 0 (MQ below (va_Qi (fun x μ' => x = 1 ∧ ∃ t' d' g', JJ (b9 + 1) n t' d' g' μ') (fun μ' t => MB E μ' t.heap) (AA E)) #[.ref (ea E 11 0), .ref b, .int (nI at_)] s 16 177 (AA E)) (F0 m 361 ls [.int v42]) := by
                          intro v42 H locs ls ev42 hW hl
                          refine lv_istore (lv' := [(9, .int v42), (8, .int v36), (7, .int (nI (ceN L xs (at_ + 2) 4))), (3, .int (nI (ceN L xs (at_ + 1) n))), (0, .ref (ea E 11 0)), (1, .ref b), (2, .int (nI at_))]) F.1 F.2.1 dL_isAct_361 hl (by decide) rfl (fun ls hl => ?_)
                          refine lv_aload_n F.1 F.2.1 dL_isAct_363 rfl (lv_at hl 4 rfl) ?_
                          refine lv_iload F.1 F.2.1 dL_isAct_364 (lv_at hl 1 rfl) ?_
                          refine lv_iload F.1 F.2.1 dL_isAct_366 (lv_at hl 0 rfl) ?_
                          have hA9 := a_set9 (c1 := ceN L xs (at_ + 3) 12) (c2 := ceN L xs (at_ + 3) (if ceN L xs (at_ + 2) 4 = 0 then 9 else 3)) hJ hb9 (ceN_lt (n := 4) (by decide)) (ceN_lt (by decide)) (ceN_lt (by split <;> decide)) ev36 ev42
                          have hWc := hA9.2.1.1
                          refine jciG (jrunV (As := [.int v36, .int v42]) (rest := []) F hT hW yc_X6_set yv_X6_set ml_L_69 oH0 (by decide) rfl (c_X6_set l E μ v36 v42 hJ.1) rfl hl.1 ⟨Nat.le_of_ble_eq_true rfl, Nat.le_of_ble_eq_true rfl⟩ rfl (Nat.le_of_ble_eq_true rfl) ⟨by decide, by decide⟩ dL_isAct_368) hW (fun x44 S45 H locs ex44 eS45 hW => ?_)
                          refine lv_if_lt (tgt := 392) F.1 F.2.1 dL_isAct_371 (by decide) (fun h46 => ?_) (fun h46 => ?_)
                          · exact absurd h46 (by rw [ex44]; exact Int32.not_lt.mpr hA9.1)
                          · refine lv_aload_n F.1 F.2.1 dL_isAct_374 rfl (lv_at hl 4 rfl) ?_
                            refine lv_bipush (v := 12) F.1 F.2.1 dL_isAct_375 (by decide) ?_
                            refine lv_iload F.1 F.2.1 dL_isAct_377 (lv_at hl 1 rfl) ?_
                            refine lv_iadd F.1 F.2.1 dL_isAct_379 ?_
                            refine jcir (jrunV (As := [.int (12 + v36)]) (rest := []) F hT hW yc_X6_count yv_X6_count ml_L_14 oH0 (by decide) rfl (r_count l E S45 rfl (by rw [eS45]; exact hWc) (12 + v36) (st_10 (ceN_lt (by decide)) ev36).1 (st_10 (ceN_lt (by decide)) ev36).2) rfl hl.1 ⟨Nat.le_of_ble_eq_true rfl, Nat.le_of_ble_eq_true rfl⟩ rfl (Nat.le_of_ble_eq_true rfl) ⟨by decide, by decide⟩ dL_isAct_380) hW (fun H locs hW => ?_)
                            refine lv_iload F.1 F.2.1 dL_isAct_383 (lv_at hl 0 rfl) ?_
                            refine lv_icmp_ne (tgt := 392) F.1 F.2.1 dL_isAct_385 (by decide) (fun h47 => ?_) (fun h47 => ?_)
                            · exact absurd (by rw [eS45]; exact hA9.2.2) h47
                            · refine lv_iconst (v := 1) F.1 F.2.1 dL_isAct_388 (by decide) ?_
                              refine lv_goto (tgt := 393) F.1 F.2.1 dL_isAct_389 (by decide) ?_
                              exact xri F hr0 hlk hW rfl ⟨Nat.le_of_ble_eq_true rfl, Nat.le_of_ble_eq_true rfl⟩ dL_isAct_393 ⟨rfl, t, d, g, by rw [eS45]; exact hA9.2.1⟩
                        refine lv_icmp_ne (tgt := 341) F.1 F.2.1 dL_isAct_326 (by decide) (fun h38 => ?_) (fun h38 => ?_)
                        · refine lv_iconst (v := 1) F.1 F.2.1 dL_isAct_341 (by decide) ?_
                          refine lv_aload_n F.1 F.2.1 dL_isAct_342 rfl (lv_at hl 4 rfl) ?_
                          refine lv_iload_n F.1 F.2.1 dL_isAct_343 rfl (lv_at hl 5 rfl) ?_
                          refine lv_iconst (v := 3) F.1 F.2.1 dL_isAct_344 (by decide) ?_
                          refine lv_iadd F.1 F.2.1 dL_isAct_345 ?_
                          refine lv_iload F.1 F.2.1 dL_isAct_346 (lv_at hl 1 rfl) ?_
                          have hJ41 : ∀ (v40 : Int32) (H : Heap) (locs : List Loc) (ls : Array Slot), v40 = (if (nI (ceN L xs (at_ + 2) 4)) = 0 then 9 else 3) → Wd E s H locs μ → lv_has ls 11 [(8, .int v36), (7, .int (nI (ceN L xs (at_ + 2) 4))), (3, .int (nI (ceN L xs (at_ + 1) n))), (0, .ref (ea E 11 0)), (1, .ref b), (2, .int (nI at_))] → W p l e (rmC 7 182 16 177) s m #[.ref (ea E 11 0), .ref b, .int (nI at_)] below meth c H locs 0 0 (MQ below (va_Qi (fun x μ' => x = 1 ∧ ∃ t' d' g', JJ (b9 + 1) n t' d' g' μ') (fun μ' t => MB E μ' t.heap) (AA E)) #[.ref (ea E 11 0), .ref b, .int (nI at_)] s 16 177 (AA E)) (F0 m 357 ls [.int v40, .int ((nI at_) + 3), .ref b, .int 1]) := by
                            intro v40 H locs ls ev40 hW hl
                            refine jcir (xrunS (As := [.ref b, .int ((nI at_) + 3), .int v40]) (rest := [.int 1]) F hT hW hX hbl hbA yc_L_cell ys_L_cell ml_L_47 (c_L_cell l E μ hL hbA ((nI at_) + 3) (ia rfl (lI 3)) v40 (c93 ev40 (ceN_lt (by decide))) (by omega) ⟨by split <;> decide, by split <;> decide⟩) rfl hl.1 ⟨Nat.le_of_ble_eq_true rfl, Nat.le_of_ble_eq_true rfl⟩ rfl (Nat.le_of_ble_eq_true rfl) ⟨by decide, by decide⟩ dL_isAct_357) hW (fun H locs hW => ?_)
                            refine lv_iadd F.1 F.2.1 dL_isAct_360 ?_
                            subst ev40
                            exact hJ43 _ _ _ _ (if_neg h38).symm hW (lv_sub hl [0, 1, 2, 3, 4, 5] rfl)
                          refine lv_if_ne (tgt := 356) F.1 F.2.1 dL_isAct_348 (by decide) (fun h39 => ?_) (fun h39 => ?_)
                          · refine lv_iconst (v := 3) F.1 F.2.1 dL_isAct_356 (by decide) ?_
                            exact hJ41 _ _ _ _ (if_neg h39).symm hW (lv_sub hl [0, 1, 2, 3, 4, 5] rfl)
                          · refine lv_bipush (v := 9) F.1 F.2.1 dL_isAct_351 (by decide) ?_
                            refine lv_goto (tgt := 357) F.1 F.2.1 dL_isAct_353 (by decide) ?_
                            exact hJ41 _ _ _ _ (if_pos h39).symm hW (lv_sub hl [0, 1, 2, 3, 4, 5] rfl)
                        · refine lv_aload_n F.1 F.2.1 dL_isAct_329 rfl (lv_at hl 4 rfl) ?_
                          refine lv_iload_n F.1 F.2.1 dL_isAct_330 rfl (lv_at hl 5 rfl) ?_
                          refine lv_iconst (v := 3) F.1 F.2.1 dL_isAct_331 (by decide) ?_
                          refine lv_iadd F.1 F.2.1 dL_isAct_332 ?_
                          refine lv_bipush (v := 12) F.1 F.2.1 dL_isAct_333 (by decide) ?_
                          refine jcir (xrunS (As := [.ref b, .int ((nI at_) + 3), .int 12]) (rest := []) F hT hW hX hbl hbA yc_L_cell ys_L_cell ml_L_47 (c_L_cell l E μ hL hbA ((nI at_) + 3) (ia rfl (lI 3)) 12 (lI 12) (by omega) (by omega)) rfl hl.1 ⟨Nat.le_of_ble_eq_true rfl, Nat.le_of_ble_eq_true rfl⟩ rfl (Nat.le_of_ble_eq_true rfl) ⟨by decide, by decide⟩ dL_isAct_335) hW (fun H locs hW => ?_)
                          refine lv_goto (tgt := 361) F.1 F.2.1 dL_isAct_338 (by decide) ?_
                          exact hJ43 _ _ _ _ (if_pos h38).symm hW (lv_sub hl [0, 1, 2, 3, 4, 5] rfl)
                      refine lv_if_ne (tgt := 299) F.1 F.2.1 dL_isAct_292 (by decide) (fun h33 => ?_) (fun h33 => ?_)
                      · refine lv_iload F.1 F.2.1 dL_isAct_299 (lv_at hl 0 rfl) ?_
                        refine lv_iconst (v := 1) F.1 F.2.1 dL_isAct_301 (by decide) ?_
                        refine lv_icmp_ne (tgt := 309) F.1 F.2.1 dL_isAct_302 (by decide) (fun h34 => ?_) (fun h34 => ?_)
                        · refine lv_iload F.1 F.2.1 dL_isAct_309 (lv_at hl 0 rfl) ?_
                          refine lv_iconst (v := 2) F.1 F.2.1 dL_isAct_311 (by decide) ?_
                          refine lv_icmp_ne (tgt := 319) F.1 F.2.1 dL_isAct_312 (by decide) (fun h35 => ?_) (fun h35 => ?_)
                          · refine lv_bipush (v := 6) F.1 F.2.1 dL_isAct_319 (by decide) ?_
                            exact hJ37 _ _ _ _ ((if_neg h33).trans ((if_neg h34).trans (if_neg h35))).symm hW (lv_sub hl [0, 1, 2, 3, 4] rfl)
                          · refine lv_iconst (v := 3) F.1 F.2.1 dL_isAct_315 (by decide) ?_
                            refine lv_goto (tgt := 321) F.1 F.2.1 dL_isAct_316 (by decide) ?_
                            exact hJ37 _ _ _ _ ((if_neg h33).trans ((if_neg h34).trans (if_pos h35))).symm hW (lv_sub hl [0, 1, 2, 3, 4] rfl)
                        · refine lv_iconst (v := 2) F.1 F.2.1 dL_isAct_305 (by decide) ?_
                          refine lv_goto (tgt := 321) F.1 F.2.1 dL_isAct_306 (by decide) ?_
                          exact hJ37 _ _ _ _ ((if_neg h33).trans (if_pos h34)).symm hW (lv_sub hl [0, 1, 2, 3, 4] rfl)
                      · refine lv_iconst (v := 0) F.1 F.2.1 dL_isAct_295 (by decide) ?_
                        refine lv_goto (tgt := 321) F.1 F.2.1 dL_isAct_296 (by decide) ?_
                        exact hJ37 _ _ _ _ (if_pos h33).symm hW (lv_sub hl [0, 1, 2, 3, 4] rfl)
                    · rcases Decidable.em ((nI (ceN L xs at_ 20)) = 10) with hk20_10 | hk20_10
                      · refine lv_tableIn (off := 374) (tgt := 394) F.1 F.2.1 dL_isAct_20 (by rw [hk20_10]; decide) (by rw [hk20_10]; decide) (by rw [hk20_10]; rfl) (by decide) ?_
                        refine lv_aload_n F.1 F.2.1 dL_isAct_394 rfl (lv_at hl 1 rfl) ?_
                        refine lv_iconst (v := 2) F.1 F.2.1 dL_isAct_395 (by decide) ?_
                        refine jcir (jrunV (As := [.int 2]) (rest := []) F hT hW yc_X6_count yv_X6_count ml_L_14 oH0 (by decide) rfl (r_count l E μ rfl hJ.1 2 (by decide) (by decide)) rfl hl.1 ⟨Nat.le_of_ble_eq_true rfl, Nat.le_of_ble_eq_true rfl⟩ rfl (Nat.le_of_ble_eq_true rfl) ⟨by decide, by decide⟩ dL_isAct_396) hW (fun H locs hW => ?_)
                        refine lv_istore (lv' := [(10, .int (p_X3_numberOfAll (μ 0) 2)), (3, .int (nI (ceN L xs (at_ + 1) n))), (0, .ref (ea E 11 0)), (1, .ref b), (2, .int (nI at_))]) F.1 F.2.1 dL_isAct_399 hl (by decide) rfl (fun ls hl => ?_)
                        refine lv_aload_n F.1 F.2.1 dL_isAct_401 rfl (lv_at hl 2 rfl) ?_
                        refine lv_iconst (v := 0) F.1 F.2.1 dL_isAct_402 (by decide) ?_
                        have hA10 := a_stop hJ hb9
                        refine jciG (jrunV (As := [.int 0]) (rest := []) F hT hW yc_X6_stop yv_X6_stop ml_L_72 oH0 (by decide) rfl (c_X6_stop l E μ 0 hJ.1) rfl hl.1 ⟨Nat.le_of_ble_eq_true rfl, Nat.le_of_ble_eq_true rfl⟩ rfl (Nat.le_of_ble_eq_true rfl) ⟨by decide, by decide⟩ dL_isAct_403) hW (fun x48 S49 H locs ex48 eS49 hW => ?_)
                        refine lv_iload F.1 F.2.1 dL_isAct_406 (lv_at hl 0 rfl) ?_
                        have hJ52 : ∀ (v51 : Int32) (H : Heap) (locs : List Loc) (ls : Array Slot), v51 = (if (p_X3_numberOfAll (μ 0) 2) = 0 then (-1) else (p_X3_numberOfAll (μ 0) 2) - 1) → Wd E s H locs S49 → lv_has ls 11 [(10, .int (p_X3_numberOfAll (μ 0) 2)), (3, .int (nI (ceN L xs (at_ + 1) n))), (0, .ref (ea E 11 0)), (1, .ref b), (2, .int (nI at_))] → W p l e (rmC 7 182 16 177) s m #[.ref (ea E 11 0), .ref b, .int (nI at_)] below meth c H locs 0 0 (MQ below (va_Qi (fun x μ' => x = 1 ∧ ∃ t' d' g', JJ (b9 + 1) n t' d' g' μ') (fun μ' t => MB E μ' t.heap) (AA E)) #[.ref (ea E 11 0), .ref b, .int (nI at_)] s 16 177 (AA E)) (F0 m 419 ls [.int v51, .int x48]) := by
                          intro v51 H locs ls ev51 hW hl
                          refine lv_icmp_ne (tgt := 426) F.1 F.2.1 dL_isAct_419 (by decide) (fun h53 => ?_) (fun h53 => ?_)
                          · exact absurd (ex48.trans (hA10.1.trans ev51.symm)) h53
                          · refine lv_iconst (v := 1) F.1 F.2.1 dL_isAct_422 (by decide) ?_
                            refine lv_goto (tgt := 427) F.1 F.2.1 dL_isAct_423 (by decide) ?_
                            exact xri F hr0 hlk hW rfl ⟨Nat.le_of_ble_eq_true rfl, Nat.le_of_ble_eq_true rfl⟩ dL_isAct_427 ⟨rfl, hA10.2.choose, d, g, by rw [eS49]; exact hA10.2.choose_spec⟩
                        refine lv_if_ne (tgt := 415) F.1 F.2.1 dL_isAct_408 (by decide) (fun h50 => ?_) (fun h50 => ?_)
                        · refine lv_iload F.1 F.2.1 dL_isAct_415 (lv_at hl 0 rfl) ?_
                          refine lv_iconst (v := 1) F.1 F.2.1 dL_isAct_417 (by decide) ?_
                          refine lv_isub F.1 F.2.1 dL_isAct_418 ?_
                          exact hJ52 _ _ _ _ (if_neg h50).symm hW (lv_sub hl [0, 1, 2, 3, 4] rfl)
                        · refine lv_iconst (v := (-1)) F.1 F.2.1 dL_isAct_411 (by decide) ?_
                          refine lv_goto (tgt := 419) F.1 F.2.1 dL_isAct_412 (by decide) ?_
                          exact hJ52 _ _ _ _ (if_pos h50).symm hW (lv_sub hl [0, 1, 2, 3, 4] rfl)
                      · refine lv_tableOut (tgt := 428) F.1 F.2.1 dL_isAct_20 (by have := lv_neT (a := 0) hk20_0 rfl; have := lv_neT (a := 1) hk20_1 rfl; have := lv_neT (a := 2) hk20_2 rfl; have := lv_neT (a := 3) hk20_3 rfl; have := lv_neT (a := 4) hk20_4 rfl; have := lv_neT (a := 5) hk20_5 rfl; have := lv_neT (a := 6) hk20_6 rfl; have := lv_neT (a := 7) hk20_7 rfl; have := lv_neT (a := 8) hk20_8 rfl; have := lv_neT (a := 9) hk20_9 rfl; have := lv_neT (a := 10) hk20_10 rfl; omega) (by decide) ?_
                        refine lv_aload_n F.1 F.2.1 dL_isAct_428 rfl (lv_at hl 1 rfl) ?_
                        refine jciT (jrunSm (As := [.ref (ea E 11 0)]) (rest := []) F hT hW yc_L_isTick ys_L_isTick ml_L_75 (c_L_isTick l E μ hJ hb9 hE0) rfl hl.1 ⟨Nat.le_of_ble_eq_true rfl, Nat.le_of_ble_eq_true rfl⟩ rfl (Nat.le_of_ble_eq_true rfl) ⟨by decide, by decide⟩ dL_isAct_429) hW (fun x54 S55 H locs hPx54 hW => ?_)
                        exact xri F hr0 hlk hW (znar (Or.inr hPx54.1)) ⟨Nat.le_of_ble_eq_true rfl, Nat.le_of_ble_eq_true rfl⟩ dL_isAct_432 ⟨hPx54.1, t, hPx54.2.choose, g + 1, hPx54.2.choose_spec⟩
