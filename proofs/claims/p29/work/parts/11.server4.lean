/-! class Server: sums of periods, numbers, a timer stopped, a server copied -/
def q_X3_costOfRivals_5 (S : Sv) (li : Nat) (ww : Int32) (j : Nat) (σ : Int32) : Int32 :=
  let v1 : Int32 := σ
  let v7 : Int32 := (if (S (16 + j) 0) = (nI li) then v1 else (if (S (3 + (cn (S (16 + j) 0))) 0) < (S (3 + li) 0) then v1 else (let x5 : Int64 := p_X6_dividedUp ww.toInt64 ((S (16 + j) 1).toInt64); (let x6 : Int32 := p_X3_costOf S (cn (S (16 + j) 0)); v1 + (x5.toInt32 * x6)))))
  v7
def p_X3_costOfRivals (S : Sv) (li : Nat) (ww : Int32) : Int32 :=
  let v1 : Int32 := (itN (q_X3_costOfRivals_5 S li ww) (cn (S 0 5)) (0))
  (v1 : Int32)

def q_X3_loadOfTimers_7 (S : Sv) (j : Nat) (σ : Int64 × Int64) : Int64 × Int64 :=
  let v1 : Int64 := σ.1
  let v2 : Int64 := σ.2
  let x4 : Int32 := p_X3_costOf S (cn (S (16 + j) 0))
  (v1 * ((S (16 + j) 1).toInt64), (v2 * ((S (16 + j) 1).toInt64)) + (v1 * x4.toInt64))
def p_X3_loadOfTimers (S : Sv) : Int32 :=
  let v1 : Int64 := (itN (q_X3_loadOfTimers_7 S) (cn (S 0 5)) (1, 0)).1
  let v2 : Int64 := (itN (q_X3_loadOfTimers_7 S) (cn (S 0 5)) (1, 0)).2
  let x5 : Int64 := p_X6_dividedUp (1000 * v2) v1
  (x5.toInt32 : Int32)

def q_X3_leastBound_32 (S : Sv) (ln : Int32) (x3 : Int32) (x4 : Int32) : Nat → Nat → Int32
  | 0, j =>
    ((-6) : Int32)
  | fu + 1, j =>
    let x6 : Int32 := p_X3_costOfRivals S (cn ln) (nI j)
    if (nI j) = ((x3 + x4) + x6) then
      (nI j : Int32)
    else
      q_X3_leastBound_32 S ln x3 x4 fu (j + 1) 
def p_X3_leastBound (S : Sv) (ln : Int32) : Int32 :=
  let x1 : Int32 := p_X3_hasLine S ln
  if x1 = 0 then
    ((-1) : Int32)
  else
    let x3 : Int32 := p_X3_greatestCostBelow S (S (3 + (cn ln)) 0)
    let x4 : Int32 := p_X3_costOf S (cn ln)
    q_X3_leastBound_32 S ln x3 x4 3000 1 

def p_X3_numberOfAll (S : Sv) (wh : Int32) : Int32 :=
  if wh < 12 then
    if wh = 0 then
      (S 0 0 : Int32)
    else
      if wh = 1 then
        (S 0 3 : Int32)
      else
        if wh = 2 then
          (S 0 5 : Int32)
        else
          if wh = 3 then
            (S 0 7 : Int32)
          else
            if wh = 4 then
              let x2 : Int32 := p_X3_waitingLines S
              (x2 : Int32)
            else
              if wh = 5 then
                let x3 : Int32 := p_X3_foundLine S
                (x3 : Int32)
              else
                if wh = 6 then
                  (S 0 8 : Int32)
                else
                  if wh = 7 then
                    (S 0 9 : Int32)
                  else
                    if wh = 8 then
                      let x4 : Int32 := p_X3_missesOfAll S
                      (x4 : Int32)
                    else
                      if wh = 9 then
                        (S 0 10 : Int32)
                      else
                        ((-2) : Int32)
  else
    if 7 ≤ (wh - 12) then
      if wh = 0 then
        (S 0 0 : Int32)
      else
        if wh = 1 then
          (S 0 3 : Int32)
        else
          if wh = 2 then
            (S 0 5 : Int32)
          else
            if wh = 3 then
              (S 0 7 : Int32)
            else
              if wh = 4 then
                let x6 : Int32 := p_X3_waitingLines S
                (x6 : Int32)
              else
                if wh = 5 then
                  let x7 : Int32 := p_X3_foundLine S
                  (x7 : Int32)
                else
                  if wh = 6 then
                    (S 0 8 : Int32)
                  else
                    if wh = 7 then
                      (S 0 9 : Int32)
                    else
                      if wh = 8 then
                        let x8 : Int32 := p_X3_missesOfAll S
                        (x8 : Int32)
                      else
                        if wh = 9 then
                          (S 0 10 : Int32)
                        else
                          ((-2) : Int32)
    else
      (S 1 (cn (wh - 12)) : Int32)

set_option maxHeartbeats 4000000 in
set_option maxRecDepth 100000 in
theorem c_X3_numberOfAll (l : Launch) (E : mE) (μ : Mu) (r : Nat) (hr : r < 11) (S : Sv) (wh : Int32) (hn : Bn (S 0 3) 12) : CtI l E yX3_numberOfAll cX3_numberOfAll 3 (some .int) 2 48 [.ref (ea E r 0), .int wh] (fo μ r S) (fun x μ' => x = p_X3_numberOfAll S wh ∧ μ' = (fo μ r S)) := by
  refine jMet (by decide +kernel) (Nat.le_of_ble_eq_true rfl) ?_
  intro p e s m below meth c ls F hT hr0 hlk hW hl
  have F : CallFix p m c cX3_numberOfAll 3 s _ TB RX3 := F
  have hl : lv_has ls 3 [(0, .ref (ea E r 0)), (1, .int wh)] := hl
  refine lv_iload_n F.1 F.2.1 dX3_numberOfAll_0 rfl (lv_at hl 1 rfl) ?_
  refine lv_bipush (v := 12) F.1 F.2.1 dX3_numberOfAll_1 (by decide) ?_
  refine lv_isub F.1 F.2.1 dX3_numberOfAll_3 ?_
  refine lv_istore_n (lv' := [(2, .int (wh - 12)), (0, .ref (ea E r 0)), (1, .int wh)]) F.1 F.2.1 dX3_numberOfAll_4 rfl hl (by decide) rfl (fun ls hl => ?_)
  refine lv_iload_n F.1 F.2.1 dX3_numberOfAll_5 rfl (lv_at hl 2 rfl) ?_
  refine lv_bipush (v := 12) F.1 F.2.1 dX3_numberOfAll_6 (by decide) ?_
  refine lv_icmp_lt (tgt := 27) F.1 F.2.1 dX3_numberOfAll_8 (by decide) (fun h1 => ?_) (fun h1 => ?_)
  · refine lv_iload_n F.1 F.2.1 dX3_numberOfAll_27 rfl (lv_at hl 2 rfl) ?_
    rcases Decidable.em (wh = 0) with hk28_0 | hk28_0
    · refine lv_tableIn (off := 56) (tgt := 84) F.1 F.2.1 dX3_numberOfAll_28 (by rw [hk28_0]; decide) (by rw [hk28_0]; decide) (by rw [hk28_0]; rfl) (by decide) ?_
      refine lv_aload_n F.1 F.2.1 dX3_numberOfAll_84 rfl (lv_at hl 1 rfl) ?_
      refine jget F hT hW fw_X3_44 (oSrv hr) (by decide) (rSrv0 hr) dX3_numberOfAll_85 ?_
      have hq : (S 0 0 : Int32) = p_X3_numberOfAll S wh := by
        exact ((if_pos h1).trans (if_pos hk28_0)).symm
      exact jri F hr0 hlk hW rfl dX3_numberOfAll_88 ⟨hq, rfl⟩
    · rcases Decidable.em (wh = 1) with hk28_1 | hk28_1
      · refine lv_tableIn (off := 61) (tgt := 89) F.1 F.2.1 dX3_numberOfAll_28 (by rw [hk28_1]; decide) (by rw [hk28_1]; decide) (by rw [hk28_1]; rfl) (by decide) ?_
        refine lv_aload_n F.1 F.2.1 dX3_numberOfAll_89 rfl (lv_at hl 1 rfl) ?_
        refine jget F hT hW fw_X3_54 (oSrv hr) (by decide) (rSrv3 hr) dX3_numberOfAll_90 ?_
        have hq : (S 0 3 : Int32) = p_X3_numberOfAll S wh := by
          exact ((if_pos h1).trans ((if_neg hk28_0).trans (if_pos hk28_1))).symm
        exact jri F hr0 hlk hW rfl dX3_numberOfAll_93 ⟨hq, rfl⟩
      · rcases Decidable.em (wh = 2) with hk28_2 | hk28_2
        · refine lv_tableIn (off := 66) (tgt := 94) F.1 F.2.1 dX3_numberOfAll_28 (by rw [hk28_2]; decide) (by rw [hk28_2]; decide) (by rw [hk28_2]; rfl) (by decide) ?_
          refine lv_aload_n F.1 F.2.1 dX3_numberOfAll_94 rfl (lv_at hl 1 rfl) ?_
          refine jget F hT hW fw_X3_61 (oSrv hr) (by decide) (rSrv5 hr) dX3_numberOfAll_95 ?_
          have hq : (S 0 5 : Int32) = p_X3_numberOfAll S wh := by
            exact ((if_pos h1).trans ((if_neg hk28_0).trans ((if_neg hk28_1).trans (if_pos hk28_2)))).symm
          exact jri F hr0 hlk hW rfl dX3_numberOfAll_98 ⟨hq, rfl⟩
        · rcases Decidable.em (wh = 3) with hk28_3 | hk28_3
          · refine lv_tableIn (off := 71) (tgt := 99) F.1 F.2.1 dX3_numberOfAll_28 (by rw [hk28_3]; decide) (by rw [hk28_3]; decide) (by rw [hk28_3]; rfl) (by decide) ?_
            refine lv_aload_n F.1 F.2.1 dX3_numberOfAll_99 rfl (lv_at hl 1 rfl) ?_
            refine jget F hT hW fw_X3_67 (oSrv hr) (by decide) (rSrv7 hr) dX3_numberOfAll_100 ?_
            have hq : (S 0 7 : Int32) = p_X3_numberOfAll S wh := by
              exact ((if_pos h1).trans ((if_neg hk28_0).trans ((if_neg hk28_1).trans ((if_neg hk28_2).trans (if_pos hk28_3))))).symm
            exact jri F hr0 hlk hW rfl dX3_numberOfAll_103 ⟨hq, rfl⟩
          · rcases Decidable.em (wh = 4) with hk28_4 | hk28_4
            · refine lv_tableIn (off := 76) (tgt := 104) F.1 F.2.1 dX3_numberOfAll_28 (by rw [hk28_4]; decide) (by rw [hk28_4]; decide) (by rw [hk28_4]; rfl) (by decide) ?_
              refine lv_aload_n F.1 F.2.1 dX3_numberOfAll_104 rfl (lv_at hl 1 rfl) ?_
              refine jcip (jrunV (As := []) (rest := []) F hT hW yc_X3_waitingLines yv_X3_waitingLines ml_X3_202 (oSrv hr) (by decide) rfl (c_X3_waitingLines l E μ r hr S (by first | assumption | omega)) rfl hl.1 ⟨Nat.le_of_ble_eq_true rfl, Nat.le_of_ble_eq_true rfl⟩ rfl (Nat.le_of_ble_eq_true rfl) ⟨Nat.le_refl _, Nat.le_refl _⟩ dX3_numberOfAll_105) hW (fun x2 H locs ex2 hW => ?_)
              have hq : (x2 : Int32) = p_X3_numberOfAll S wh := by
                subst ex2
                exact ((if_pos h1).trans ((if_neg hk28_0).trans ((if_neg hk28_1).trans ((if_neg hk28_2).trans ((if_neg hk28_3).trans (if_pos hk28_4)))))).symm
              exact jri F hr0 hlk hW rfl dX3_numberOfAll_108 ⟨hq, rfl⟩
            · rcases Decidable.em (wh = 5) with hk28_5 | hk28_5
              · refine lv_tableIn (off := 81) (tgt := 109) F.1 F.2.1 dX3_numberOfAll_28 (by rw [hk28_5]; decide) (by rw [hk28_5]; decide) (by rw [hk28_5]; rfl) (by decide) ?_
                refine lv_aload_n F.1 F.2.1 dX3_numberOfAll_109 rfl (lv_at hl 1 rfl) ?_
                refine jcip (jrunV (As := []) (rest := []) F hT hW yc_X3_foundLine yv_X3_foundLine ml_X3_167 (oSrv hr) (by decide) rfl (c_X3_foundLine l E μ r hr S (by first | assumption | omega)) rfl hl.1 ⟨Nat.le_of_ble_eq_true rfl, Nat.le_of_ble_eq_true rfl⟩ rfl (Nat.le_of_ble_eq_true rfl) ⟨Nat.le_refl _, Nat.le_refl _⟩ dX3_numberOfAll_110) hW (fun x3 H locs ex3 hW => ?_)
                have hq : (x3 : Int32) = p_X3_numberOfAll S wh := by
                  subst ex3
                  exact ((if_pos h1).trans ((if_neg hk28_0).trans ((if_neg hk28_1).trans ((if_neg hk28_2).trans ((if_neg hk28_3).trans ((if_neg hk28_4).trans (if_pos hk28_5))))))).symm
                exact jri F hr0 hlk hW rfl dX3_numberOfAll_113 ⟨hq, rfl⟩
              · rcases Decidable.em (wh = 6) with hk28_6 | hk28_6
                · refine lv_tableIn (off := 86) (tgt := 114) F.1 F.2.1 dX3_numberOfAll_28 (by rw [hk28_6]; decide) (by rw [hk28_6]; decide) (by rw [hk28_6]; rfl) (by decide) ?_
                  refine lv_aload_n F.1 F.2.1 dX3_numberOfAll_114 rfl (lv_at hl 1 rfl) ?_
                  refine jget F hT hW fw_X3_73 (oSrv hr) (by decide) (rSrv8 hr) dX3_numberOfAll_115 ?_
                  have hq : (S 0 8 : Int32) = p_X3_numberOfAll S wh := by
                    exact ((if_pos h1).trans ((if_neg hk28_0).trans ((if_neg hk28_1).trans ((if_neg hk28_2).trans ((if_neg hk28_3).trans ((if_neg hk28_4).trans ((if_neg hk28_5).trans (if_pos hk28_6)))))))).symm
                  exact jri F hr0 hlk hW rfl dX3_numberOfAll_118 ⟨hq, rfl⟩
                · rcases Decidable.em (wh = 7) with hk28_7 | hk28_7
                  · refine lv_tableIn (off := 91) (tgt := 119) F.1 F.2.1 dX3_numberOfAll_28 (by rw [hk28_7]; decide) (by rw [hk28_7]; decide) (by rw [hk28_7]; rfl) (by decide) ?_
                    refine lv_aload_n F.1 F.2.1 dX3_numberOfAll_119 rfl (lv_at hl 1 rfl) ?_
                    refine jget F hT hW fw_X3_76 (oSrv hr) (by decide) (rSrv9 hr) dX3_numberOfAll_120 ?_
                    have hq : (S 0 9 : Int32) = p_X3_numberOfAll S wh := by
                      exact ((if_pos h1).trans ((if_neg hk28_0).trans ((if_neg hk28_1).trans ((if_neg hk28_2).trans ((if_neg hk28_3).trans ((if_neg hk28_4).trans ((if_neg hk28_5).trans ((if_neg hk28_6).trans (if_pos hk28_7))))))))).symm
                    exact jri F hr0 hlk hW rfl dX3_numberOfAll_123 ⟨hq, rfl⟩
                  · rcases Decidable.em (wh = 8) with hk28_8 | hk28_8
                    · refine lv_tableIn (off := 96) (tgt := 124) F.1 F.2.1 dX3_numberOfAll_28 (by rw [hk28_8]; decide) (by rw [hk28_8]; decide) (by rw [hk28_8]; rfl) (by decide) ?_
                      refine lv_aload_n F.1 F.2.1 dX3_numberOfAll_124 rfl (lv_at hl 1 rfl) ?_
                      refine jcip (jrunV (As := []) (rest := []) F hT hW yc_X3_missesOfAll yv_X3_missesOfAll ml_X3_205 (oSrv hr) (by decide) rfl (c_X3_missesOfAll l E μ r hr S (by first | assumption | omega)) rfl hl.1 ⟨Nat.le_of_ble_eq_true rfl, Nat.le_of_ble_eq_true rfl⟩ rfl (Nat.le_of_ble_eq_true rfl) ⟨Nat.le_refl _, Nat.le_refl _⟩ dX3_numberOfAll_125) hW (fun x4 H locs ex4 hW => ?_)
                      have hq : (x4 : Int32) = p_X3_numberOfAll S wh := by
                        subst ex4
                        exact ((if_pos h1).trans ((if_neg hk28_0).trans ((if_neg hk28_1).trans ((if_neg hk28_2).trans ((if_neg hk28_3).trans ((if_neg hk28_4).trans ((if_neg hk28_5).trans ((if_neg hk28_6).trans ((if_neg hk28_7).trans (if_pos hk28_8)))))))))).symm
                      exact jri F hr0 hlk hW rfl dX3_numberOfAll_128 ⟨hq, rfl⟩
                    · rcases Decidable.em (wh = 9) with hk28_9 | hk28_9
                      · refine lv_tableIn (off := 101) (tgt := 129) F.1 F.2.1 dX3_numberOfAll_28 (by rw [hk28_9]; decide) (by rw [hk28_9]; decide) (by rw [hk28_9]; rfl) (by decide) ?_
                        refine lv_aload_n F.1 F.2.1 dX3_numberOfAll_129 rfl (lv_at hl 1 rfl) ?_
                        refine jget F hT hW fw_X3_79 (oSrv hr) (by decide) (rSrv10 hr) dX3_numberOfAll_130 ?_
                        have hq : (S 0 10 : Int32) = p_X3_numberOfAll S wh := by
                          exact ((if_pos h1).trans ((if_neg hk28_0).trans ((if_neg hk28_1).trans ((if_neg hk28_2).trans ((if_neg hk28_3).trans ((if_neg hk28_4).trans ((if_neg hk28_5).trans ((if_neg hk28_6).trans ((if_neg hk28_7).trans ((if_neg hk28_8).trans (if_pos hk28_9))))))))))).symm
                        exact jri F hr0 hlk hW rfl dX3_numberOfAll_133 ⟨hq, rfl⟩
                      · refine lv_tableOut (tgt := 134) F.1 F.2.1 dX3_numberOfAll_28 (by have := lv_neT (a := 0) hk28_0 rfl; have := lv_neT (a := 1) hk28_1 rfl; have := lv_neT (a := 2) hk28_2 rfl; have := lv_neT (a := 3) hk28_3 rfl; have := lv_neT (a := 4) hk28_4 rfl; have := lv_neT (a := 5) hk28_5 rfl; have := lv_neT (a := 6) hk28_6 rfl; have := lv_neT (a := 7) hk28_7 rfl; have := lv_neT (a := 8) hk28_8 rfl; have := lv_neT (a := 9) hk28_9 rfl; omega) (by decide) ?_
                        refine lv_bipush (v := (-2)) F.1 F.2.1 dX3_numberOfAll_134 (by decide) ?_
                        have hq : ((-2) : Int32) = p_X3_numberOfAll S wh := by
                          exact ((if_pos h1).trans ((if_neg hk28_0).trans ((if_neg hk28_1).trans ((if_neg hk28_2).trans ((if_neg hk28_3).trans ((if_neg hk28_4).trans ((if_neg hk28_5).trans ((if_neg hk28_6).trans ((if_neg hk28_7).trans ((if_neg hk28_8).trans (if_neg hk28_9))))))))))).symm
                        exact jri F hr0 hlk hW rfl dX3_numberOfAll_136 ⟨hq, rfl⟩
  · refine lv_iload_n F.1 F.2.1 dX3_numberOfAll_11 rfl (lv_at hl 0 rfl) ?_
    refine lv_aload_n F.1 F.2.1 dX3_numberOfAll_12 rfl (lv_at hl 1 rfl) ?_
    refine jgetR F hT hW fw_X3_18 (oSrv hr) (by decide) (rSrv1 hr) dX3_numberOfAll_13 ?_
    refine jalen (t := 0) (n := 7) (ty := .int) (x := 7) F hT hW (oSet hr) rfl (by decide) dX3_numberOfAll_16 ?_
    refine lv_icmp_ge (tgt := 27) F.1 F.2.1 dX3_numberOfAll_17 (by decide) (fun h5 => ?_) (fun h5 => ?_)
    · refine lv_iload_n F.1 F.2.1 dX3_numberOfAll_27 rfl (lv_at hl 2 rfl) ?_
      rcases Decidable.em (wh = 0) with hk28_0 | hk28_0
      · refine lv_tableIn (off := 56) (tgt := 84) F.1 F.2.1 dX3_numberOfAll_28 (by rw [hk28_0]; decide) (by rw [hk28_0]; decide) (by rw [hk28_0]; rfl) (by decide) ?_
        refine lv_aload_n F.1 F.2.1 dX3_numberOfAll_84 rfl (lv_at hl 1 rfl) ?_
        refine jget F hT hW fw_X3_44 (oSrv hr) (by decide) (rSrv0 hr) dX3_numberOfAll_85 ?_
        have hq : (S 0 0 : Int32) = p_X3_numberOfAll S wh := by
          exact ((if_neg h1).trans ((if_pos h5).trans (if_pos hk28_0))).symm
        exact jri F hr0 hlk hW rfl dX3_numberOfAll_88 ⟨hq, rfl⟩
      · rcases Decidable.em (wh = 1) with hk28_1 | hk28_1
        · refine lv_tableIn (off := 61) (tgt := 89) F.1 F.2.1 dX3_numberOfAll_28 (by rw [hk28_1]; decide) (by rw [hk28_1]; decide) (by rw [hk28_1]; rfl) (by decide) ?_
          refine lv_aload_n F.1 F.2.1 dX3_numberOfAll_89 rfl (lv_at hl 1 rfl) ?_
          refine jget F hT hW fw_X3_54 (oSrv hr) (by decide) (rSrv3 hr) dX3_numberOfAll_90 ?_
          have hq : (S 0 3 : Int32) = p_X3_numberOfAll S wh := by
            exact ((if_neg h1).trans ((if_pos h5).trans ((if_neg hk28_0).trans (if_pos hk28_1)))).symm
          exact jri F hr0 hlk hW rfl dX3_numberOfAll_93 ⟨hq, rfl⟩
        · rcases Decidable.em (wh = 2) with hk28_2 | hk28_2
          · refine lv_tableIn (off := 66) (tgt := 94) F.1 F.2.1 dX3_numberOfAll_28 (by rw [hk28_2]; decide) (by rw [hk28_2]; decide) (by rw [hk28_2]; rfl) (by decide) ?_
            refine lv_aload_n F.1 F.2.1 dX3_numberOfAll_94 rfl (lv_at hl 1 rfl) ?_
            refine jget F hT hW fw_X3_61 (oSrv hr) (by decide) (rSrv5 hr) dX3_numberOfAll_95 ?_
            have hq : (S 0 5 : Int32) = p_X3_numberOfAll S wh := by
              exact ((if_neg h1).trans ((if_pos h5).trans ((if_neg hk28_0).trans ((if_neg hk28_1).trans (if_pos hk28_2))))).symm
            exact jri F hr0 hlk hW rfl dX3_numberOfAll_98 ⟨hq, rfl⟩
          · rcases Decidable.em (wh = 3) with hk28_3 | hk28_3
            · refine lv_tableIn (off := 71) (tgt := 99) F.1 F.2.1 dX3_numberOfAll_28 (by rw [hk28_3]; decide) (by rw [hk28_3]; decide) (by rw [hk28_3]; rfl) (by decide) ?_
              refine lv_aload_n F.1 F.2.1 dX3_numberOfAll_99 rfl (lv_at hl 1 rfl) ?_
              refine jget F hT hW fw_X3_67 (oSrv hr) (by decide) (rSrv7 hr) dX3_numberOfAll_100 ?_
              have hq : (S 0 7 : Int32) = p_X3_numberOfAll S wh := by
                exact ((if_neg h1).trans ((if_pos h5).trans ((if_neg hk28_0).trans ((if_neg hk28_1).trans ((if_neg hk28_2).trans (if_pos hk28_3)))))).symm
              exact jri F hr0 hlk hW rfl dX3_numberOfAll_103 ⟨hq, rfl⟩
            · rcases Decidable.em (wh = 4) with hk28_4 | hk28_4
              · refine lv_tableIn (off := 76) (tgt := 104) F.1 F.2.1 dX3_numberOfAll_28 (by rw [hk28_4]; decide) (by rw [hk28_4]; decide) (by rw [hk28_4]; rfl) (by decide) ?_
                refine lv_aload_n F.1 F.2.1 dX3_numberOfAll_104 rfl (lv_at hl 1 rfl) ?_
                refine jcip (jrunV (As := []) (rest := []) F hT hW yc_X3_waitingLines yv_X3_waitingLines ml_X3_202 (oSrv hr) (by decide) rfl (c_X3_waitingLines l E μ r hr S (by first | assumption | omega)) rfl hl.1 ⟨Nat.le_of_ble_eq_true rfl, Nat.le_of_ble_eq_true rfl⟩ rfl (Nat.le_of_ble_eq_true rfl) ⟨Nat.le_refl _, Nat.le_refl _⟩ dX3_numberOfAll_105) hW (fun x6 H locs ex6 hW => ?_)
                have hq : (x6 : Int32) = p_X3_numberOfAll S wh := by
                  subst ex6
                  exact ((if_neg h1).trans ((if_pos h5).trans ((if_neg hk28_0).trans ((if_neg hk28_1).trans ((if_neg hk28_2).trans ((if_neg hk28_3).trans (if_pos hk28_4))))))).symm
                exact jri F hr0 hlk hW rfl dX3_numberOfAll_108 ⟨hq, rfl⟩
              · rcases Decidable.em (wh = 5) with hk28_5 | hk28_5
                · refine lv_tableIn (off := 81) (tgt := 109) F.1 F.2.1 dX3_numberOfAll_28 (by rw [hk28_5]; decide) (by rw [hk28_5]; decide) (by rw [hk28_5]; rfl) (by decide) ?_
                  refine lv_aload_n F.1 F.2.1 dX3_numberOfAll_109 rfl (lv_at hl 1 rfl) ?_
                  refine jcip (jrunV (As := []) (rest := []) F hT hW yc_X3_foundLine yv_X3_foundLine ml_X3_167 (oSrv hr) (by decide) rfl (c_X3_foundLine l E μ r hr S (by first | assumption | omega)) rfl hl.1 ⟨Nat.le_of_ble_eq_true rfl, Nat.le_of_ble_eq_true rfl⟩ rfl (Nat.le_of_ble_eq_true rfl) ⟨Nat.le_refl _, Nat.le_refl _⟩ dX3_numberOfAll_110) hW (fun x7 H locs ex7 hW => ?_)
                  have hq : (x7 : Int32) = p_X3_numberOfAll S wh := by
                    subst ex7
                    exact ((if_neg h1).trans ((if_pos h5).trans ((if_neg hk28_0).trans ((if_neg hk28_1).trans ((if_neg hk28_2).trans ((if_neg hk28_3).trans ((if_neg hk28_4).trans (if_pos hk28_5)))))))).symm
                  exact jri F hr0 hlk hW rfl dX3_numberOfAll_113 ⟨hq, rfl⟩
                · rcases Decidable.em (wh = 6) with hk28_6 | hk28_6
                  · refine lv_tableIn (off := 86) (tgt := 114) F.1 F.2.1 dX3_numberOfAll_28 (by rw [hk28_6]; decide) (by rw [hk28_6]; decide) (by rw [hk28_6]; rfl) (by decide) ?_
                    refine lv_aload_n F.1 F.2.1 dX3_numberOfAll_114 rfl (lv_at hl 1 rfl) ?_
                    refine jget F hT hW fw_X3_73 (oSrv hr) (by decide) (rSrv8 hr) dX3_numberOfAll_115 ?_
                    have hq : (S 0 8 : Int32) = p_X3_numberOfAll S wh := by
                      exact ((if_neg h1).trans ((if_pos h5).trans ((if_neg hk28_0).trans ((if_neg hk28_1).trans ((if_neg hk28_2).trans ((if_neg hk28_3).trans ((if_neg hk28_4).trans ((if_neg hk28_5).trans (if_pos hk28_6))))))))).symm
                    exact jri F hr0 hlk hW rfl dX3_numberOfAll_118 ⟨hq, rfl⟩
                  · rcases Decidable.em (wh = 7) with hk28_7 | hk28_7
                    · refine lv_tableIn (off := 91) (tgt := 119) F.1 F.2.1 dX3_numberOfAll_28 (by rw [hk28_7]; decide) (by rw [hk28_7]; decide) (by rw [hk28_7]; rfl) (by decide) ?_
                      refine lv_aload_n F.1 F.2.1 dX3_numberOfAll_119 rfl (lv_at hl 1 rfl) ?_
                      refine jget F hT hW fw_X3_76 (oSrv hr) (by decide) (rSrv9 hr) dX3_numberOfAll_120 ?_
                      have hq : (S 0 9 : Int32) = p_X3_numberOfAll S wh := by
                        exact ((if_neg h1).trans ((if_pos h5).trans ((if_neg hk28_0).trans ((if_neg hk28_1).trans ((if_neg hk28_2).trans ((if_neg hk28_3).trans ((if_neg hk28_4).trans ((if_neg hk28_5).trans ((if_neg hk28_6).trans (if_pos hk28_7)))))))))).symm
                      exact jri F hr0 hlk hW rfl dX3_numberOfAll_123 ⟨hq, rfl⟩
                    · rcases Decidable.em (wh = 8) with hk28_8 | hk28_8
                      · refine lv_tableIn (off := 96) (tgt := 124) F.1 F.2.1 dX3_numberOfAll_28 (by rw [hk28_8]; decide) (by rw [hk28_8]; decide) (by rw [hk28_8]; rfl) (by decide) ?_
                        refine lv_aload_n F.1 F.2.1 dX3_numberOfAll_124 rfl (lv_at hl 1 rfl) ?_
                        refine jcip (jrunV (As := []) (rest := []) F hT hW yc_X3_missesOfAll yv_X3_missesOfAll ml_X3_205 (oSrv hr) (by decide) rfl (c_X3_missesOfAll l E μ r hr S (by first | assumption | omega)) rfl hl.1 ⟨Nat.le_of_ble_eq_true rfl, Nat.le_of_ble_eq_true rfl⟩ rfl (Nat.le_of_ble_eq_true rfl) ⟨Nat.le_refl _, Nat.le_refl _⟩ dX3_numberOfAll_125) hW (fun x8 H locs ex8 hW => ?_)
                        have hq : (x8 : Int32) = p_X3_numberOfAll S wh := by
                          subst ex8
                          exact ((if_neg h1).trans ((if_pos h5).trans ((if_neg hk28_0).trans ((if_neg hk28_1).trans ((if_neg hk28_2).trans ((if_neg hk28_3).trans ((if_neg hk28_4).trans ((if_neg hk28_5).trans ((if_neg hk28_6).trans ((if_neg hk28_7).trans (if_pos hk28_8))))))))))).symm
                        exact jri F hr0 hlk hW rfl dX3_numberOfAll_128 ⟨hq, rfl⟩
                      · rcases Decidable.em (wh = 9) with hk28_9 | hk28_9
                        · refine lv_tableIn (off := 101) (tgt := 129) F.1 F.2.1 dX3_numberOfAll_28 (by rw [hk28_9]; decide) (by rw [hk28_9]; decide) (by rw [hk28_9]; rfl) (by decide) ?_
                          refine lv_aload_n F.1 F.2.1 dX3_numberOfAll_129 rfl (lv_at hl 1 rfl) ?_
                          refine jget F hT hW fw_X3_79 (oSrv hr) (by decide) (rSrv10 hr) dX3_numberOfAll_130 ?_
                          have hq : (S 0 10 : Int32) = p_X3_numberOfAll S wh := by
                            exact ((if_neg h1).trans ((if_pos h5).trans ((if_neg hk28_0).trans ((if_neg hk28_1).trans ((if_neg hk28_2).trans ((if_neg hk28_3).trans ((if_neg hk28_4).trans ((if_neg hk28_5).trans ((if_neg hk28_6).trans ((if_neg hk28_7).trans ((if_neg hk28_8).trans (if_pos hk28_9)))))))))))).symm
                          exact jri F hr0 hlk hW rfl dX3_numberOfAll_133 ⟨hq, rfl⟩
                        · refine lv_tableOut (tgt := 134) F.1 F.2.1 dX3_numberOfAll_28 (by have := lv_neT (a := 0) hk28_0 rfl; have := lv_neT (a := 1) hk28_1 rfl; have := lv_neT (a := 2) hk28_2 rfl; have := lv_neT (a := 3) hk28_3 rfl; have := lv_neT (a := 4) hk28_4 rfl; have := lv_neT (a := 5) hk28_5 rfl; have := lv_neT (a := 6) hk28_6 rfl; have := lv_neT (a := 7) hk28_7 rfl; have := lv_neT (a := 8) hk28_8 rfl; have := lv_neT (a := 9) hk28_9 rfl; omega) (by decide) ?_
                          refine lv_bipush (v := (-2)) F.1 F.2.1 dX3_numberOfAll_134 (by decide) ?_
                          have hq : ((-2) : Int32) = p_X3_numberOfAll S wh := by
                            exact ((if_neg h1).trans ((if_pos h5).trans ((if_neg hk28_0).trans ((if_neg hk28_1).trans ((if_neg hk28_2).trans ((if_neg hk28_3).trans ((if_neg hk28_4).trans ((if_neg hk28_5).trans ((if_neg hk28_6).trans ((if_neg hk28_7).trans ((if_neg hk28_8).trans (if_neg hk28_9)))))))))))).symm
                          exact jri F hr0 hlk hW rfl dX3_numberOfAll_136 ⟨hq, rfl⟩
    · obtain ⟨hs1, hs2⟩ := sub12 (by assumption) (by assumption)
      refine lv_aload_n F.1 F.2.1 dX3_numberOfAll_20 rfl (lv_at hl 1 rfl) ?_
      refine jgetR F hT hW fw_X3_18 (oSrv hr) (by decide) (rSrv1 hr) dX3_numberOfAll_21 ?_
      refine lv_iload_n F.1 F.2.1 dX3_numberOfAll_24 rfl (lv_at hl 0 rfl) ?_
      refine jiald F hT hW (cn (wh - 12)) (oSet hr) (by omega) (by decide) hs1 (rSet hr) dX3_numberOfAll_25 ?_
      have hq : (S 1 (cn (wh - 12)) : Int32) = p_X3_numberOfAll S wh := by
        exact ((if_neg h1).trans (if_neg h5)).symm
      exact jri F hr0 hlk hW rfl dX3_numberOfAll_26 ⟨hq, rfl⟩

def q_X3_removeTimer_12 (S : Sv) (tm : Int32) (j : Nat) (σ : Sv) : Sv :=
  let S3 : Sv := σ
  let S5 : Sv := p_X5_copyFromS S3 (cn tm + j) (cn tm + j + 1)
  S5
def p_X3_removeTimer (S : Sv) (tm : Int32) : Int32 × Sv :=
  let x1 : Int32 := p_X3_hasTimer S tm
  if x1 = 0 then
    (((-1) : Int32), S)
  else
    let S3 : Sv := (itN (q_X3_removeTimer_12 S tm) (cn (S 0 5) - 1 - cn tm) (S))
    let S6 : Sv := us S3 0 5 ((S3 0 5) - 1)
    ((S6 0 5 : Int32), S6)

theorem fr_copyS {S : Sv} {i k2 p k : Nat} (h : ¬ p = 16 + i) : p_X5_copyFromS S i k2 p k = S p k := by simp [p_X5_copyFromS, us, h]
theorem rm_keep {S : Sv} {tm : Int32} : ∀ n p k, (p < 16) → itN (q_X3_removeTimer_12 S tm) n S p k = S p k := by
  intro n
  induction n with
  | zero => intro p k _; rfl
  | succ n ih =>
    intro p k hp
    rw [itN_s]
    unfold q_X3_removeTimer_12
    dsimp only
    rw [fr_copyS (by omega)]
    exact ih p k hp

set_option maxHeartbeats 4000000 in
set_option maxRecDepth 100000 in
theorem c_X3_removeTimer (l : Launch) (E : mE) (μ : Mu) (r : Nat) (hr : r < 11) (S : Sv) (tm : Int32) (ht : Bn (S 0 5) 6) : CtI l E yX3_removeTimer cX3_removeTimer 3 (some .int) 2 43 [.ref (ea E r 0), .int tm] (fo μ r S) (fun x μ' => x = (p_X3_removeTimer S tm).1 ∧ μ' = fo μ r (p_X3_removeTimer S tm).2) := by
  refine jMet (by decide +kernel) (Nat.le_of_ble_eq_true rfl) ?_
  intro p e s m below meth c ls F hT hr0 hlk hW hl
  have F : CallFix p m c cX3_removeTimer 3 s _ TB RX3 := F
  have hl : lv_has ls 3 [(0, .ref (ea E r 0)), (1, .int tm)] := hl
  refine lv_aload_n F.1 F.2.1 dX3_removeTimer_0 rfl (lv_at hl 0 rfl) ?_
  refine lv_iload_n F.1 F.2.1 dX3_removeTimer_1 rfl (lv_at hl 1 rfl) ?_
  refine jcip (jrunV (As := [.int tm]) (rest := []) F hT hW yc_X3_hasTimer yv_X3_hasTimer ml_X3_123 (oSrv hr) (by decide) rfl (c_X3_hasTimer l E μ r hr S tm) rfl hl.1 ⟨Nat.le_of_ble_eq_true rfl, Nat.le_of_ble_eq_true rfl⟩ rfl (Nat.le_of_ble_eq_true rfl) ⟨Nat.le_refl _, Nat.le_refl _⟩ dX3_removeTimer_2) hW (fun x1 H locs ex1 hW => ?_)
  refine lv_if_ne (tgt := 10) F.1 F.2.1 dX3_removeTimer_5 (by decide) (fun h2 => ?_) (fun h2 => ?_)
  · obtain ⟨hl1, hl2⟩ := wL (a := tm) ht (by decide) (by assumption) (by assumption)
    have ht2 := ht.2
    refine lv_iload_n F.1 F.2.1 dX3_removeTimer_10 rfl (lv_at hl 1 rfl) ?_
    refine lv_istore_n (lv' := [(2, .int tm), (0, .ref (ea E r 0)), (1, .int tm)]) F.1 F.2.1 dX3_removeTimer_11 rfl hl (by decide) rfl (fun ls hl => ?_)
    have hL4 : ∀ (fu j : Nat) (S3 : Sv) (H : Heap) (locs : List Loc) (ls : Array Slot), j + fu = cn (S 0 5) - 1 - cn tm → (S3) = itN (q_X3_removeTimer_12 S tm) j (S) → Wd E s H locs (fo μ r S3) → lv_has ls 3 [(2, .int (nI (cn tm + j))), (0, .ref (ea E r 0)), (1, .int tm)] → W p l e (rmO 2 43) s m ([.ref (ea E r 0), .int tm] : List Value).toArray below meth c H locs 0 0 (MQ below (va_Qi (fun x μ' => x = (p_X3_removeTimer S tm).1 ∧ μ' = fo μ r (p_X3_removeTimer S tm).2) (fun μ' t => MB E μ' t.heap) (AA E)) ([.ref (ea E r 0), .int tm] : List Value).toArray s 0 0 (AA E)) (F0 m 12 ls []) := by
      intro fu
      induction fu with
      | zero =>
        intro j S3 H locs ls hj hs  hW hl
        obtain rfl : j = cn (S 0 5) - 1 - cn tm := by omega
        have eS3 := hs
        have hk5 := rm_keep (S := S) (tm := tm) (cn (S 0 5) - 1 - cn tm) 0 5 (by omega)
        rw [← hs] at hk5
        refine lv_iload_n F.1 F.2.1 dX3_removeTimer_12 rfl (lv_at hl 0 rfl) ?_
        refine lv_iconst (v := 1) F.1 F.2.1 dX3_removeTimer_13 (by decide) ?_
        refine lv_iadd F.1 F.2.1 dX3_removeTimer_14 ?_
        refine lv_aload_n F.1 F.2.1 dX3_removeTimer_15 rfl (lv_at hl 1 rfl) ?_
        refine jget F hT hW fw_X3_61 (oSrv hr) (by decide) (rSrv5 hr) dX3_removeTimer_16 ?_
        refine lv_icmp_ge (tgt := 45) F.1 F.2.1 dX3_removeTimer_19 (by decide) (fun h5 => ?_) (fun h5 => ?_)
        · refine lv_aload_n F.1 F.2.1 dX3_removeTimer_45 rfl (lv_at hl 1 rfl) ?_
          refine lv_dup F.1 F.2.1 dX3_removeTimer_46 rfl ?_
          refine jget F hT hW fw_X3_61 (oSrv hr) (by decide) (rSrv5 hr) dX3_removeTimer_47 ?_
          refine lv_iconst (v := 1) F.1 F.2.1 dX3_removeTimer_50 (by decide) ?_
          refine lv_isub F.1 F.2.1 dX3_removeTimer_51 ?_
          refine jput F hT hW fw_X3_61 ft_3_5 (oSrv hr) (by decide) (rn12 hr) (rSrv5 hr) rfl rfl dX3_removeTimer_52 (fun S6 H locs eS6 hW => ?_)
          refine lv_aload_n F.1 F.2.1 dX3_removeTimer_55 rfl (lv_at hl 1 rfl) ?_
          refine jget F hT hW fw_X3_61 (oSrv hr) (by decide) (rSrv5 hr) dX3_removeTimer_56 ?_
          have hq : ((S6 0 5 : Int32), S6) = p_X3_removeTimer S tm := by
            subst eS6
            subst eS3
            subst ex1
            exact (if_neg h2).symm
          exact jri F hr0 hlk hW rfl dX3_removeTimer_59 ⟨congrArg Prod.fst hq, congrArg (fun z => fo μ r z.2) hq⟩
        · exact absurd (c_le (hk5.trans ht.1) (ia rfl (lI 1)) (by omega) (by omega)) h5
      | succ fu ih =>
        intro j S3 H locs ls hj hs  hW hl
        have hk5 := rm_keep (S := S) (tm := tm) j 0 5 (by omega)
        rw [← hs] at hk5
        refine lv_iload_n F.1 F.2.1 dX3_removeTimer_12 rfl (lv_at hl 0 rfl) ?_
        refine lv_iconst (v := 1) F.1 F.2.1 dX3_removeTimer_13 (by decide) ?_
        refine lv_iadd F.1 F.2.1 dX3_removeTimer_14 ?_
        refine lv_aload_n F.1 F.2.1 dX3_removeTimer_15 rfl (lv_at hl 1 rfl) ?_
        refine jget F hT hW fw_X3_61 (oSrv hr) (by decide) (rSrv5 hr) dX3_removeTimer_16 ?_
        refine lv_icmp_ge (tgt := 45) F.1 F.2.1 dX3_removeTimer_19 (by decide) (fun h4 => ?_) (fun h4 => ?_)
        · exact absurd h4 (c_nle (hk5.trans ht.1) (ia rfl (lI 1)) (by omega) (by omega))
        · refine lv_aload_n F.1 F.2.1 dX3_removeTimer_22 rfl (lv_at hl 1 rfl) ?_
          refine jgetR F hT hW fw_X3_32 (oSrv hr) (by decide) (rSrv4 hr) dX3_removeTimer_23 ?_
          refine lv_iload_n F.1 F.2.1 dX3_removeTimer_26 rfl (lv_at hl 0 rfl) ?_
          refine jaald (t := 4) (C := RX5) F hT hW (cn tm + j) (oTms hr) rfl (by omega) (by decide) rfl (rTms hr) dX3_removeTimer_27 ?_
          refine lv_aload_n F.1 F.2.1 dX3_removeTimer_28 rfl (lv_at hl 1 rfl) ?_
          refine jgetR F hT hW fw_X3_32 (oSrv hr) (by decide) (rSrv4 hr) dX3_removeTimer_29 ?_
          refine lv_iload_n F.1 F.2.1 dX3_removeTimer_32 rfl (lv_at hl 0 rfl) ?_
          refine lv_iconst (v := 1) F.1 F.2.1 dX3_removeTimer_33 (by decide) ?_
          refine lv_iadd F.1 F.2.1 dX3_removeTimer_34 ?_
          refine jaald (t := 4) (C := RX5) F hT hW (cn tm + j + 1) (oTms hr) rfl (by omega) (by decide) (ia rfl (lI 1)) (rTms hr) dX3_removeTimer_35 ?_
          refine jcvf (jrunV (As := [.ref (ea E r (16 + (cn tm + j + 1)))]) (rest := []) F hT hW yc_X5_copyFrom yv_X5_copyFrom ml_X3_64 (oTim hr (by omega)) (by decide) rfl (c_X5_copyFromS l E μ r hr S3 (cn tm + j) (cn tm + j + 1) (by first | assumption | omega) (by first | assumption | omega)) rfl hl.1 ⟨Nat.le_of_ble_eq_true rfl, Nat.le_of_ble_eq_true rfl⟩ rfl (Nat.le_of_ble_eq_true rfl) ⟨Nat.le_refl _, Nat.le_refl _⟩ dX3_removeTimer_36) hW (fun S5 H locs eS5 hW => ?_)
          refine lv_iinc (v := nI (cn tm + j + 1)) (lv' := [(2, .int (nI (cn tm + j + 1))), (0, .ref (ea E r 0)), (1, .int tm)]) F.1 F.2.1 dX3_removeTimer_39 hl (k := 0) rfl (ia rfl rfl) (by decide) rfl (fun ls hl => ?_)
          refine lv_goto (tgt := 12) F.1 F.2.1 dX3_removeTimer_42 (by decide) ?_
          subst eS5
          exact ih (j + 1) _ _ _ _ (by omega) (by rw [itN_s, ← hs]; exact (rfl).symm) hW (lv_sub hl [0, 1, 2] rfl)
    exact hL4 (cn (S 0 5) - 1 - cn tm) 0 S _ _ _ (by omega) rfl hW (lv_sub hl [0, 1, 2] (by simp only [Nat.add_zero]; rw [← hl1]; rfl))
  · refine lv_iconst (v := (-1)) F.1 F.2.1 dX3_removeTimer_8 (by decide) ?_
    have hq : (((-1) : Int32), S) = p_X3_removeTimer S tm := by
      subst ex1
      exact (if_pos h2).symm
    exact jri F hr0 hlk hW rfl dX3_removeTimer_9 ⟨congrArg Prod.fst hq, congrArg (fun z => fo μ r z.2) hq⟩

def q_X3_copyFrom_36 (S : Sv) (T : Sv) (j : Nat) (σ : Sv) : Sv :=
  let S4 : Sv := σ
  let S6 : Sv := p_X1_copyFromO S4 j T
  S6
def q_X3_copyFrom_75 (S : Sv) (T : Sv) (j : Nat) (σ : Sv) : Sv :=
  let S8 : Sv := σ
  let S10 : Sv := p_X5_copyFromO S8 j T
  S10
def q_X3_copyFrom_114 (S : Sv) (T : Sv) (j : Nat) (σ : Sv) : Sv :=
  let S12 : Sv := σ
  let S14 : Sv := p_X4_copyFromO S12 j T
  S14
def p_X3_copyFrom (S : Sv) (T : Sv) : Sv :=
  let S1 : Sv := us S 0 0 (T 0 0)
  let S2 : Sv := cpS S1 T
  let S3 : Sv := us S2 0 3 (T 0 3)
  let S4 : Sv := (itN (q_X3_copyFrom_36 S T) (cn (T 0 3)) (S3))
  let S7 : Sv := us S4 0 5 (T 0 5)
  let S8 : Sv := (itN (q_X3_copyFrom_75 S T) (cn (T 0 5)) (S7))
  let S11 : Sv := us S8 0 7 (T 0 7)
  let S12 : Sv := (itN (q_X3_copyFrom_114 S T) (cn (T 0 7)) (S11))
  let S15 : Sv := us S12 0 8 (T 0 8)
  let S16 : Sv := us S15 0 9 (T 0 9)
  let S17 : Sv := us S16 0 10 (T 0 10)
  S17

theorem fr_copyO1 {S T : Sv} {i p k : Nat} (h : ¬ p = 3 + i) : p_X1_copyFromO S i T p k = S p k := by simp [p_X1_copyFromO, us, h]
theorem fr_copyO5 {S T : Sv} {i p k : Nat} (h : ¬ p = 16 + i) : p_X5_copyFromO S i T p k = S p k := by simp [p_X5_copyFromO, us, h]
theorem fr_copyO4 {S T : Sv} {i p k : Nat} (h : ¬ p = 23 + i) : p_X4_copyFromO S i T p k = S p k := by simp [p_X4_copyFromO, us, h]
theorem cp36_keep {S T S0 : Sv} : ∀ n, n ≤ 12 → ∀ p k, ¬ (3 ≤ p ∧ p < 15) → itN (q_X3_copyFrom_36 S T) n S0 p k = S0 p k := by
  intro n
  induction n with
  | zero => intro _ p k _; rfl
  | succ n ih =>
    intro hn p k hp
    rw [itN_s]
    unfold q_X3_copyFrom_36
    dsimp only
    rw [fr_copyO1 (by omega)]
    exact ih (by omega) p k hp
theorem cp75_keep {S T S0 : Sv} : ∀ n, n ≤ 6 → ∀ p k, ¬ (16 ≤ p ∧ p < 22) → itN (q_X3_copyFrom_75 S T) n S0 p k = S0 p k := by
  intro n
  induction n with
  | zero => intro _ p k _; rfl
  | succ n ih =>
    intro hn p k hp
    rw [itN_s]
    unfold q_X3_copyFrom_75
    dsimp only
    rw [fr_copyO5 (by omega)]
    exact ih (by omega) p k hp
theorem cp114_keep {S T S0 : Sv} : ∀ n, n ≤ 8 → ∀ p k, ¬ (23 ≤ p ∧ p < 31) → itN (q_X3_copyFrom_114 S T) n S0 p k = S0 p k := by
  intro n
  induction n with
  | zero => intro _ p k _; rfl
  | succ n ih =>
    intro hn p k hp
    rw [itN_s]
    unfold q_X3_copyFrom_114
    dsimp only
    rw [fr_copyO4 (by omega)]
    exact ih (by omega) p k hp

set_option maxHeartbeats 4000000 in
set_option maxRecDepth 100000 in
theorem c_X3_copyFrom (l : Launch) (E : mE) (μ : Mu) (r : Nat) (hr : r < 11) (S : Sv) (r2 : Nat) (T : Sv) (hr2 : r2 < 11) (hne : r2 ≠ r) (hT2 : μ r2 = T) (hn : Bn (T 0 3) 12) (ht : Bn (T 0 5) 6) (hd : Bn (T 0 7) 8) (hB : ∀ i, i < 12 → (T (3 + i) 3 = 0 ∨ T (3 + i) 3 = 1) ∧ (T (3 + i) 4 = 0 ∨ T (3 + i) 4 = 1) ∧ (T (3 + i) 5 = 0 ∨ T (3 + i) 5 = 1)) : CtV l E yX3_copyFrom cX3_copyFrom 3 1 21 [.ref (ea E r 0), .ref (ea E r2 0)] (fo μ r S) (fun μ' => μ' = fo μ r (p_X3_copyFrom S T)) := by
  refine jMet (by decide +kernel) (Nat.le_of_ble_eq_true rfl) ?_
  intro p e s m below meth c ls F hT hr0 hlk hW hl
  have F : CallFix p m c cX3_copyFrom 3 s _ TB RX3 := F
  have hl : lv_has ls 3 [(0, .ref (ea E r 0)), (1, .ref (ea E r2 0))] := hl
  have hn2 := hn.2
  have ht2 := ht.2
  have hd2 := hd.2
  refine lv_aload_n F.1 F.2.1 dX3_copyFrom_0 rfl (lv_at hl 0 rfl) ?_
  refine lv_aload_n F.1 F.2.1 dX3_copyFrom_1 rfl (lv_at hl 1 rfl) ?_
  refine jgetG F hT hW fw_X3_44 (oSrv hr2) (by decide) (rSrv0 hr2) (v := T 0 0) (by rw [fo_ne _ _ hne, hT2]) dX3_copyFrom_2 ?_
  refine jput F hT hW fw_X3_44 ft_3_0 (oSrv hr) (by decide) (rn12 hr) (rSrv0 hr) rfl rfl dX3_copyFrom_5 (fun S1 H locs eS1 hW => ?_)
  refine lv_aload_n F.1 F.2.1 dX3_copyFrom_8 rfl (lv_at hl 1 rfl) ?_
  refine jgetR F hT hW fw_X3_18 (oSrv hr2) (by decide) (rSrv1 hr2) dX3_copyFrom_9 ?_
  refine lv_iconst (v := 0) F.1 F.2.1 dX3_copyFrom_12 (by decide) ?_
  refine lv_aload_n F.1 F.2.1 dX3_copyFrom_13 rfl (lv_at hl 0 rfl) ?_
  refine jgetR F hT hW fw_X3_18 (oSrv hr) (by decide) (rSrv1 hr) dX3_copyFrom_14 ?_
  refine lv_iconst (v := 0) F.1 F.2.1 dX3_copyFrom_17 (by decide) ?_
  refine lv_aload_n F.1 F.2.1 dX3_copyFrom_18 rfl (lv_at hl 0 rfl) ?_
  refine jgetR F hT hW fw_X3_18 (oSrv hr) (by decide) (rSrv1 hr) dX3_copyFrom_19 ?_
  refine jalen (t := 0) (n := 7) (ty := .int) (x := 7) F hT hW (oSet hr) rfl (by decide) dX3_copyFrom_22 ?_
  refine jcopy7 F hT hW hr hr2 hne hT2 hl.1 (Nat.le_of_ble_eq_true rfl) (Nat.le_of_ble_eq_true rfl) ml_X3_48 dX3_copyFrom_23 (fun S2 H locs eS2 hW => ?_)
  refine lv_aload_n F.1 F.2.1 dX3_copyFrom_26 rfl (lv_at hl 0 rfl) ?_
  refine lv_aload_n F.1 F.2.1 dX3_copyFrom_27 rfl (lv_at hl 1 rfl) ?_
  refine jgetG F hT hW fw_X3_54 (oSrv hr2) (by decide) (rSrv3 hr2) (v := T 0 3) (by rw [fo_ne _ _ hne, hT2]) dX3_copyFrom_28 ?_
  refine jput F hT hW fw_X3_54 ft_3_3 (oSrv hr) (by decide) (rn12 hr) (rSrv3 hr) rfl rfl dX3_copyFrom_31 (fun S3 H locs eS3 hW => ?_)
  refine lv_iconst (v := 0) F.1 F.2.1 dX3_copyFrom_34 (by decide) ?_
  refine lv_istore_n (lv' := [(2, .int 0), (0, .ref (ea E r 0)), (1, .ref (ea E r2 0))]) F.1 F.2.1 dX3_copyFrom_35 rfl hl (by decide) rfl (fun ls hl => ?_)
  have hL5 : ∀ (fu j : Nat) (S4 : Sv) (H : Heap) (locs : List Loc) (ls : Array Slot), j + fu = cn (T 0 3) → (S4) = itN (q_X3_copyFrom_36 S T) j (S3) → Wd E s H locs (fo μ r S4) → lv_has ls 3 [(2, .int (nI j)), (0, .ref (ea E r 0)), (1, .ref (ea E r2 0))] → W p l e (rmO 1 21) s m ([.ref (ea E r 0), .ref (ea E r2 0)] : List Value).toArray below meth c H locs 0 0 (MQ below (va_Qv (fun μ' => μ' = fo μ r (p_X3_copyFrom S T)) (fun μ' t => MB E μ' t.heap) (AA E)) ([.ref (ea E r 0), .ref (ea E r2 0)] : List Value).toArray s 0 0 (AA E)) (F0 m 36 ls []) := by
    intro fu
    induction fu with
    | zero =>
      intro j S4 H locs ls hj hs  hW hl
      obtain rfl : j = cn (T 0 3) := by omega
      have eS4 := hs
      have hk : S4 0 3 = T 0 3 := by rw [hs, cp36_keep _ (by omega) 0 3 (by omega), eS3]; exact us_at _ _ _ _
      refine lv_iload_n F.1 F.2.1 dX3_copyFrom_36 rfl (lv_at hl 0 rfl) ?_
      refine lv_aload_n F.1 F.2.1 dX3_copyFrom_37 rfl (lv_at hl 1 rfl) ?_
      refine jget F hT hW fw_X3_54 (oSrv hr) (by decide) (rSrv3 hr) dX3_copyFrom_38 ?_
      refine lv_icmp_ge (tgt := 65) F.1 F.2.1 dX3_copyFrom_41 (by decide) (fun h6 => ?_) (fun h6 => ?_)
      · refine lv_aload_n F.1 F.2.1 dX3_copyFrom_65 rfl (lv_at hl 1 rfl) ?_
        refine lv_aload_n F.1 F.2.1 dX3_copyFrom_66 rfl (lv_at hl 2 rfl) ?_
        refine jgetG F hT hW fw_X3_61 (oSrv hr2) (by decide) (rSrv5 hr2) (v := T 0 5) (by rw [fo_ne _ _ hne, hT2]) dX3_copyFrom_67 ?_
        refine jput F hT hW fw_X3_61 ft_3_5 (oSrv hr) (by decide) (rn12 hr) (rSrv5 hr) rfl rfl dX3_copyFrom_70 (fun S7 H locs eS7 hW => ?_)
        refine lv_iconst (v := 0) F.1 F.2.1 dX3_copyFrom_73 (by decide) ?_
        refine lv_istore_n (lv' := [(2, .int 0), (0, .ref (ea E r 0)), (1, .ref (ea E r2 0))]) F.1 F.2.1 dX3_copyFrom_74 rfl hl (by decide) rfl (fun ls hl => ?_)
        have hL9 : ∀ (fu j : Nat) (S8 : Sv) (H : Heap) (locs : List Loc) (ls : Array Slot), j + fu = cn (T 0 5) → (S8) = itN (q_X3_copyFrom_75 S T) j (S7) → Wd E s H locs (fo μ r S8) → lv_has ls 3 [(2, .int (nI j)), (0, .ref (ea E r 0)), (1, .ref (ea E r2 0))] → W p l e (rmO 1 21) s m ([.ref (ea E r 0), .ref (ea E r2 0)] : List Value).toArray below meth c H locs 0 0 (MQ below (va_Qv (fun μ' => μ' = fo μ r (p_X3_copyFrom S T)) (fun μ' t => MB E μ' t.heap) (AA E)) ([.ref (ea E r 0), .ref (ea E r2 0)] : List Value).toArray s 0 0 (AA E)) (F0 m 75 ls []) := by
          intro fu
          induction fu with
          | zero =>
            intro j S8 H locs ls hj hs  hW hl
            obtain rfl : j = cn (T 0 5) := by omega
            have eS8 := hs
            have hk : S8 0 5 = T 0 5 := by rw [hs, cp75_keep _ (by omega) 0 5 (by omega), eS7]; exact us_at _ _ _ _
            refine lv_iload_n F.1 F.2.1 dX3_copyFrom_75 rfl (lv_at hl 0 rfl) ?_
            refine lv_aload_n F.1 F.2.1 dX3_copyFrom_76 rfl (lv_at hl 1 rfl) ?_
            refine jget F hT hW fw_X3_61 (oSrv hr) (by decide) (rSrv5 hr) dX3_copyFrom_77 ?_
            refine lv_icmp_ge (tgt := 104) F.1 F.2.1 dX3_copyFrom_80 (by decide) (fun h10 => ?_) (fun h10 => ?_)
            · refine lv_aload_n F.1 F.2.1 dX3_copyFrom_104 rfl (lv_at hl 1 rfl) ?_
              refine lv_aload_n F.1 F.2.1 dX3_copyFrom_105 rfl (lv_at hl 2 rfl) ?_
              refine jgetG F hT hW fw_X3_67 (oSrv hr2) (by decide) (rSrv7 hr2) (v := T 0 7) (by rw [fo_ne _ _ hne, hT2]) dX3_copyFrom_106 ?_
              refine jput F hT hW fw_X3_67 ft_3_7 (oSrv hr) (by decide) (rn12 hr) (rSrv7 hr) rfl rfl dX3_copyFrom_109 (fun S11 H locs eS11 hW => ?_)
              refine lv_iconst (v := 0) F.1 F.2.1 dX3_copyFrom_112 (by decide) ?_
              refine lv_istore_n (lv' := [(2, .int 0), (0, .ref (ea E r 0)), (1, .ref (ea E r2 0))]) F.1 F.2.1 dX3_copyFrom_113 rfl hl (by decide) rfl (fun ls hl => ?_)
              have hL13 : ∀ (fu j : Nat) (S12 : Sv) (H : Heap) (locs : List Loc) (ls : Array Slot), j + fu = cn (T 0 7) → (S12) = itN (q_X3_copyFrom_114 S T) j (S11) → Wd E s H locs (fo μ r S12) → lv_has ls 3 [(2, .int (nI j)), (0, .ref (ea E r 0)), (1, .ref (ea E r2 0))] → W p l e (rmO 1 21) s m ([.ref (ea E r 0), .ref (ea E r2 0)] : List Value).toArray below meth c H locs 0 0 (MQ below (va_Qv (fun μ' => μ' = fo μ r (p_X3_copyFrom S T)) (fun μ' t => MB E μ' t.heap) (AA E)) ([.ref (ea E r 0), .ref (ea E r2 0)] : List Value).toArray s 0 0 (AA E)) (F0 m 114 ls []) := by
                intro fu
                induction fu with
                | zero =>
                  intro j S12 H locs ls hj hs  hW hl
                  obtain rfl : j = cn (T 0 7) := by omega
                  have eS12 := hs
                  have hk : S12 0 7 = T 0 7 := by rw [hs, cp114_keep _ (by omega) 0 7 (by omega), eS11]; exact us_at _ _ _ _
                  refine lv_iload_n F.1 F.2.1 dX3_copyFrom_114 rfl (lv_at hl 0 rfl) ?_
                  refine lv_aload_n F.1 F.2.1 dX3_copyFrom_115 rfl (lv_at hl 1 rfl) ?_
                  refine jget F hT hW fw_X3_67 (oSrv hr) (by decide) (rSrv7 hr) dX3_copyFrom_116 ?_
                  refine lv_icmp_ge (tgt := 143) F.1 F.2.1 dX3_copyFrom_119 (by decide) (fun h14 => ?_) (fun h14 => ?_)
                  · refine lv_aload_n F.1 F.2.1 dX3_copyFrom_143 rfl (lv_at hl 1 rfl) ?_
                    refine lv_aload_n F.1 F.2.1 dX3_copyFrom_144 rfl (lv_at hl 2 rfl) ?_
                    refine jgetG F hT hW fw_X3_73 (oSrv hr2) (by decide) (rSrv8 hr2) (v := T 0 8) (by rw [fo_ne _ _ hne, hT2]) dX3_copyFrom_145 ?_
                    refine jput F hT hW fw_X3_73 ft_3_8 (oSrv hr) (by decide) (rn12 hr) (rSrv8 hr) rfl rfl dX3_copyFrom_148 (fun S15 H locs eS15 hW => ?_)
                    refine lv_aload_n F.1 F.2.1 dX3_copyFrom_151 rfl (lv_at hl 1 rfl) ?_
                    refine lv_aload_n F.1 F.2.1 dX3_copyFrom_152 rfl (lv_at hl 2 rfl) ?_
                    refine jgetG F hT hW fw_X3_76 (oSrv hr2) (by decide) (rSrv9 hr2) (v := T 0 9) (by rw [fo_ne _ _ hne, hT2]) dX3_copyFrom_153 ?_
                    refine jput F hT hW fw_X3_76 ft_3_9 (oSrv hr) (by decide) (rn12 hr) (rSrv9 hr) rfl rfl dX3_copyFrom_156 (fun S16 H locs eS16 hW => ?_)
                    refine lv_aload_n F.1 F.2.1 dX3_copyFrom_159 rfl (lv_at hl 1 rfl) ?_
                    refine lv_aload_n F.1 F.2.1 dX3_copyFrom_160 rfl (lv_at hl 2 rfl) ?_
                    refine jgetG F hT hW fw_X3_79 (oSrv hr2) (by decide) (rSrv10 hr2) (v := T 0 10) (by rw [fo_ne _ _ hne, hT2]) dX3_copyFrom_161 ?_
                    refine jput F hT hW fw_X3_79 ft_3_10 (oSrv hr) (by decide) (rn12 hr) (rSrv10 hr) rfl rfl dX3_copyFrom_164 (fun S17 H locs eS17 hW => ?_)
                    have hq : S17 = p_X3_copyFrom S T := by
                      subst eS17
                      subst eS16
                      subst eS15
                      subst eS12
                      subst eS11
                      subst eS8
                      subst eS7
                      subst eS4
                      subst eS3
                      subst eS2
                      subst eS1
                      exact (rfl).symm
                    exact jrv F hr0 hlk hW dX3_copyFrom_167 (congrArg (fun z => fo μ r z) hq)
                  · exact absurd (c_le (hk.trans hd.1) rfl (by omega) (by omega)) h14
                | succ fu ih =>
                  intro j S12 H locs ls hj hs  hW hl
                  have hk : S12 0 7 = T 0 7 := by rw [hs, cp114_keep _ (by omega) 0 7 (by omega), eS11]; exact us_at _ _ _ _
                  refine lv_iload_n F.1 F.2.1 dX3_copyFrom_114 rfl (lv_at hl 0 rfl) ?_
                  refine lv_aload_n F.1 F.2.1 dX3_copyFrom_115 rfl (lv_at hl 1 rfl) ?_
                  refine jget F hT hW fw_X3_67 (oSrv hr) (by decide) (rSrv7 hr) dX3_copyFrom_116 ?_
                  refine lv_icmp_ge (tgt := 143) F.1 F.2.1 dX3_copyFrom_119 (by decide) (fun h13 => ?_) (fun h13 => ?_)
                  · exact absurd h13 (c_nle (hk.trans hd.1) rfl (by omega) (by omega))
                  · refine lv_aload_n F.1 F.2.1 dX3_copyFrom_122 rfl (lv_at hl 1 rfl) ?_
                    refine jgetR F hT hW fw_X3_39 (oSrv hr) (by decide) (rSrv6 hr) dX3_copyFrom_123 ?_
                    refine lv_iload_n F.1 F.2.1 dX3_copyFrom_126 rfl (lv_at hl 0 rfl) ?_
                    refine jaald (t := 5) (C := RX4) F hT hW j (oNst hr) rfl (by omega) (by decide) rfl (rNst hr) dX3_copyFrom_127 ?_
                    refine lv_aload_n F.1 F.2.1 dX3_copyFrom_128 rfl (lv_at hl 2 rfl) ?_
                    refine jgetR F hT hW fw_X3_39 (oSrv hr2) (by decide) (rSrv6 hr2) dX3_copyFrom_129 ?_
                    refine lv_iload_n F.1 F.2.1 dX3_copyFrom_132 rfl (lv_at hl 0 rfl) ?_
                    refine jaald (t := 5) (C := RX4) F hT hW j (oNst hr2) rfl (by omega) (by decide) rfl (rNst hr2) dX3_copyFrom_133 ?_
                    refine jcvf (jrunV (As := [.ref (ea E r2 (23 + j))]) (rest := []) F hT hW yc_X4_copyFrom yv_X4_copyFrom ml_X3_70 (oSvc hr (by omega)) (by decide) rfl (c_X4_copyFromO l E μ r hr S12 j r2 T (by first | assumption | omega) (by first | assumption | omega) (by first | assumption | omega) (by first | assumption | omega)) rfl hl.1 ⟨Nat.le_of_ble_eq_true rfl, Nat.le_of_ble_eq_true rfl⟩ rfl (Nat.le_of_ble_eq_true rfl) ⟨Nat.le_refl _, Nat.le_refl _⟩ dX3_copyFrom_134) hW (fun S14 H locs eS14 hW => ?_)
                    refine lv_iinc (v := nI (j + 1)) (lv' := [(2, .int (nI (j + 1))), (0, .ref (ea E r 0)), (1, .ref (ea E r2 0))]) F.1 F.2.1 dX3_copyFrom_137 hl (k := 0) rfl (ia rfl rfl) (by decide) rfl (fun ls hl => ?_)
                    refine lv_goto (tgt := 114) F.1 F.2.1 dX3_copyFrom_140 (by decide) ?_
                    subst eS14
                    exact ih (j + 1) _ _ _ _ (by omega) (by rw [itN_s, ← hs]; exact (rfl).symm) hW (lv_sub hl [0, 1, 2] rfl)
              exact hL13 (cn (T 0 7)) 0 S11 _ _ _ (by omega) rfl hW (lv_sub hl [0, 1, 2] rfl)
            · exact absurd (c_le (hk.trans ht.1) rfl (by omega) (by omega)) h10
          | succ fu ih =>
            intro j S8 H locs ls hj hs  hW hl
            have hk : S8 0 5 = T 0 5 := by rw [hs, cp75_keep _ (by omega) 0 5 (by omega), eS7]; exact us_at _ _ _ _
            refine lv_iload_n F.1 F.2.1 dX3_copyFrom_75 rfl (lv_at hl 0 rfl) ?_
            refine lv_aload_n F.1 F.2.1 dX3_copyFrom_76 rfl (lv_at hl 1 rfl) ?_
            refine jget F hT hW fw_X3_61 (oSrv hr) (by decide) (rSrv5 hr) dX3_copyFrom_77 ?_
            refine lv_icmp_ge (tgt := 104) F.1 F.2.1 dX3_copyFrom_80 (by decide) (fun h9 => ?_) (fun h9 => ?_)
            · exact absurd h9 (c_nle (hk.trans ht.1) rfl (by omega) (by omega))
            · refine lv_aload_n F.1 F.2.1 dX3_copyFrom_83 rfl (lv_at hl 1 rfl) ?_
              refine jgetR F hT hW fw_X3_32 (oSrv hr) (by decide) (rSrv4 hr) dX3_copyFrom_84 ?_
              refine lv_iload_n F.1 F.2.1 dX3_copyFrom_87 rfl (lv_at hl 0 rfl) ?_
              refine jaald (t := 4) (C := RX5) F hT hW j (oTms hr) rfl (by omega) (by decide) rfl (rTms hr) dX3_copyFrom_88 ?_
              refine lv_aload_n F.1 F.2.1 dX3_copyFrom_89 rfl (lv_at hl 2 rfl) ?_
              refine jgetR F hT hW fw_X3_32 (oSrv hr2) (by decide) (rSrv4 hr2) dX3_copyFrom_90 ?_
              refine lv_iload_n F.1 F.2.1 dX3_copyFrom_93 rfl (lv_at hl 0 rfl) ?_
              refine jaald (t := 4) (C := RX5) F hT hW j (oTms hr2) rfl (by omega) (by decide) rfl (rTms hr2) dX3_copyFrom_94 ?_
              refine jcvf (jrunV (As := [.ref (ea E r2 (16 + j))]) (rest := []) F hT hW yc_X5_copyFrom yv_X5_copyFrom ml_X3_64 (oTim hr (by omega)) (by decide) rfl (c_X5_copyFromO l E μ r hr S8 j r2 T (by first | assumption | omega) (by first | assumption | omega) (by first | assumption | omega) (by first | assumption | omega)) rfl hl.1 ⟨Nat.le_of_ble_eq_true rfl, Nat.le_of_ble_eq_true rfl⟩ rfl (Nat.le_of_ble_eq_true rfl) ⟨Nat.le_refl _, Nat.le_refl _⟩ dX3_copyFrom_95) hW (fun S10 H locs eS10 hW => ?_)
              refine lv_iinc (v := nI (j + 1)) (lv' := [(2, .int (nI (j + 1))), (0, .ref (ea E r 0)), (1, .ref (ea E r2 0))]) F.1 F.2.1 dX3_copyFrom_98 hl (k := 0) rfl (ia rfl rfl) (by decide) rfl (fun ls hl => ?_)
              refine lv_goto (tgt := 75) F.1 F.2.1 dX3_copyFrom_101 (by decide) ?_
              subst eS10
              exact ih (j + 1) _ _ _ _ (by omega) (by rw [itN_s, ← hs]; exact (rfl).symm) hW (lv_sub hl [0, 1, 2] rfl)
        exact hL9 (cn (T 0 5)) 0 S7 _ _ _ (by omega) rfl hW (lv_sub hl [0, 1, 2] rfl)
      · exact absurd (c_le (hk.trans hn.1) rfl (by omega) (by omega)) h6
    | succ fu ih =>
      intro j S4 H locs ls hj hs  hW hl
      have hk : S4 0 3 = T 0 3 := by rw [hs, cp36_keep _ (by omega) 0 3 (by omega), eS3]; exact us_at _ _ _ _
      refine lv_iload_n F.1 F.2.1 dX3_copyFrom_36 rfl (lv_at hl 0 rfl) ?_
      refine lv_aload_n F.1 F.2.1 dX3_copyFrom_37 rfl (lv_at hl 1 rfl) ?_
      refine jget F hT hW fw_X3_54 (oSrv hr) (by decide) (rSrv3 hr) dX3_copyFrom_38 ?_
      refine lv_icmp_ge (tgt := 65) F.1 F.2.1 dX3_copyFrom_41 (by decide) (fun h5 => ?_) (fun h5 => ?_)
      · exact absurd h5 (c_nle (hk.trans hn.1) rfl (by omega) (by omega))
      · refine lv_aload_n F.1 F.2.1 dX3_copyFrom_44 rfl (lv_at hl 1 rfl) ?_
        refine jgetR F hT hW fw_X3_25 (oSrv hr) (by decide) (rSrv2 hr) dX3_copyFrom_45 ?_
        refine lv_iload_n F.1 F.2.1 dX3_copyFrom_48 rfl (lv_at hl 0 rfl) ?_
        refine jaald (t := 3) (C := RX1) F hT hW j (oLns hr) rfl (by omega) (by decide) rfl (rLns hr) dX3_copyFrom_49 ?_
        refine lv_aload_n F.1 F.2.1 dX3_copyFrom_50 rfl (lv_at hl 2 rfl) ?_
        refine jgetR F hT hW fw_X3_25 (oSrv hr2) (by decide) (rSrv2 hr2) dX3_copyFrom_51 ?_
        refine lv_iload_n F.1 F.2.1 dX3_copyFrom_54 rfl (lv_at hl 0 rfl) ?_
        refine jaald (t := 3) (C := RX1) F hT hW j (oLns hr2) rfl (by omega) (by decide) rfl (rLns hr2) dX3_copyFrom_55 ?_
        refine jcvf (jrunV (As := [.ref (ea E r2 (3 + j))]) (rest := []) F hT hW yc_X1_copyFrom yv_X1_copyFrom ml_X3_57 (oLin hr (by omega)) (by decide) rfl (c_X1_copyFromO l E μ r hr S4 j r2 T (by first | assumption | omega) (by first | assumption | omega) (by first | assumption | omega) (by first | assumption | omega) (hB j (by omega)).1 (hB j (by omega)).2.1 (hB j (by omega)).2.2) rfl hl.1 ⟨Nat.le_of_ble_eq_true rfl, Nat.le_of_ble_eq_true rfl⟩ rfl (Nat.le_of_ble_eq_true rfl) ⟨Nat.le_refl _, Nat.le_refl _⟩ dX3_copyFrom_56) hW (fun S6 H locs eS6 hW => ?_)
        refine lv_iinc (v := nI (j + 1)) (lv' := [(2, .int (nI (j + 1))), (0, .ref (ea E r 0)), (1, .ref (ea E r2 0))]) F.1 F.2.1 dX3_copyFrom_59 hl (k := 0) rfl (ia rfl rfl) (by decide) rfl (fun ls hl => ?_)
        refine lv_goto (tgt := 36) F.1 F.2.1 dX3_copyFrom_62 (by decide) ?_
        subst eS6
        exact ih (j + 1) _ _ _ _ (by omega) (by rw [itN_s, ← hs]; exact (rfl).symm) hW (lv_sub hl [0, 1, 2] rfl)
  exact hL5 (cn (T 0 3)) 0 S3 _ _ _ (by omega) rfl hW (lv_sub hl [0, 1, 2] rfl)

