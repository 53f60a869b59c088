/-! the reference: put -/

def q_X7_put_85 (S : Sv) (ch : Int64) (j : Nat) (i : Nat) (σ : Sv × Int32 × Int64) : Sv × Int32 × Int64 :=
  let S6 : Sv := σ.1
  let v7 : Int32 := σ.2.1
  let v8 : Int64 := σ.2.2
  let S10 : Sv := us S6 6 (cn (S 0 7) + (j - i - 1)) ((v8 &&& 255).toInt32)
  (S10, v7 + (-1), (v8.toUInt64 >>> ((8 : Int32).toInt64.toUInt64 &&& Int64.toUInt64 63)).toInt64)
def q_X7_put_5 (S : Sv) (ch : Int64) : Nat → Nat → Int64 → Int32 × Sv
  | 0, j, v1 =>
    ((0 : Int32), S)
  | fu + 1, j, v1 =>
    if (lg_cmp (v1 &&& 255) 0) = 0 then
      if (lg_cmp v1 0) = 0 then
        if (nI j) = 0 then
          (((-2) : Int32), S)
        else
          if ((S 0 7) + (nI j)) ≤ 80 then
            let S6 : Sv := (itN (q_X7_put_85 S ch j) (0 + j) (S, (nI j) - 1, ch)).1
            let v7 : Int32 := (itN (q_X7_put_85 S ch j) (0 + j) (S, (nI j) - 1, ch)).2.1
            let v8 : Int64 := (itN (q_X7_put_85 S ch j) (0 + j) (S, (nI j) - 1, ch)).2.2
            let S11 : Sv := us S6 0 7 ((S6 0 7) + (nI j))
            ((S11 0 7 : Int32), S11)
          else
            (((-4) : Int32), S)
      else
        (((-2) : Int32), S)
    else
      let x12 : Int32 := p_X7_in ((v1 &&& 255).toInt32) 33 126
      if x12 = 0 then
        (((-2) : Int32), S)
      else
        q_X7_put_5 S ch fu (j + 1) ((v1.toUInt64 >>> ((8 : Int32).toInt64.toUInt64 &&& Int64.toUInt64 63)).toInt64)
def p_X7_put (S : Sv) (ch : Int64) : Int32 × Sv :=
  q_X7_put_5 S ch 9 0 ch

theorem pt_keep {S : Sv} {ch : Int64} {j : Nat} {S0 : Sv} {a : Int64} {b : Int32} : ∀ n p k, ¬ p = 6 → (itN (q_X7_put_85 S ch j) n (S0, b, a)).1 p k = S0 p k := by
  intro n
  induction n with
  | zero => intro p k _; rfl
  | succ n ih =>
    intro p k hp
    rw [itN_s]
    unfold q_X7_put_85
    dsimp only
    rw [us_ne _ _ (by omega)]
    exact ih p k hp

set_option maxHeartbeats 4000000 in
set_option maxRecDepth 100000 in
theorem c_X7_put (l : Launch) (E : mE) (μ : Mu) (S : Sv) (ch : Int64) (hsg : Bn (S 0 7) 80) : CtI l E yX7_put cX7_put 7 (some .int) 1 22 [.ref (ea E 13 0), .long ch] (fo μ 13 S) (fun x μ' => x = (p_X7_put S ch).1 ∧ μ' = fo μ 13 (p_X7_put S ch).2) := by
  refine jMet (by decide +kernel) (Nat.le_of_ble_eq_true rfl) ?_
  intro p e s m below meth c ls F hT hr0 hlk hW hl
  have F : CallFix p m c cX7_put 7 s _ TB RX7 := F
  have hl : lv_has ls 7 [(0, .ref (ea E 13 0)), (1, .long ch)] := hl
  refine lv_iconst (v := 0) F.1 F.2.1 dX7_put_0 (by decide) ?_
  refine lv_istore_n (lv' := [(3, .int 0), (0, .ref (ea E 13 0)), (1, .long ch)]) F.1 F.2.1 dX7_put_1 rfl hl (by decide) rfl (fun ls hl => ?_)
  refine lv_lload_n F.1 F.2.1 dX7_put_2 rfl (lv_at hl 2 rfl) ?_
  refine lv_lstore (lv' := [(4, .long ch), (3, .int 0), (0, .ref (ea E 13 0)), (1, .long ch)]) F.1 F.2.1 dX7_put_3 hl (by decide) rfl (fun ls hl => ?_)
  have hL2 : ∀ (fu j : Nat) (v1 : Int64) (H : Heap) (locs : List Loc) (ls : Array Slot), j + fu = 9 → p_X7_put S ch = q_X7_put_5 S ch fu j v1 → Lv ch v1 j → Wd E s H locs (fo μ 13 S) → lv_has ls 7 [(4, .long v1), (3, .int (nI j)), (0, .ref (ea E 13 0)), (1, .long ch)] → W p l e (rmO 1 22) s m ([.ref (ea E 13 0), .long ch] : List Value).toArray below meth c H locs 0 0 (MQ below (va_Qi (fun x μ' => x = (p_X7_put S ch).1 ∧ μ' = fo μ 13 (p_X7_put S ch).2) (fun μ' t => MB E μ' t.heap) (AA E)) ([.ref (ea E 13 0), .long ch] : List Value).toArray s 0 0 (AA E)) (F0 m 5 ls []) := by
    intro fu
    induction fu with
    | zero =>
      intro j v1 H locs ls hj hres hlv hW hl
      exact (lv9 (by rw [← show j = 9 by omega]; exact hlv)).elim
    | succ fu ih =>
      intro j v1 H locs ls hj hres hlv hW hl
      refine lv_lload F.1 F.2.1 dX7_put_5 (lv_at hl 0 rfl) ?_
      refine lv_ldc2 (v := 255) F.1 F.2.1 F.2.2.2.1 (F.2.2.2.2 _ wl_X7_144) dX7_put_7 ?_
      refine lv_land F.1 F.2.1 dX7_put_10 ?_
      refine lv_lconst (v := 0) F.1 F.2.1 dX7_put_11 (by decide) ?_
      refine W.lcmp F.1 F.2.1 dX7_put_12 ?_
      refine lv_if_eq (tgt := 49) F.1 F.2.1 dX7_put_13 (by decide) (fun h2 => ?_) (fun h2 => ?_)
      · refine lv_lload F.1 F.2.1 dX7_put_49 (lv_at hl 0 rfl) ?_
        refine lv_lconst (v := 0) F.1 F.2.1 dX7_put_51 (by decide) ?_
        refine W.lcmp F.1 F.2.1 dX7_put_52 ?_
        refine lv_if_ne (tgt := 60) F.1 F.2.1 dX7_put_53 (by decide) (fun h3 => ?_) (fun h3 => ?_)
        · refine lv_bipush (v := (-2)) F.1 F.2.1 dX7_put_60 (by decide) ?_
          have hq : (((-2) : Int32), S) = p_X7_put S ch := by
            exact ((hres).trans ((if_pos h2).trans (if_neg h3))).symm
          exact jri F hr0 hlk hW rfl dX7_put_62 ⟨congrArg Prod.fst hq, congrArg (fun z => fo μ 13 z.2) hq⟩
        · refine lv_iload_n F.1 F.2.1 dX7_put_56 rfl (lv_at hl 1 rfl) ?_
          refine lv_if_ne (tgt := 63) F.1 F.2.1 dX7_put_57 (by decide) (fun h4 => ?_) (fun h4 => ?_)
          · refine lv_aload_n F.1 F.2.1 dX7_put_63 rfl (lv_at hl 2 rfl) ?_
            refine jget F hT hW fw_X7_108 oM0 (by decide) rfl dX7_put_64 ?_
            refine lv_iload_n F.1 F.2.1 dX7_put_67 rfl (lv_at hl 1 rfl) ?_
            refine lv_iadd F.1 F.2.1 dX7_put_68 ?_
            refine lv_bipush (v := 80) F.1 F.2.1 dX7_put_69 (by decide) ?_
            refine lv_icmp_le (tgt := 77) F.1 F.2.1 dX7_put_71 (by decide) (fun h5 => ?_) (fun h5 => ?_)
            · have h80 := c_ge (ia hsg.1 (rfl : nI j = nI j)) (lI 80) (by assumption) (by have := hsg.2; have := hlv.2; omega)
              refine lv_lload_n F.1 F.2.1 dX7_put_77 rfl (lv_at hl 3 rfl) ?_
              refine lv_lstore (lv' := [(4, .long ch), (3, .int (nI j)), (0, .ref (ea E 13 0)), (1, .long ch)]) F.1 F.2.1 dX7_put_78 hl (by decide) rfl (fun ls hl => ?_)
              refine lv_iload_n F.1 F.2.1 dX7_put_80 rfl (lv_at hl 1 rfl) ?_
              refine lv_iconst (v := 1) F.1 F.2.1 dX7_put_81 (by decide) ?_
              refine lv_isub F.1 F.2.1 dX7_put_82 ?_
              refine lv_istore (lv' := [(6, .int ((nI j) - 1)), (4, .long ch), (3, .int (nI j)), (0, .ref (ea E 13 0)), (1, .long ch)]) F.1 F.2.1 dX7_put_83 hl (by decide) rfl (fun ls hl => ?_)
              have hL9 : ∀ (fu i : Nat) (S6 : Sv) (v7 : Int32) (v8 : Int64) (H : Heap) (locs : List Loc) (ls : Array Slot), i + fu = 0 + j → (S6, v7, v8) = itN (q_X7_put_85 S ch j) i (S, (nI j) - 1, ch) → v7 = nI (j - i) + (-1) → Wd E s H locs (fo μ 13 S6) → lv_has ls 7 [(6, .int v7), (4, .long v8), (3, .int (nI j)), (0, .ref (ea E 13 0)), (1, .long ch)] → W p l e (rmO 1 22) s m ([.ref (ea E 13 0), .long ch] : List Value).toArray below meth c H locs 0 0 (MQ below (va_Qi (fun x μ' => x = (p_X7_put S ch).1 ∧ μ' = fo μ 13 (p_X7_put S ch).2) (fun μ' t => MB E μ' t.heap) (AA E)) ([.ref (ea E 13 0), .long ch] : List Value).toArray s 0 0 (AA E)) (F0 m 85 ls []) := by
                intro fu
                induction fu with
                | zero =>
                  intro i S6 v7 v8 H locs ls hj hs hv6 hW hl
                  obtain rfl : i = 0 + j := by omega
                  obtain ⟨eS6, ev7, ev8⟩ : S6 = (itN (q_X7_put_85 S ch j) (0 + j) (S, (nI j) - 1, ch)).1 ∧ v7 = (itN (q_X7_put_85 S ch j) (0 + j) (S, (nI j) - 1, ch)).2.1 ∧ v8 = (itN (q_X7_put_85 S ch j) (0 + j) (S, (nI j) - 1, ch)).2.2 := by rw [← hs]; exact ⟨rfl, rfl, rfl⟩
                  refine lv_iload F.1 F.2.1 dX7_put_85 (lv_at hl 0 rfl) ?_
                  refine lv_if_lt (tgt := 122) F.1 F.2.1 dX7_put_87 (by decide) (fun h10 => ?_) (fun h10 => ?_)
                  · refine lv_aload_n F.1 F.2.1 dX7_put_122 rfl (lv_at hl 3 rfl) ?_
                    refine lv_dup F.1 F.2.1 dX7_put_123 rfl ?_
                    refine jget F hT hW fw_X7_108 oM0 (by decide) rfl dX7_put_124 ?_
                    refine lv_iload_n F.1 F.2.1 dX7_put_127 rfl (lv_at hl 2 rfl) ?_
                    refine lv_iadd F.1 F.2.1 dX7_put_128 ?_
                    refine jput F hT hW fw_X7_108 ft_7_7 oM0 (by decide) (by decide) rfl rfl rfl dX7_put_129 (fun S11 H locs eS11 hW => ?_)
                    refine lv_aload_n F.1 F.2.1 dX7_put_132 rfl (lv_at hl 3 rfl) ?_
                    refine jget F hT hW fw_X7_108 oM0 (by decide) rfl dX7_put_133 ?_
                    have hq : ((S11 0 7 : Int32), S11) = p_X7_put S ch := by
                      subst eS11
                      subst ev8
                      subst ev7
                      subst eS6
                      exact ((hres).trans ((if_pos h2).trans ((if_pos h3).trans ((if_neg h4).trans (if_pos h5))))).symm
                    exact jri F hr0 hlk hW rfl dX7_put_136 ⟨congrArg Prod.fst hq, congrArg (fun z => fo μ 13 z.2) hq⟩
                  · exact absurd (show v7 < 0 by rw [hv6, show j - (0 + j) = 0 by omega]; decide) h10
                | succ fu ih =>
                  intro i S6 v7 v8 H locs ls hj hs hv6 hW hl
                  have hk7 : S6 0 7 = S 0 7 := (congrFun (congrFun (congrArg Prod.fst hs) 0) 7).trans (pt_keep _ 0 7 (by decide))
                  refine lv_iload F.1 F.2.1 dX7_put_85 (lv_at hl 0 rfl) ?_
                  refine lv_if_lt (tgt := 122) F.1 F.2.1 dX7_put_87 (by decide) (fun h9 => ?_) (fun h9 => ?_)
                  · exact absurd h9 (c_nlt (hv6.trans (dcI rfl (by omega))) (lI 0) (by omega) (by omega))
                  · refine lv_aload_n F.1 F.2.1 dX7_put_90 rfl (lv_at hl 3 rfl) ?_
                    refine jgetR F hT hW fw_X7_26 oM0 (by decide) rfl dX7_put_91 ?_
                    refine lv_aload_n F.1 F.2.1 dX7_put_94 rfl (lv_at hl 3 rfl) ?_
                    refine jget F hT hW fw_X7_108 oM0 (by decide) rfl dX7_put_95 ?_
                    refine lv_iload F.1 F.2.1 dX7_put_98 (lv_at hl 0 rfl) ?_
                    refine lv_iadd F.1 F.2.1 dX7_put_100 ?_
                    refine lv_lload F.1 F.2.1 dX7_put_101 (lv_at hl 1 rfl) ?_
                    refine lv_ldc2 (v := 255) F.1 F.2.1 F.2.2.2.1 (F.2.2.2.2 _ wl_X7_144) dX7_put_103 ?_
                    refine lv_land F.1 F.2.1 dX7_put_106 ?_
                    refine lv_l2i F.1 F.2.1 dX7_put_107 rfl ?_
                    refine jiast F hT hW (cn (S 0 7) + (j - i - 1)) oM6 (by decide) (by omega) (by decide) (ia (hk7.trans hsg.1) (hv6.trans (dcI rfl (by omega)))) rfl dX7_put_108 (fun S10 H locs eS10 hW => ?_)
                    refine lv_lload F.1 F.2.1 dX7_put_109 (lv_at hl 1 rfl) ?_
                    refine lv_bipush (v := 8) F.1 F.2.1 dX7_put_111 (by decide) ?_
                    refine lv_lushr F.1 F.2.1 dX7_put_113 rfl ?_
                    refine lv_lstore (lv' := [(4, .long ((v8.toUInt64 >>> ((8 : Int32).toInt64.toUInt64 &&& Int64.toUInt64 63)).toInt64)), (6, .int v7), (3, .int (nI j)), (0, .ref (ea E 13 0)), (1, .long ch)]) F.1 F.2.1 dX7_put_114 hl (by decide) rfl (fun ls hl => ?_)
                    refine lv_iinc (v := v7 + (-1)) (lv' := [(6, .int (v7 + (-1))), (4, .long ((v8.toUInt64 >>> ((8 : Int32).toInt64.toUInt64 &&& Int64.toUInt64 63)).toInt64)), (3, .int (nI j)), (0, .ref (ea E 13 0)), (1, .long ch)]) F.1 F.2.1 dX7_put_116 hl (k := 1) rfl rfl (by decide) rfl (fun ls hl => ?_)
                    refine lv_goto (tgt := 85) F.1 F.2.1 dX7_put_119 (by decide) ?_
                    subst eS10
                    exact ih (i + 1) _ _ _ _ _ _ (by omega) (by rw [itN_s, ← hs]; exact (rfl).symm) (by rw [hv6, dcI rfl (by omega), Nat.sub_sub]) hW (lv_sub hl [0, 1, 2, 3, 4] rfl)
              exact hL9 (0 + j) 0 S ((nI j) - 1) ch _ _ _ (by omega) rfl (Int32.sub_eq_add_neg _ _) hW (lv_sub hl [0, 1, 2, 3, 4] rfl)
            · refine lv_bipush (v := (-4)) F.1 F.2.1 dX7_put_74 (by decide) ?_
              have hq : (((-4) : Int32), S) = p_X7_put S ch := by
                exact ((hres).trans ((if_pos h2).trans ((if_pos h3).trans ((if_neg h4).trans (if_neg h5))))).symm
              exact jri F hr0 hlk hW rfl dX7_put_76 ⟨congrArg Prod.fst hq, congrArg (fun z => fo μ 13 z.2) hq⟩
          · refine lv_bipush (v := (-2)) F.1 F.2.1 dX7_put_60 (by decide) ?_
            have hq : (((-2) : Int32), S) = p_X7_put S ch := by
              exact ((hres).trans ((if_pos h2).trans ((if_pos h3).trans (if_pos h4)))).symm
            exact jri F hr0 hlk hW rfl dX7_put_62 ⟨congrArg Prod.fst hq, congrArg (fun z => fo μ 13 z.2) hq⟩
      · refine lv_lload F.1 F.2.1 dX7_put_16 (lv_at hl 0 rfl) ?_
        refine lv_ldc2 (v := 255) F.1 F.2.1 F.2.2.2.1 (F.2.2.2.2 _ wl_X7_144) dX7_put_18 ?_
        refine lv_land F.1 F.2.1 dX7_put_21 ?_
        refine lv_l2i F.1 F.2.1 dX7_put_22 rfl ?_
        refine lv_bipush (v := 33) F.1 F.2.1 dX7_put_23 (by decide) ?_
        refine lv_bipush (v := 126) F.1 F.2.1 dX7_put_25 (by decide) ?_
        refine jcip (jrunS (As := [.int ((v1 &&& 255).toInt32), .int 33, .int 126]) (rest := []) F hT hW yc_X7_in ys_X7_in ml_X7_40 (c_X7_in l E (fo μ 13 S) ((v1 &&& 255).toInt32) 33 126) rfl hl.1 ⟨Nat.le_of_ble_eq_true rfl, Nat.le_of_ble_eq_true rfl⟩ rfl (Nat.le_of_ble_eq_true rfl) ⟨Nat.le_refl _, Nat.le_refl _⟩ dX7_put_27) hW (fun x12 H locs ex12 hW => ?_)
        refine lv_if_ne (tgt := 36) F.1 F.2.1 dX7_put_30 (by decide) (fun h13 => ?_) (fun h13 => ?_)
        · refine lv_iinc (v := nI (j + 1)) (lv' := [(3, .int (nI (j + 1))), (4, .long v1), (0, .ref (ea E 13 0)), (1, .long ch)]) F.1 F.2.1 dX7_put_36 hl (k := 1) rfl (ia rfl rfl) (by decide) rfl (fun ls hl => ?_)
          refine lv_lload F.1 F.2.1 dX7_put_39 (lv_at hl 1 rfl) ?_
          refine lv_bipush (v := 8) F.1 F.2.1 dX7_put_41 (by decide) ?_
          refine lv_lushr F.1 F.2.1 dX7_put_43 rfl ?_
          refine lv_lstore (lv' := [(4, .long ((v1.toUInt64 >>> ((8 : Int32).toInt64.toUInt64 &&& Int64.toUInt64 63)).toInt64)), (3, .int (nI (j + 1))), (0, .ref (ea E 13 0)), (1, .long ch)]) F.1 F.2.1 dX7_put_44 hl (by decide) rfl (fun ls hl => ?_)
          refine lv_goto (tgt := 5) F.1 F.2.1 dX7_put_46 (by decide) ?_
          subst ex12
          exact ih (j + 1) _ _ _ _ (by omega) (hres.trans ((if_neg h2).trans (if_neg h13))) (lv_s hlv (by assumption)) hW (lv_sub hl [0, 1, 2, 3] rfl)
        · refine lv_bipush (v := (-2)) F.1 F.2.1 dX7_put_33 (by decide) ?_
          have hq : (((-2) : Int32), S) = p_X7_put S ch := by
            subst ex12
            exact ((hres).trans ((if_neg h2).trans (if_pos h13))).symm
          exact jri F hr0 hlk hW rfl dX7_put_35 ⟨congrArg Prod.fst hq, congrArg (fun z => fo μ 13 z.2) hq⟩
  exact hL2 9 0 ch _ _ _ (by omega) (by exact rfl) lv0 hW (lv_sub hl [0, 1, 2, 3] rfl)

