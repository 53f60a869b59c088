/-! the reference: record, found, begin, end, pass, ticks, forecasts -/
def q_X7_record_55 (S : Sv) (S7 : Sv) (j : Nat) (σ : Sv) : Sv :=
  let S9 : Sv := σ
  let S11 : Sv := us S9 3 ((cn (S7 0 3)) * 280 + j) (S9 1 j)
  S11
def q_X7_record_19 (S : Sv) (j : Nat) (σ : Sv) : Sv :=
  let S3 : Sv := σ
  let S5 : Sv := us S3 3 j (S3 3 (j + 280))
  S5
def p_X7_record (S : Sv) : Sv :=
  if (S 0 8) = 0 then
    let S7 : Sv := (if (S 0 3) = 6 then (let S3 : Sv := (itN (q_X7_record_19 S) 1400 (S)); (let S6 : Sv := us S3 0 3 5; S6)) else S)
    let S9 : Sv := (itN (q_X7_record_55 S S7) 280 (S7))
    let S12 : Sv := us S9 0 3 ((S9 0 3) + 1)
    S12
  else
    S

theorem rec_keep {S S7 S0 : Sv} : ∀ n p k, ¬ p = 3 → itN (q_X7_record_55 S S7) n S0 p k = S0 p k := by
  intro n
  induction n with
  | zero => intro p k _; rfl
  | succ n ih =>
    intro p k hp
    rw [itN_s]
    unfold q_X7_record_55
    dsimp only
    rw [us_ne _ _ (fun z => hp z.1)]
    exact ih p k hp

set_option maxHeartbeats 4000000 in
set_option maxRecDepth 100000 in
theorem c_X7_record (l : Launch) (E : mE) (μ : Mu) (S : Sv) (hu : Bn (S 0 3) 6) : CtV l E yX7_record cX7_record 2 0 0 [.ref (ea E 13 0)] (fo μ 13 S) (fun μ' => μ' = fo μ 13 (p_X7_record S)) := by
  refine jMet (by decide +kernel) (Nat.le_of_ble_eq_true rfl) ?_
  intro p e s m below meth c ls F hT hr0 hlk hW hl
  have F : CallFix p m c cX7_record 2 s _ TB RX7 := F
  have hl : lv_has ls 2 [(0, .ref (ea E 13 0))] := hl
  refine lv_aload_n F.1 F.2.1 dX7_record_0 rfl (lv_at hl 0 rfl) ?_
  refine jget F hT hW fw_X7_32 oM0 (by decide) rfl dX7_record_1 ?_
  refine lv_if_eq (tgt := 8) F.1 F.2.1 dX7_record_4 (by decide) (fun h1 => ?_) (fun h1 => ?_)
  · refine lv_aload_n F.1 F.2.1 dX7_record_8 rfl (lv_at hl 0 rfl) ?_
    refine jget F hT hW fw_X7_36 oM0 (by decide) rfl dX7_record_9 ?_
    refine lv_bipush (v := 6) F.1 F.2.1 dX7_record_12 (by decide) ?_
    have hJ8 : ∀ (S7 : Sv) (H : Heap) (locs : List Loc) (ls : Array Slot), S7 = (if (S 0 3) = 6 then (let S3 : Sv := (itN (q_X7_record_19 S) 1400 (S)); (let S6 : Sv := us S3 0 3 5; S6)) else S) → Wd E s H locs (fo μ 13 S7) → lv_has ls 2 [(0, .ref (ea E 13 0))] → W p l e (rmO 0 0) s m ([.ref (ea E 13 0)] : List Value).toArray below meth c H locs 0 0 (MQ below (va_Qv (fun μ' => μ' = fo μ 13 (p_X7_record S)) (fun μ' t => MB E μ' t.heap) (AA E)) ([.ref (ea E 13 0)] : List Value).toArray s 0 0 (AA E)) (F0 m 53 ls []) := by
      intro S7 H locs ls eS7 hW hl
      have hu5 : Bn (S7 0 3) 5 := by
        rw [eS7]
        by_cases hz : S 0 3 = 6
        · rw [if_pos hz, us_at]; exact bnI (n := 5) (by decide) (by decide)
        · rw [if_neg hz]
          refine ⟨hu.1, ?_⟩
          have h6 := hu.2
          have h7 : ¬ cn (S 0 3) = 6 := fun q => hz (by rw [hu.1, q]; rfl)
          omega
      have hu52 := hu5.2
      refine lv_iconst (v := 0) F.1 F.2.1 dX7_record_53 (by decide) ?_
      refine lv_istore_n (lv' := [(1, .int 0), (0, .ref (ea E 13 0))]) F.1 F.2.1 dX7_record_54 rfl hl (by decide) rfl (fun ls hl => ?_)
      have hL10 : ∀ (fu j : Nat) (S9 : Sv) (H : Heap) (locs : List Loc) (ls : Array Slot), j + fu = 280 → (S9) = itN (q_X7_record_55 S S7) j (S7) → Wd E s H locs (fo μ 13 S9) → lv_has ls 2 [(1, .int (nI j)), (0, .ref (ea E 13 0))] → W p l e (rmO 0 0) s m ([.ref (ea E 13 0)] : List Value).toArray below meth c H locs 0 0 (MQ below (va_Qv (fun μ' => μ' = fo μ 13 (p_X7_record S)) (fun μ' t => MB E μ' t.heap) (AA E)) ([.ref (ea E 13 0)] : List Value).toArray s 0 0 (AA E)) (F0 m 55 ls []) := by
        intro fu
        induction fu with
        | zero =>
          intro j S9 H locs ls hj hs  hW hl
          obtain rfl : j = 280 := by omega
          have eS9 := hs
          refine lv_iload_n F.1 F.2.1 dX7_record_55 rfl (lv_at hl 0 rfl) ?_
          refine lv_sipush (v := 280) F.1 F.2.1 dX7_record_56 (by decide) ?_
          refine lv_icmp_ge (tgt := 89) F.1 F.2.1 dX7_record_59 (by decide) (fun h11 => ?_) (fun h11 => ?_)
          · refine lv_aload_n F.1 F.2.1 dX7_record_89 rfl (lv_at hl 1 rfl) ?_
            refine lv_dup F.1 F.2.1 dX7_record_90 rfl ?_
            refine jget F hT hW fw_X7_36 oM0 (by decide) rfl dX7_record_91 ?_
            refine lv_iconst (v := 1) F.1 F.2.1 dX7_record_94 (by decide) ?_
            refine lv_iadd F.1 F.2.1 dX7_record_95 ?_
            refine jput F hT hW fw_X7_36 ft_7_3 oM0 (by decide) (by decide) rfl rfl rfl dX7_record_96 (fun S12 H locs eS12 hW => ?_)
            have hq : S12 = p_X7_record S := by
              subst eS12
              subst eS9
              subst eS7
              exact (if_pos h1).symm
            exact jrv F hr0 hlk hW dX7_record_99 (congrArg (fun z => fo μ 13 z) hq)
          · exact absurd (c_le (lI 280) rfl (by omega) (by omega)) h11
        | succ fu ih =>
          intro j S9 H locs ls hj hs  hW hl
          have hk : S9 0 3 = S7 0 3 := by rw [hs]; exact rec_keep _ 0 3 (by decide)
          refine lv_iload_n F.1 F.2.1 dX7_record_55 rfl (lv_at hl 0 rfl) ?_
          refine lv_sipush (v := 280) F.1 F.2.1 dX7_record_56 (by decide) ?_
          refine lv_icmp_ge (tgt := 89) F.1 F.2.1 dX7_record_59 (by decide) (fun h10 => ?_) (fun h10 => ?_)
          · exact absurd h10 (c_nle (lI 280) rfl (by omega) (by omega))
          · refine lv_aload_n F.1 F.2.1 dX7_record_62 rfl (lv_at hl 1 rfl) ?_
            refine jgetR F hT hW fw_X7_16 oM0 (by decide) rfl dX7_record_63 ?_
            refine lv_aload_n F.1 F.2.1 dX7_record_66 rfl (lv_at hl 1 rfl) ?_
            refine jget F hT hW fw_X7_36 oM0 (by decide) rfl dX7_record_67 ?_
            refine lv_sipush (v := 280) F.1 F.2.1 dX7_record_70 (by decide) ?_
            refine lv_imul F.1 F.2.1 dX7_record_73 ?_
            refine lv_iload_n F.1 F.2.1 dX7_record_74 rfl (lv_at hl 0 rfl) ?_
            refine lv_iadd F.1 F.2.1 dX7_record_75 ?_
            refine lv_aload_n F.1 F.2.1 dX7_record_76 rfl (lv_at hl 1 rfl) ?_
            refine jgetR F hT hW fw_X7_7 oM0 (by decide) rfl dX7_record_77 ?_
            refine lv_iload_n F.1 F.2.1 dX7_record_80 rfl (lv_at hl 0 rfl) ?_
            refine jiald F hT hW j oM1 (by omega) (by decide) rfl rfl dX7_record_81 ?_
            refine jiast F hT hW ((cn (S7 0 3)) * 280 + j) oM3 (by decide) (by omega) (by decide) (ia (im (hk.trans hu5.1) (lI 280)) rfl) rfl dX7_record_82 (fun S11 H locs eS11 hW => ?_)
            refine lv_iinc (v := nI (j + 1)) (lv' := [(1, .int (nI (j + 1))), (0, .ref (ea E 13 0))]) F.1 F.2.1 dX7_record_83 hl (k := 0) rfl (ia rfl rfl) (by decide) rfl (fun ls hl => ?_)
            refine lv_goto (tgt := 55) F.1 F.2.1 dX7_record_86 (by decide) ?_
            subst eS11
            exact ih (j + 1) _ _ _ _ (by omega) (by rw [itN_s, ← hs]; exact (rfl).symm) hW (lv_sub hl [0, 1] rfl)
      exact hL10 280 0 S7 _ _ _ (by omega) rfl hW (lv_sub hl [0, 1] rfl)
    refine lv_icmp_ne (tgt := 53) F.1 F.2.1 dX7_record_14 (by decide) (fun h2 => ?_) (fun h2 => ?_)
    · exact hJ8 _ _ _ _ (if_neg h2).symm hW (lv_sub hl [0] rfl)
    · refine lv_iconst (v := 0) F.1 F.2.1 dX7_record_17 (by decide) ?_
      refine lv_istore_n (lv' := [(1, .int 0), (0, .ref (ea E 13 0))]) F.1 F.2.1 dX7_record_18 rfl hl (by decide) rfl (fun ls hl => ?_)
      have hL4 : ∀ (fu j : Nat) (S3 : Sv) (H : Heap) (locs : List Loc) (ls : Array Slot), j + fu = 1400 → (S3) = itN (q_X7_record_19 S) j (S) → Wd E s H locs (fo μ 13 S3) → lv_has ls 2 [(1, .int (nI j)), (0, .ref (ea E 13 0))] → W p l e (rmO 0 0) s m ([.ref (ea E 13 0)] : List Value).toArray below meth c H locs 0 0 (MQ below (va_Qv (fun μ' => μ' = fo μ 13 (p_X7_record S)) (fun μ' t => MB E μ' t.heap) (AA E)) ([.ref (ea E 13 0)] : List Value).toArray s 0 0 (AA E)) (F0 m 19 ls []) := by
        intro fu
        induction fu with
        | zero =>
          intro j S3 H locs ls hj hs  hW hl
          obtain rfl : j = 1400 := by omega
          have eS3 := hs
          refine lv_iload_n F.1 F.2.1 dX7_record_19 rfl (lv_at hl 0 rfl) ?_
          refine lv_sipush (v := 1400) F.1 F.2.1 dX7_record_20 (by decide) ?_
          refine lv_icmp_ge (tgt := 48) F.1 F.2.1 dX7_record_23 (by decide) (fun h5 => ?_) (fun h5 => ?_)
          · refine lv_aload_n F.1 F.2.1 dX7_record_48 rfl (lv_at hl 1 rfl) ?_
            refine lv_iconst (v := 5) F.1 F.2.1 dX7_record_49 (by decide) ?_
            refine jput F hT hW fw_X7_36 ft_7_3 oM0 (by decide) (by decide) rfl rfl rfl dX7_record_50 (fun S6 H locs eS6 hW => ?_)
            subst eS6
            subst eS3
            exact hJ8 _ _ _ _ (if_pos h2).symm hW (lv_sub hl [1] rfl)
          · exact absurd (c_le (lI 1400) rfl (by omega) (by omega)) h5
        | succ fu ih =>
          intro j S3 H locs ls hj hs  hW hl
          refine lv_iload_n F.1 F.2.1 dX7_record_19 rfl (lv_at hl 0 rfl) ?_
          refine lv_sipush (v := 1400) F.1 F.2.1 dX7_record_20 (by decide) ?_
          refine lv_icmp_ge (tgt := 48) F.1 F.2.1 dX7_record_23 (by decide) (fun h4 => ?_) (fun h4 => ?_)
          · exact absurd h4 (c_nle (lI 1400) rfl (by omega) (by omega))
          · refine lv_aload_n F.1 F.2.1 dX7_record_26 rfl (lv_at hl 1 rfl) ?_
            refine jgetR F hT hW fw_X7_16 oM0 (by decide) rfl dX7_record_27 ?_
            refine lv_iload_n F.1 F.2.1 dX7_record_30 rfl (lv_at hl 0 rfl) ?_
            refine lv_aload_n F.1 F.2.1 dX7_record_31 rfl (lv_at hl 1 rfl) ?_
            refine jgetR F hT hW fw_X7_16 oM0 (by decide) rfl dX7_record_32 ?_
            refine lv_iload_n F.1 F.2.1 dX7_record_35 rfl (lv_at hl 0 rfl) ?_
            refine lv_sipush (v := 280) F.1 F.2.1 dX7_record_36 (by decide) ?_
            refine lv_iadd F.1 F.2.1 dX7_record_39 ?_
            refine jiald F hT hW (j + 280) oM3 (by omega) (by decide) (ia rfl (lI 280)) rfl dX7_record_40 ?_
            refine jiast F hT hW j oM3 (by decide) (by omega) (by decide) rfl rfl dX7_record_41 (fun S5 H locs eS5 hW => ?_)
            refine lv_iinc (v := nI (j + 1)) (lv' := [(1, .int (nI (j + 1))), (0, .ref (ea E 13 0))]) F.1 F.2.1 dX7_record_42 hl (k := 0) rfl (ia rfl rfl) (by decide) rfl (fun ls hl => ?_)
            refine lv_goto (tgt := 19) F.1 F.2.1 dX7_record_45 (by decide) ?_
            subst eS5
            exact ih (j + 1) _ _ _ _ (by omega) (by rw [itN_s, ← hs]; exact (rfl).symm) hW (lv_sub hl [0, 1] rfl)
      exact hL4 1400 0 S _ _ _ (by omega) rfl hW (lv_sub hl [0, 1] rfl)
  · have hq : S = p_X7_record S := by
      exact (if_neg h1).symm
    exact jrv F hr0 hlk hW dX7_record_7 (congrArg (fun z => fo μ 13 z) hq)

/-- an edge, a line's booking: what stays -/
theorem fr_book {S : Sv} {li wh p k : Nat} {v mr : Int32} (h : ¬ (p = 1 ∧ k = 20 + 16 * li + wh)) : p_X7_book S li wh v mr p k = S p k := us_ne _ _ h
theorem fr_turn {S : Sv} {li p k : Nat} {wt : Int32} (h : ¬ (p = 1 ∧ (k = 20 + 16 * li + 5 ∨ k = 20 + 16 * li + 6))) : p_X7_turn S li wt p k = S p k := by
  unfold p_X7_turn
  rw [fr_book (by omega), fr_book (by omega)]
theorem fr_edge {S : Sv} {li p k : Nat} (h : ¬ (p = 1 ∧ 20 + 16 * li ≤ k ∧ k < 36 + 16 * li)) : (p_X7_edge S li).2 p k = S p k := by
  unfold p_X7_edge
  dsimp only
  repeat' split
  all_goals first | (dsimp only; rw [fr_turn (by omega), fr_book (by omega)]; done) | (dsimp only; rw [fr_book (by omega), fr_book (by omega)]; done)
theorem fr_look {S : Sv} {li p k : Nat} (h : ¬ (p = 1 ∧ 20 + 16 * li ≤ k ∧ k < 36 + 16 * li)) : p_X7_look S li p k = S p k := by
  unfold p_X7_look
  dsimp only
  repeat' split
  all_goals first | rfl | (rw [fr_turn (by omega)]; done)
def Fdx2 (x : Int32) : Prop := x = (-6) ∨ Bn x 11
theorem fx_ge {x : Int32} (h : Fdx2 x) (h0 : ¬ x < 0) : Bn x 11 := by
  rcases h with rfl | h
  · exact absurd (by decide) h0
  · exact h

def q_X7_found_5 (S : Sv) (j : Nat) (σ : Int32) : Int32 :=
  let v1 : Int32 := σ
  let x3 : Int32 := p_X7_waits S j
  let v26 : Int32 := (if x3 = 0 then v1 else (let x5 : Int32 := p_X7_placeOf S (nI j); (if 0 ≤ x5 then v1 else (let x7 : Int32 := p_X7_of S j 4; (if x7 = 0 then (let x9 : Int32 := p_X7_present S j; (if x9 < (S 1 6) then v1 else (let v21 : Int32 := (if v1 < 0 then 1 else (let x12 : Int32 := p_X7_present S j; (let x13 : Int32 := p_X7_present S (cn v1); (if x13 < x12 then 1 else (let x15 : Int32 := p_X7_present S j; (let x16 : Int32 := p_X7_present S (cn v1); (if x15 = x16 then (let x18 : Int32 := p_X7_of S j 6; (let x19 : Int32 := p_X7_of S (cn v1) 6; (if x18 ≤ x19 then 0 else 1))) else 0))))))); (let v24 : Int32 := (if v21 = 0 then v1 else nI j); v24)))) else v1)))))
  v26
def p_X7_found (S : Sv) : Int32 :=
  let v1 : Int32 := (itN (q_X7_found_5 S) (cn (S 1 8)) ((-6)))
  (v1 : Int32)

theorem fm_it {S : Sv} : ∀ n, n ≤ 12 → Fdx2 (itN (q_X7_found_5 S) n (-6)) := by
  intro n
  induction n with
  | zero => intro _; exact Or.inl rfl
  | succ n ih =>
    intro hn
    have h0 := ih (by omega)
    rw [itN_s]
    generalize itN (q_X7_found_5 S) n (-6) = σ at h0 ⊢
    unfold q_X7_found_5
    dsimp only
    repeat' (first | exact h0 | exact Or.inr (bnI (by omega) (by omega)) | refine iteP (P := Fdx2) ?_ ?_)
theorem fm_res {S : Sv} (hn : Bn (S 1 8) 12) : Fdx2 (p_X7_found S) := fm_it (S := S) _ hn.2

set_option maxHeartbeats 4000000 in
set_option maxRecDepth 100000 in
theorem c_X7_found (l : Launch) (E : mE) (μ : Mu) (S : Sv) (hn : Bn (S 1 8) 12) (hd : Bn (S 1 10) 8) : CtI l E yX7_found cX7_found 4 (some .int) 3 66 [.ref (ea E 13 0)] (fo μ 13 S) (fun x μ' => x = p_X7_found S ∧ μ' = (fo μ 13 S)) := by
  refine jMet (by decide +kernel) (Nat.le_of_ble_eq_true rfl) ?_
  intro p e s m below meth c ls F hT hr0 hlk hW hl
  have F : CallFix p m c cX7_found 4 s _ TB RX7 := F
  have hl : lv_has ls 4 [(0, .ref (ea E 13 0))] := hl
  have hn2 := hn.2
  refine lv_bipush (v := (-6)) F.1 F.2.1 dX7_found_0 (by decide) ?_
  refine lv_istore_n (lv' := [(1, .int (-6)), (0, .ref (ea E 13 0))]) F.1 F.2.1 dX7_found_2 rfl hl (by decide) rfl (fun ls hl => ?_)
  refine lv_iconst (v := 0) F.1 F.2.1 dX7_found_3 (by decide) ?_
  refine lv_istore_n (lv' := [(2, .int 0), (1, .int (-6)), (0, .ref (ea E 13 0))]) F.1 F.2.1 dX7_found_4 rfl hl (by decide) rfl (fun ls hl => ?_)
  have hL2 : ∀ (fu j : Nat) (v1 : Int32) (H : Heap) (locs : List Loc) (ls : Array Slot), j + fu = cn (S 1 8) → (v1) = itN (q_X7_found_5 S) j ((-6)) → Wd E s H locs (fo μ 13 S) → lv_has ls 4 [(2, .int (nI j)), (1, .int v1), (0, .ref (ea E 13 0))] → W p l e (rmO 3 66) s m ([.ref (ea E 13 0)] : List Value).toArray below meth c H locs 0 0 (MQ below (va_Qi (fun x μ' => x = p_X7_found S ∧ μ' = (fo μ 13 S)) (fun μ' t => MB E μ' t.heap) (AA E)) ([.ref (ea E 13 0)] : List Value).toArray s 0 0 (AA E)) (F0 m 5 ls []) := by
    intro fu
    induction fu with
    | zero =>
      intro j v1 H locs ls hj hs  hW hl
      obtain rfl : j = cn (S 1 8) := by omega
      have ev1 := hs
      refine lv_iload_n F.1 F.2.1 dX7_found_5 rfl (lv_at hl 0 rfl) ?_
      refine lv_aload_n F.1 F.2.1 dX7_found_6 rfl (lv_at hl 2 rfl) ?_
      refine jgetR F hT hW fw_X7_7 oM0 (by decide) rfl dX7_found_7 ?_
      refine lv_bipush (v := 8) F.1 F.2.1 dX7_found_10 (by decide) ?_
      refine jiald F hT hW 8 oM1 (by omega) (by decide) (lI 8) rfl dX7_found_12 ?_
      refine lv_icmp_ge (tgt := 125) F.1 F.2.1 dX7_found_13 (by decide) (fun h3 => ?_) (fun h3 => ?_)
      · refine lv_iload_n F.1 F.2.1 dX7_found_125 rfl (lv_at hl 1 rfl) ?_
        have hq : (v1 : Int32) = p_X7_found S := by
          subst ev1
          exact (rfl).symm
        exact jri F hr0 hlk hW rfl dX7_found_126 ⟨hq, rfl⟩
      · exact absurd (c_le hn.1 rfl (by omega) (by omega)) h3
    | succ fu ih =>
      intro j v1 H locs ls hj hs  hW hl
      have hfd := fm_it (S := S) j (by omega)
      rw [← hs] at hfd
      refine lv_iload_n F.1 F.2.1 dX7_found_5 rfl (lv_at hl 0 rfl) ?_
      refine lv_aload_n F.1 F.2.1 dX7_found_6 rfl (lv_at hl 2 rfl) ?_
      refine jgetR F hT hW fw_X7_7 oM0 (by decide) rfl dX7_found_7 ?_
      refine lv_bipush (v := 8) F.1 F.2.1 dX7_found_10 (by decide) ?_
      refine jiald F hT hW 8 oM1 (by omega) (by decide) (lI 8) rfl dX7_found_12 ?_
      refine lv_icmp_ge (tgt := 125) F.1 F.2.1 dX7_found_13 (by decide) (fun h2 => ?_) (fun h2 => ?_)
      · exact absurd h2 (c_nle hn.1 rfl (by omega) (by omega))
      · refine lv_aload_n F.1 F.2.1 dX7_found_16 rfl (lv_at hl 2 rfl) ?_
        refine lv_iload_n F.1 F.2.1 dX7_found_17 rfl (lv_at hl 0 rfl) ?_
        refine jcip (jrunV (As := [.int (nI j)]) (rest := []) F hT hW yc_X7_waits yv_X7_waits ml_X7_69 oM0 (by decide) rfl (c_X7_waits l E μ S (nI j) j rfl (by first | assumption | omega)) rfl hl.1 ⟨Nat.le_of_ble_eq_true rfl, Nat.le_of_ble_eq_true rfl⟩ rfl (Nat.le_of_ble_eq_true rfl) ⟨Nat.le_refl _, Nat.le_refl _⟩ dX7_found_18) hW (fun x3 H locs ex3 hW => ?_)
        have hJ27 : ∀ (v26 : Int32) (H : Heap) (locs : List Loc) (ls : Array Slot), v26 = (if x3 = 0 then v1 else (let x5 : Int32 := p_X7_placeOf S (nI j); (if 0 ≤ x5 then v1 else (let x7 : Int32 := p_X7_of S j 4; (if x7 = 0 then (let x9 : Int32 := p_X7_present S j; (if x9 < (S 1 6) then v1 else (let v21 : Int32 := (if v1 < 0 then 1 else (let x12 : Int32 := p_X7_present S j; (let x13 : Int32 := p_X7_present S (cn v1); (if x13 < x12 then 1 else (let x15 : Int32 := p_X7_present S j; (let x16 : Int32 := p_X7_present S (cn v1); (if x15 = x16 then (let x18 : Int32 := p_X7_of S j 6; (let x19 : Int32 := p_X7_of S (cn v1) 6; (if x18 ≤ x19 then 0 else 1))) else 0))))))); (let v24 : Int32 := (if v21 = 0 then v1 else nI j); v24)))) else v1))))) → Wd E s H locs (fo μ 13 S) → lv_has ls 4 [(2, .int (nI j)), (1, .int v26), (0, .ref (ea E 13 0))] → W p l e (rmO 3 66) s m ([.ref (ea E 13 0)] : List Value).toArray below meth c H locs 0 0 (MQ below (va_Qi (fun x μ' => x = p_X7_found S ∧ μ' = (fo μ 13 S)) (fun μ' t => MB E μ' t.heap) (AA E)) ([.ref (ea E 13 0)] : List Value).toArray s 0 0 (AA E)) (F0 m 119 ls []) := by
          intro v26 H locs ls ev26 hW hl
          refine lv_iinc (v := nI (j + 1)) (lv' := [(2, .int (nI (j + 1))), (1, .int v26), (0, .ref (ea E 13 0))]) F.1 F.2.1 dX7_found_119 hl (k := 0) rfl (ia rfl rfl) (by decide) rfl (fun ls hl => ?_)
          refine lv_goto (tgt := 5) F.1 F.2.1 dX7_found_122 (by decide) ?_
          subst ev26
          subst ex3
          exact ih (j + 1) _ _ _ _ (by omega) (by rw [itN_s, ← hs]; exact (rfl).symm) hW (lv_sub hl [0, 1, 2] rfl)
        refine lv_if_eq (tgt := 119) F.1 F.2.1 dX7_found_21 (by decide) (fun h4 => ?_) (fun h4 => ?_)
        · exact hJ27 _ _ _ _ (if_pos h4).symm hW (lv_sub hl [0, 1, 2] rfl)
        · refine lv_aload_n F.1 F.2.1 dX7_found_24 rfl (lv_at hl 2 rfl) ?_
          refine lv_iload_n F.1 F.2.1 dX7_found_25 rfl (lv_at hl 0 rfl) ?_
          refine jcip (jrunV (As := [.int (nI j)]) (rest := []) F hT hW yc_X7_placeOf yv_X7_placeOf ml_X7_79 oM0 (by decide) rfl (c_X7_placeOf l E μ S (nI j) (by first | assumption | omega)) rfl hl.1 ⟨Nat.le_of_ble_eq_true rfl, Nat.le_of_ble_eq_true rfl⟩ rfl (Nat.le_of_ble_eq_true rfl) ⟨Nat.le_refl _, Nat.le_refl _⟩ dX7_found_26) hW (fun x5 H locs ex5 hW => ?_)
          refine lv_if_ge (tgt := 119) F.1 F.2.1 dX7_found_29 (by decide) (fun h6 => ?_) (fun h6 => ?_)
          · subst ex5
            exact hJ27 _ _ _ _ ((if_neg h4).trans (if_pos h6)).symm hW (lv_sub hl [0, 1, 2] rfl)
          · refine lv_aload_n F.1 F.2.1 dX7_found_32 rfl (lv_at hl 2 rfl) ?_
            refine lv_iload_n F.1 F.2.1 dX7_found_33 rfl (lv_at hl 0 rfl) ?_
            refine lv_iconst (v := 4) F.1 F.2.1 dX7_found_34 (by decide) ?_
            refine jcip (jrunV (As := [.int (nI j), .int 4]) (rest := []) F hT hW yc_X7_of yv_X7_of ml_X7_61 oM0 (by decide) rfl (c_X7_of l E μ S (nI j) j rfl 4 4 (lI 4) (by first | assumption | omega) (by first | assumption | omega)) rfl hl.1 ⟨Nat.le_of_ble_eq_true rfl, Nat.le_of_ble_eq_true rfl⟩ rfl (Nat.le_of_ble_eq_true rfl) ⟨Nat.le_refl _, Nat.le_refl _⟩ dX7_found_35) hW (fun x7 H locs ex7 hW => ?_)
            refine lv_if_ne (tgt := 119) F.1 F.2.1 dX7_found_38 (by decide) (fun h8 => ?_) (fun h8 => ?_)
            · subst ex7
              subst ex5
              exact hJ27 _ _ _ _ ((if_neg h4).trans ((if_neg h6).trans (if_neg h8))).symm hW (lv_sub hl [0, 1, 2] rfl)
            · refine lv_aload_n F.1 F.2.1 dX7_found_41 rfl (lv_at hl 2 rfl) ?_
              refine lv_iload_n F.1 F.2.1 dX7_found_42 rfl (lv_at hl 0 rfl) ?_
              refine jcip (jrunV (As := [.int (nI j)]) (rest := []) F hT hW yc_X7_present yv_X7_present ml_X7_86 oM0 (by decide) rfl (c_X7_present l E μ S (nI j) j rfl (by first | assumption | omega)) rfl hl.1 ⟨Nat.le_of_ble_eq_true rfl, Nat.le_of_ble_eq_true rfl⟩ rfl (Nat.le_of_ble_eq_true rfl) ⟨Nat.le_refl _, Nat.le_refl _⟩ dX7_found_43) hW (fun x9 H locs ex9 hW => ?_)
              refine lv_aload_n F.1 F.2.1 dX7_found_46 rfl (lv_at hl 2 rfl) ?_
              refine jgetR F hT hW fw_X7_7 oM0 (by decide) rfl dX7_found_47 ?_
              refine lv_bipush (v := 6) F.1 F.2.1 dX7_found_50 (by decide) ?_
              refine jiald F hT hW 6 oM1 (by omega) (by decide) (lI 6) rfl dX7_found_52 ?_
              refine lv_icmp_lt (tgt := 119) F.1 F.2.1 dX7_found_53 (by decide) (fun h10 => ?_) (fun h10 => ?_)
              · subst ex9
                subst ex7
                subst ex5
                exact hJ27 _ _ _ _ ((if_neg h4).trans ((if_neg h6).trans ((if_pos h8).trans (if_pos h10)))).symm hW (lv_sub hl [0, 1, 2] rfl)
              · refine lv_iload_n F.1 F.2.1 dX7_found_56 rfl (lv_at hl 1 rfl) ?_
                have hJ22 : ∀ (v21 : Int32) (H : Heap) (locs : List Loc) (ls : Array Slot), v21 = (if v1 < 0 then 1 else (let x12 : Int32 := p_X7_present S j; (let x13 : Int32 := p_X7_present S (cn v1); (if x13 < x12 then 1 else (let x15 : Int32 := p_X7_present S j; (let x16 : Int32 := p_X7_present S (cn v1); (if x15 = x16 then (let x18 : Int32 := p_X7_of S j 6; (let x19 : Int32 := p_X7_of S (cn v1) 6; (if x18 ≤ x19 then 0 else 1))) else 0))))))) → Wd E s H locs (fo μ 13 S) → lv_has ls 4 [(2, .int (nI j)), (1, .int v1), (0, .ref (ea E 13 0))] → W p l e (rmO 3 66) s m ([.ref (ea E 13 0)] : List Value).toArray below meth c H locs 0 0 (MQ below (va_Qi (fun x μ' => x = p_X7_found S ∧ μ' = (fo μ 13 S)) (fun μ' t => MB E μ' t.heap) (AA E)) ([.ref (ea E 13 0)] : List Value).toArray s 0 0 (AA E)) (F0 m 108 ls [.int v21]) := by
                  intro v21 H locs ls ev21 hW hl
                  refine lv_istore_n (lv' := [(3, .int v21), (2, .int (nI j)), (1, .int v1), (0, .ref (ea E 13 0))]) F.1 F.2.1 dX7_found_108 rfl hl (by decide) rfl (fun ls hl => ?_)
                  refine lv_iload_n F.1 F.2.1 dX7_found_109 rfl (lv_at hl 0 rfl) ?_
                  have hJ25 : ∀ (v24 : Int32) (H : Heap) (locs : List Loc) (ls : Array Slot), v24 = (if v21 = 0 then v1 else nI j) → Wd E s H locs (fo μ 13 S) → lv_has ls 4 [(3, .int v21), (2, .int (nI j)), (1, .int v1), (0, .ref (ea E 13 0))] → W p l e (rmO 3 66) s m ([.ref (ea E 13 0)] : List Value).toArray below meth c H locs 0 0 (MQ below (va_Qi (fun x μ' => x = p_X7_found S ∧ μ' = (fo μ 13 S)) (fun μ' t => MB E μ' t.heap) (AA E)) ([.ref (ea E 13 0)] : List Value).toArray s 0 0 (AA E)) (F0 m 118 ls [.int v24]) := by
                    intro v24 H locs ls ev24 hW hl
                    refine lv_istore_n (lv' := [(1, .int v24), (3, .int v21), (2, .int (nI j)), (0, .ref (ea E 13 0))]) F.1 F.2.1 dX7_found_118 rfl hl (by decide) rfl (fun ls hl => ?_)
                    subst ev24
                    subst ev21
                    subst ex9
                    subst ex7
                    subst ex5
                    exact hJ27 _ _ _ _ ((if_neg h4).trans ((if_neg h6).trans ((if_pos h8).trans (if_neg h10)))).symm hW (lv_sub hl [2, 0, 3] rfl)
                  refine lv_if_eq (tgt := 117) F.1 F.2.1 dX7_found_110 (by decide) (fun h23 => ?_) (fun h23 => ?_)
                  · refine lv_iload_n F.1 F.2.1 dX7_found_117 rfl (lv_at hl 2 rfl) ?_
                    exact hJ25 _ _ _ _ (if_pos h23).symm hW (lv_sub hl [0, 1, 2, 3] rfl)
                  · refine lv_iload_n F.1 F.2.1 dX7_found_113 rfl (lv_at hl 1 rfl) ?_
                    refine lv_goto (tgt := 118) F.1 F.2.1 dX7_found_114 (by decide) ?_
                    exact hJ25 _ _ _ _ (if_neg h23).symm hW (lv_sub hl [0, 1, 2, 3] rfl)
                refine lv_if_lt (tgt := 103) F.1 F.2.1 dX7_found_57 (by decide) (fun h11 => ?_) (fun h11 => ?_)
                · refine lv_iconst (v := 1) F.1 F.2.1 dX7_found_103 (by decide) ?_
                  refine lv_goto (tgt := 108) F.1 F.2.1 dX7_found_104 (by decide) ?_
                  exact hJ22 _ _ _ _ (if_pos h11).symm hW (lv_sub hl [0, 1, 2] rfl)
                · refine lv_aload_n F.1 F.2.1 dX7_found_60 rfl (lv_at hl 2 rfl) ?_
                  refine lv_iload_n F.1 F.2.1 dX7_found_61 rfl (lv_at hl 0 rfl) ?_
                  refine jcip (jrunV (As := [.int (nI j)]) (rest := []) F hT hW yc_X7_present yv_X7_present ml_X7_86 oM0 (by decide) rfl (c_X7_present l E μ S (nI j) j rfl (by first | assumption | omega)) rfl hl.1 ⟨Nat.le_of_ble_eq_true rfl, Nat.le_of_ble_eq_true rfl⟩ rfl (Nat.le_of_ble_eq_true rfl) ⟨Nat.le_refl _, Nat.le_refl _⟩ dX7_found_62) hW (fun x12 H locs ex12 hW => ?_)
                  refine lv_aload_n F.1 F.2.1 dX7_found_65 rfl (lv_at hl 2 rfl) ?_
                  refine lv_iload_n F.1 F.2.1 dX7_found_66 rfl (lv_at hl 1 rfl) ?_
                  refine jcip (jrunV (As := [.int v1]) (rest := [.int x12]) F hT hW yc_X7_present yv_X7_present ml_X7_86 oM0 (by decide) rfl (c_X7_present l E μ S v1 (cn v1) ((fx_ge hfd (by assumption)).1) (Nat.lt_of_le_of_lt (fx_ge hfd (by assumption)).2 (by decide))) rfl hl.1 ⟨Nat.le_of_ble_eq_true rfl, Nat.le_of_ble_eq_true rfl⟩ rfl (Nat.le_of_ble_eq_true rfl) ⟨Nat.le_refl _, Nat.le_refl _⟩ dX7_found_67) hW (fun x13 H locs ex13 hW => ?_)
                  refine lv_icmp_gt (tgt := 103) F.1 F.2.1 dX7_found_70 (by decide) (fun h14 => ?_) (fun h14 => ?_)
                  · refine lv_iconst (v := 1) F.1 F.2.1 dX7_found_103 (by decide) ?_
                    refine lv_goto (tgt := 108) F.1 F.2.1 dX7_found_104 (by decide) ?_
                    subst ex13
                    subst ex12
                    exact hJ22 _ _ _ _ ((if_neg h11).trans (if_pos h14)).symm hW (lv_sub hl [0, 1, 2] rfl)
                  · refine lv_aload_n F.1 F.2.1 dX7_found_73 rfl (lv_at hl 2 rfl) ?_
                    refine lv_iload_n F.1 F.2.1 dX7_found_74 rfl (lv_at hl 0 rfl) ?_
                    refine jcip (jrunV (As := [.int (nI j)]) (rest := []) F hT hW yc_X7_present yv_X7_present ml_X7_86 oM0 (by decide) rfl (c_X7_present l E μ S (nI j) j rfl (by first | assumption | omega)) rfl hl.1 ⟨Nat.le_of_ble_eq_true rfl, Nat.le_of_ble_eq_true rfl⟩ rfl (Nat.le_of_ble_eq_true rfl) ⟨Nat.le_refl _, Nat.le_refl _⟩ dX7_found_75) hW (fun x15 H locs ex15 hW => ?_)
                    refine lv_aload_n F.1 F.2.1 dX7_found_78 rfl (lv_at hl 2 rfl) ?_
                    refine lv_iload_n F.1 F.2.1 dX7_found_79 rfl (lv_at hl 1 rfl) ?_
                    refine jcip (jrunV (As := [.int v1]) (rest := [.int x15]) F hT hW yc_X7_present yv_X7_present ml_X7_86 oM0 (by decide) rfl (c_X7_present l E μ S v1 (cn v1) ((fx_ge hfd (by assumption)).1) (Nat.lt_of_le_of_lt (fx_ge hfd (by assumption)).2 (by decide))) rfl hl.1 ⟨Nat.le_of_ble_eq_true rfl, Nat.le_of_ble_eq_true rfl⟩ rfl (Nat.le_of_ble_eq_true rfl) ⟨Nat.le_refl _, Nat.le_refl _⟩ dX7_found_80) hW (fun x16 H locs ex16 hW => ?_)
                    refine lv_icmp_ne (tgt := 107) F.1 F.2.1 dX7_found_83 (by decide) (fun h17 => ?_) (fun h17 => ?_)
                    · refine lv_iconst (v := 0) F.1 F.2.1 dX7_found_107 (by decide) ?_
                      subst ex16
                      subst ex15
                      subst ex13
                      subst ex12
                      exact hJ22 _ _ _ _ ((if_neg h11).trans ((if_neg h14).trans (if_neg h17))).symm hW (lv_sub hl [0, 1, 2] rfl)
                    · refine lv_aload_n F.1 F.2.1 dX7_found_86 rfl (lv_at hl 2 rfl) ?_
                      refine lv_iload_n F.1 F.2.1 dX7_found_87 rfl (lv_at hl 0 rfl) ?_
                      refine lv_bipush (v := 6) F.1 F.2.1 dX7_found_88 (by decide) ?_
                      refine jcip (jrunV (As := [.int (nI j), .int 6]) (rest := []) F hT hW yc_X7_of yv_X7_of ml_X7_61 oM0 (by decide) rfl (c_X7_of l E μ S (nI j) j rfl 6 6 (lI 6) (by first | assumption | omega) (by first | assumption | omega)) rfl hl.1 ⟨Nat.le_of_ble_eq_true rfl, Nat.le_of_ble_eq_true rfl⟩ rfl (Nat.le_of_ble_eq_true rfl) ⟨Nat.le_refl _, Nat.le_refl _⟩ dX7_found_90) hW (fun x18 H locs ex18 hW => ?_)
                      refine lv_aload_n F.1 F.2.1 dX7_found_93 rfl (lv_at hl 2 rfl) ?_
                      refine lv_iload_n F.1 F.2.1 dX7_found_94 rfl (lv_at hl 1 rfl) ?_
                      refine lv_bipush (v := 6) F.1 F.2.1 dX7_found_95 (by decide) ?_
                      refine jcip (jrunV (As := [.int v1, .int 6]) (rest := [.int x18]) F hT hW yc_X7_of yv_X7_of ml_X7_61 oM0 (by decide) rfl (c_X7_of l E μ S v1 (cn v1) ((fx_ge hfd (by assumption)).1) 6 6 (lI 6) (Nat.lt_of_le_of_lt (fx_ge hfd (by assumption)).2 (by decide)) (by first | assumption | omega)) rfl hl.1 ⟨Nat.le_of_ble_eq_true rfl, Nat.le_of_ble_eq_true rfl⟩ rfl (Nat.le_of_ble_eq_true rfl) ⟨Nat.le_refl _, Nat.le_refl _⟩ dX7_found_97) hW (fun x19 H locs ex19 hW => ?_)
                      refine lv_icmp_le (tgt := 107) F.1 F.2.1 dX7_found_100 (by decide) (fun h20 => ?_) (fun h20 => ?_)
                      · refine lv_iconst (v := 0) F.1 F.2.1 dX7_found_107 (by decide) ?_
                        subst ex19
                        subst ex18
                        subst ex16
                        subst ex15
                        subst ex13
                        subst ex12
                        exact hJ22 _ _ _ _ ((if_neg h11).trans ((if_neg h14).trans ((if_pos h17).trans (if_pos h20)))).symm hW (lv_sub hl [0, 1, 2] rfl)
                      · refine lv_iconst (v := 1) F.1 F.2.1 dX7_found_103 (by decide) ?_
                        refine lv_goto (tgt := 108) F.1 F.2.1 dX7_found_104 (by decide) ?_
                        subst ex19
                        subst ex18
                        subst ex16
                        subst ex15
                        subst ex13
                        subst ex12
                        exact hJ22 _ _ _ _ ((if_neg h11).trans ((if_neg h14).trans ((if_pos h17).trans (if_neg h20)))).symm hW (lv_sub hl [0, 1, 2] rfl)
  exact hL2 (cn (S 1 8)) 0 (-6) _ _ _ (by omega) rfl hW (lv_sub hl [0, 1, 2] rfl)

def p_X7_begin (S : Sv) (li : Nat) : Sv :=
  let x1 : Int32 := p_X7_of S li 6
  let S2 : Sv := us S 1 (220 + 4 * (cn (S 1 10))) (nI li)
  let x3 : Int32 := p_X7_present S2 li
  let S4 : Sv := us S2 1 (220 + 4 * (cn (S 1 10)) + 1) x3
  let x5 : Int32 := p_X7_of S4 li 1
  let S6 : Sv := us S4 1 (220 + 4 * (cn (S 1 10)) + 2) (x5 + (S4 1 4))
  let S7 : Sv := us S6 1 (220 + 4 * (cn (S 1 10)) + 3) (S6 1 7)
  let v9 : Int32 := (if (S7 1 10) ≤ 0 then 0 else 1)
  let S11 : Sv := us S7 1 13 ((S7 1 13) + v9)
  let S12 : Sv := us S11 1 10 ((S11 1 10) + 1)
  let v14 : Int32 := (if (S12 1 10) ≤ (S12 1 12) then S12 1 12 else S12 1 10)
  let S16 : Sv := us S12 1 12 v14
  let S17 : Sv := p_X7_book S16 li 10 1 1
  let S18 : Sv := p_X7_book S17 li 13 x1 1
  let x19 : Int32 := p_X7_of S18 li 12
  let v22 : Int32 := (if x1 ≤ x19 then (let x21 : Int32 := p_X7_of S18 li 12; x21) else x1)
  let S24 : Sv := p_X7_book S18 li 12 v22 0
  let x25 : Int32 := p_X7_of S24 li 2
  let v29 : Int32 := (if x25 ≤ 0 then 0 else (let x27 : Int32 := p_X7_of S24 li 2; (if x1 ≤ x27 then 0 else 1)))
  let S31 : Sv := p_X7_book S24 li 14 v29 1
  let S32 : Sv := p_X7_turn S31 li 0
  S32

set_option maxHeartbeats 4000000 in
set_option maxRecDepth 100000 in
theorem c_X7_begin (l : Launch) (E : mE) (μ : Mu) (S : Sv) (xl : Int32) (li : Nat) (exl : xl = nI li) (hli : li < 12) (hd : Bn (S 1 10) 8) (hd8 : cn (S 1 10) < 8) : CtV l E yX7_begin cX7_begin 4 3 66 [.ref (ea E 13 0), .int xl] (fo μ 13 S) (fun μ' => μ' = fo μ 13 (p_X7_begin S li)) := by
  subst exl
  refine jMet (by decide +kernel) (Nat.le_of_ble_eq_true rfl) ?_
  intro p e s m below meth c ls F hT hr0 hlk hW hl
  have F : CallFix p m c cX7_begin 4 s _ TB RX7 := F
  have hl : lv_has ls 4 [(0, .ref (ea E 13 0)), (1, .int (nI li))] := hl
  refine lv_aload_n F.1 F.2.1 dX7_begin_0 rfl (lv_at hl 0 rfl) ?_
  refine lv_iload_n F.1 F.2.1 dX7_begin_1 rfl (lv_at hl 1 rfl) ?_
  refine lv_bipush (v := 6) F.1 F.2.1 dX7_begin_2 (by decide) ?_
  refine jcip (jrunV (As := [.int (nI li), .int 6]) (rest := []) F hT hW yc_X7_of yv_X7_of ml_X7_61 oM0 (by decide) rfl (c_X7_of l E μ S (nI li) li rfl 6 6 (lI 6) (by first | assumption | omega) (by first | assumption | omega)) rfl hl.1 ⟨Nat.le_of_ble_eq_true rfl, Nat.le_of_ble_eq_true rfl⟩ rfl (Nat.le_of_ble_eq_true rfl) ⟨Nat.le_refl _, Nat.le_refl _⟩ dX7_begin_4) hW (fun x1 H locs ex1 hW => ?_)
  refine lv_istore_n (lv' := [(2, .int x1), (0, .ref (ea E 13 0)), (1, .int (nI li))]) F.1 F.2.1 dX7_begin_7 rfl hl (by decide) rfl (fun ls hl => ?_)
  refine lv_sipush (v := 220) F.1 F.2.1 dX7_begin_8 (by decide) ?_
  refine lv_iconst (v := 4) F.1 F.2.1 dX7_begin_11 (by decide) ?_
  refine lv_aload_n F.1 F.2.1 dX7_begin_12 rfl (lv_at hl 1 rfl) ?_
  refine jgetR F hT hW fw_X7_7 oM0 (by decide) rfl dX7_begin_13 ?_
  refine lv_bipush (v := 10) F.1 F.2.1 dX7_begin_16 (by decide) ?_
  refine jiald F hT hW 10 oM1 (by omega) (by decide) (lI 10) rfl dX7_begin_18 ?_
  refine lv_imul F.1 F.2.1 dX7_begin_19 ?_
  refine lv_iadd F.1 F.2.1 dX7_begin_20 ?_
  refine lv_istore_n (lv' := [(3, .int (220 + (4 * (S 1 10)))), (2, .int x1), (0, .ref (ea E 13 0)), (1, .int (nI li))]) F.1 F.2.1 dX7_begin_21 rfl hl (by decide) rfl (fun ls hl => ?_)
  refine lv_aload_n F.1 F.2.1 dX7_begin_22 rfl (lv_at hl 2 rfl) ?_
  refine jgetR F hT hW fw_X7_7 oM0 (by decide) rfl dX7_begin_23 ?_
  refine lv_iload_n F.1 F.2.1 dX7_begin_26 rfl (lv_at hl 0 rfl) ?_
  refine lv_iload_n F.1 F.2.1 dX7_begin_27 rfl (lv_at hl 3 rfl) ?_
  refine jiast F hT hW (220 + 4 * (cn (S 1 10))) oM1 (by decide) (by omega) (by decide) (ia (lI 220) (im (lI 4) hd.1)) rfl dX7_begin_28 (fun S2 H locs eS2 hW => ?_)
  refine lv_aload_n F.1 F.2.1 dX7_begin_29 rfl (lv_at hl 2 rfl) ?_
  refine jgetR F hT hW fw_X7_7 oM0 (by decide) rfl dX7_begin_30 ?_
  refine lv_iload_n F.1 F.2.1 dX7_begin_33 rfl (lv_at hl 0 rfl) ?_
  refine lv_iconst (v := 1) F.1 F.2.1 dX7_begin_34 (by decide) ?_
  refine lv_iadd F.1 F.2.1 dX7_begin_35 ?_
  refine lv_aload_n F.1 F.2.1 dX7_begin_36 rfl (lv_at hl 2 rfl) ?_
  refine lv_iload_n F.1 F.2.1 dX7_begin_37 rfl (lv_at hl 3 rfl) ?_
  refine jcip (jrunV (As := [.int (nI li)]) (rest := [.int ((220 + (4 * (S 1 10))) + 1), .ref (ea E 13 1)]) F hT hW yc_X7_present yv_X7_present ml_X7_86 oM0 (by decide) rfl (c_X7_present l E μ S2 (nI li) li rfl (by first | assumption | omega)) rfl hl.1 ⟨Nat.le_of_ble_eq_true rfl, Nat.le_of_ble_eq_true rfl⟩ rfl (Nat.le_of_ble_eq_true rfl) ⟨Nat.le_refl _, Nat.le_refl _⟩ dX7_begin_38) hW (fun x3 H locs ex3 hW => ?_)
  refine jiast F hT hW (220 + 4 * (cn (S 1 10)) + 1) oM1 (by decide) (by omega) (by decide) (ia (ia (lI 220) (im (lI 4) hd.1)) (lI 1)) rfl dX7_begin_41 (fun S4 H locs eS4 hW => ?_)
  refine lv_aload_n F.1 F.2.1 dX7_begin_42 rfl (lv_at hl 2 rfl) ?_
  refine jgetR F hT hW fw_X7_7 oM0 (by decide) rfl dX7_begin_43 ?_
  refine lv_iload_n F.1 F.2.1 dX7_begin_46 rfl (lv_at hl 0 rfl) ?_
  refine lv_iconst (v := 2) F.1 F.2.1 dX7_begin_47 (by decide) ?_
  refine lv_iadd F.1 F.2.1 dX7_begin_48 ?_
  refine lv_aload_n F.1 F.2.1 dX7_begin_49 rfl (lv_at hl 2 rfl) ?_
  refine lv_iload_n F.1 F.2.1 dX7_begin_50 rfl (lv_at hl 3 rfl) ?_
  refine lv_iconst (v := 1) F.1 F.2.1 dX7_begin_51 (by decide) ?_
  refine jcip (jrunV (As := [.int (nI li), .int 1]) (rest := [.int ((220 + (4 * (S 1 10))) + 2), .ref (ea E 13 1)]) F hT hW yc_X7_of yv_X7_of ml_X7_61 oM0 (by decide) rfl (c_X7_of l E μ S4 (nI li) li rfl 1 1 (lI 1) (by first | assumption | omega) (by first | assumption | omega)) rfl hl.1 ⟨Nat.le_of_ble_eq_true rfl, Nat.le_of_ble_eq_true rfl⟩ rfl (Nat.le_of_ble_eq_true rfl) ⟨Nat.le_refl _, Nat.le_refl _⟩ dX7_begin_52) hW (fun x5 H locs ex5 hW => ?_)
  refine lv_aload_n F.1 F.2.1 dX7_begin_55 rfl (lv_at hl 2 rfl) ?_
  refine jgetR F hT hW fw_X7_7 oM0 (by decide) rfl dX7_begin_56 ?_
  refine lv_iconst (v := 4) F.1 F.2.1 dX7_begin_59 (by decide) ?_
  refine jiald F hT hW 4 oM1 (by omega) (by decide) (lI 4) rfl dX7_begin_60 ?_
  refine lv_iadd F.1 F.2.1 dX7_begin_61 ?_
  refine jiast F hT hW (220 + 4 * (cn (S 1 10)) + 2) oM1 (by decide) (by omega) (by decide) (ia (ia (lI 220) (im (lI 4) hd.1)) (lI 2)) rfl dX7_begin_62 (fun S6 H locs eS6 hW => ?_)
  refine lv_aload_n F.1 F.2.1 dX7_begin_63 rfl (lv_at hl 2 rfl) ?_
  refine jgetR F hT hW fw_X7_7 oM0 (by decide) rfl dX7_begin_64 ?_
  refine lv_iload_n F.1 F.2.1 dX7_begin_67 rfl (lv_at hl 0 rfl) ?_
  refine lv_iconst (v := 3) F.1 F.2.1 dX7_begin_68 (by decide) ?_
  refine lv_iadd F.1 F.2.1 dX7_begin_69 ?_
  refine lv_aload_n F.1 F.2.1 dX7_begin_70 rfl (lv_at hl 2 rfl) ?_
  refine jgetR F hT hW fw_X7_7 oM0 (by decide) rfl dX7_begin_71 ?_
  refine lv_bipush (v := 7) F.1 F.2.1 dX7_begin_74 (by decide) ?_
  refine jiald F hT hW 7 oM1 (by omega) (by decide) (lI 7) rfl dX7_begin_76 ?_
  refine jiast F hT hW (220 + 4 * (cn (S 1 10)) + 3) oM1 (by decide) (by omega) (by decide) (ia (ia (lI 220) (im (lI 4) hd.1)) (lI 3)) rfl dX7_begin_77 (fun S7 H locs eS7 hW => ?_)
  refine lv_aload_n F.1 F.2.1 dX7_begin_78 rfl (lv_at hl 2 rfl) ?_
  refine jgetR F hT hW fw_X7_7 oM0 (by decide) rfl dX7_begin_79 ?_
  refine lv_bipush (v := 13) F.1 F.2.1 dX7_begin_82 (by decide) ?_
  refine lv_dup2_11 F.1 F.2.1 dX7_begin_84 rfl rfl ?_
  refine jiald F hT hW 13 oM1 (by omega) (by decide) (lI 13) rfl dX7_begin_85 ?_
  refine lv_aload_n F.1 F.2.1 dX7_begin_86 rfl (lv_at hl 2 rfl) ?_
  refine jgetR F hT hW fw_X7_7 oM0 (by decide) rfl dX7_begin_87 ?_
  refine lv_bipush (v := 10) F.1 F.2.1 dX7_begin_90 (by decide) ?_
  refine jiald F hT hW 10 oM1 (by omega) (by decide) (lI 10) rfl dX7_begin_92 ?_
  have hJ10 : ∀ (v9 : Int32) (H : Heap) (locs : List Loc) (ls : Array Slot), v9 = (if (S7 1 10) ≤ 0 then 0 else 1) → Wd E s H locs (fo μ 13 S7) → lv_has ls 4 [(3, .int (220 + (4 * (S 1 10)))), (2, .int x1), (0, .ref (ea E 13 0)), (1, .int (nI li))] → W p l e (rmO 3 66) s m ([.ref (ea E 13 0), .int (nI li)] : List Value).toArray below meth c H locs 0 0 (MQ below (va_Qv (fun μ' => μ' = fo μ 13 (p_X7_begin S li)) (fun μ' t => MB E μ' t.heap) (AA E)) ([.ref (ea E 13 0), .int (nI li)] : List Value).toArray s 0 0 (AA E)) (F0 m 101 ls [.int v9, .int (S7 1 13), .int 13, .ref (ea E 13 1)]) := by
    intro v9 H locs ls ev9 hW hl
    refine lv_iadd F.1 F.2.1 dX7_begin_101 ?_
    refine jiast F hT hW 13 oM1 (by decide) (by omega) (by decide) (lI 13) rfl dX7_begin_102 (fun S11 H locs eS11 hW => ?_)
    refine lv_aload_n F.1 F.2.1 dX7_begin_103 rfl (lv_at hl 2 rfl) ?_
    refine jgetR F hT hW fw_X7_7 oM0 (by decide) rfl dX7_begin_104 ?_
    refine lv_bipush (v := 10) F.1 F.2.1 dX7_begin_107 (by decide) ?_
    refine lv_dup2_11 F.1 F.2.1 dX7_begin_109 rfl rfl ?_
    refine jiald F hT hW 10 oM1 (by omega) (by decide) (lI 10) rfl dX7_begin_110 ?_
    refine lv_iconst (v := 1) F.1 F.2.1 dX7_begin_111 (by decide) ?_
    refine lv_iadd F.1 F.2.1 dX7_begin_112 ?_
    refine jiast F hT hW 10 oM1 (by decide) (by omega) (by decide) (lI 10) rfl dX7_begin_113 (fun S12 H locs eS12 hW => ?_)
    refine lv_aload_n F.1 F.2.1 dX7_begin_114 rfl (lv_at hl 2 rfl) ?_
    refine jgetR F hT hW fw_X7_7 oM0 (by decide) rfl dX7_begin_115 ?_
    refine lv_bipush (v := 12) F.1 F.2.1 dX7_begin_118 (by decide) ?_
    refine lv_aload_n F.1 F.2.1 dX7_begin_120 rfl (lv_at hl 2 rfl) ?_
    refine jgetR F hT hW fw_X7_7 oM0 (by decide) rfl dX7_begin_121 ?_
    refine lv_bipush (v := 10) F.1 F.2.1 dX7_begin_124 (by decide) ?_
    refine jiald F hT hW 10 oM1 (by omega) (by decide) (lI 10) rfl dX7_begin_126 ?_
    refine lv_aload_n F.1 F.2.1 dX7_begin_127 rfl (lv_at hl 2 rfl) ?_
    refine jgetR F hT hW fw_X7_7 oM0 (by decide) rfl dX7_begin_128 ?_
    refine lv_bipush (v := 12) F.1 F.2.1 dX7_begin_131 (by decide) ?_
    refine jiald F hT hW 12 oM1 (by omega) (by decide) (lI 12) rfl dX7_begin_133 ?_
    have hJ15 : ∀ (v14 : Int32) (H : Heap) (locs : List Loc) (ls : Array Slot), v14 = (if (S12 1 10) ≤ (S12 1 12) then S12 1 12 else S12 1 10) → Wd E s H locs (fo μ 13 S12) → lv_has ls 4 [(3, .int (220 + (4 * (S 1 10)))), (2, .int x1), (0, .ref (ea E 13 0)), (1, .int (nI li))] → W p l e (rmO 3 66) s m ([.ref (ea E 13 0), .int (nI li)] : List Value).toArray below meth c H locs 0 0 (MQ below (va_Qv (fun μ' => μ' = fo μ 13 (p_X7_begin S li)) (fun μ' t => MB E μ' t.heap) (AA E)) ([.ref (ea E 13 0), .int (nI li)] : List Value).toArray s 0 0 (AA E)) (F0 m 154 ls [.int v14, .int 12, .ref (ea E 13 1)]) := by
      intro v14 H locs ls ev14 hW hl
      refine jiast F hT hW 12 oM1 (by decide) (by omega) (by decide) (lI 12) rfl dX7_begin_154 (fun S16 H locs eS16 hW => ?_)
      refine lv_aload_n F.1 F.2.1 dX7_begin_155 rfl (lv_at hl 2 rfl) ?_
      refine lv_iload_n F.1 F.2.1 dX7_begin_156 rfl (lv_at hl 3 rfl) ?_
      refine lv_bipush (v := 10) F.1 F.2.1 dX7_begin_157 (by decide) ?_
      refine lv_iconst (v := 1) F.1 F.2.1 dX7_begin_159 (by decide) ?_
      refine lv_iconst (v := 1) F.1 F.2.1 dX7_begin_160 (by decide) ?_
      refine jcvf (jrunV (As := [.int (nI li), .int 10, .int 1, .int 1]) (rest := []) F hT hW yc_X7_book yv_X7_book ml_X7_65 oM0 (by decide) rfl (c_X7_book l E μ S16 (nI li) li rfl 10 10 (lI 10) 1 1 (by first | assumption | omega) (by first | assumption | omega)) rfl hl.1 ⟨Nat.le_of_ble_eq_true rfl, Nat.le_of_ble_eq_true rfl⟩ rfl (Nat.le_of_ble_eq_true rfl) ⟨Nat.le_refl _, Nat.le_refl _⟩ dX7_begin_161) hW (fun S17 H locs eS17 hW => ?_)
      refine lv_aload_n F.1 F.2.1 dX7_begin_164 rfl (lv_at hl 2 rfl) ?_
      refine lv_iload_n F.1 F.2.1 dX7_begin_165 rfl (lv_at hl 3 rfl) ?_
      refine lv_bipush (v := 13) F.1 F.2.1 dX7_begin_166 (by decide) ?_
      refine lv_iload_n F.1 F.2.1 dX7_begin_168 rfl (lv_at hl 1 rfl) ?_
      refine lv_iconst (v := 1) F.1 F.2.1 dX7_begin_169 (by decide) ?_
      refine jcvf (jrunV (As := [.int (nI li), .int 13, .int x1, .int 1]) (rest := []) F hT hW yc_X7_book yv_X7_book ml_X7_65 oM0 (by decide) rfl (c_X7_book l E μ S17 (nI li) li rfl 13 13 (lI 13) x1 1 (by first | assumption | omega) (by first | assumption | omega)) rfl hl.1 ⟨Nat.le_of_ble_eq_true rfl, Nat.le_of_ble_eq_true rfl⟩ rfl (Nat.le_of_ble_eq_true rfl) ⟨Nat.le_refl _, Nat.le_refl _⟩ dX7_begin_170) hW (fun S18 H locs eS18 hW => ?_)
      refine lv_aload_n F.1 F.2.1 dX7_begin_173 rfl (lv_at hl 2 rfl) ?_
      refine lv_iload_n F.1 F.2.1 dX7_begin_174 rfl (lv_at hl 3 rfl) ?_
      refine lv_bipush (v := 12) F.1 F.2.1 dX7_begin_175 (by decide) ?_
      refine lv_iload_n F.1 F.2.1 dX7_begin_177 rfl (lv_at hl 1 rfl) ?_
      refine lv_aload_n F.1 F.2.1 dX7_begin_178 rfl (lv_at hl 2 rfl) ?_
      refine lv_iload_n F.1 F.2.1 dX7_begin_179 rfl (lv_at hl 3 rfl) ?_
      refine lv_bipush (v := 12) F.1 F.2.1 dX7_begin_180 (by decide) ?_
      refine jcip (jrunV (As := [.int (nI li), .int 12]) (rest := [.int x1, .int 12, .int (nI li), .ref (ea E 13 0)]) F hT hW yc_X7_of yv_X7_of ml_X7_61 oM0 (by decide) rfl (c_X7_of l E μ S18 (nI li) li rfl 12 12 (lI 12) (by first | assumption | omega) (by first | assumption | omega)) rfl hl.1 ⟨Nat.le_of_ble_eq_true rfl, Nat.le_of_ble_eq_true rfl⟩ rfl (Nat.le_of_ble_eq_true rfl) ⟨Nat.le_refl _, Nat.le_refl _⟩ dX7_begin_182) hW (fun x19 H locs ex19 hW => ?_)
      have hJ23 : ∀ (v22 : Int32) (H : Heap) (locs : List Loc) (ls : Array Slot), v22 = (if x1 ≤ x19 then (let x21 : Int32 := p_X7_of S18 li 12; x21) else x1) → Wd E s H locs (fo μ 13 S18) → lv_has ls 4 [(3, .int (220 + (4 * (S 1 10)))), (2, .int x1), (0, .ref (ea E 13 0)), (1, .int (nI li))] → W p l e (rmO 3 66) s m ([.ref (ea E 13 0), .int (nI li)] : List Value).toArray below meth c H locs 0 0 (MQ below (va_Qv (fun μ' => μ' = fo μ 13 (p_X7_begin S li)) (fun μ' t => MB E μ' t.heap) (AA E)) ([.ref (ea E 13 0), .int (nI li)] : List Value).toArray s 0 0 (AA E)) (F0 m 199 ls [.int v22, .int 12, .int (nI li), .ref (ea E 13 0)]) := by
        intro v22 H locs ls ev22 hW hl
        refine lv_iconst (v := 0) F.1 F.2.1 dX7_begin_199 (by decide) ?_
        refine jcvf (jrunV (As := [.int (nI li), .int 12, .int v22, .int 0]) (rest := []) F hT hW yc_X7_book yv_X7_book ml_X7_65 oM0 (by decide) rfl (c_X7_book l E μ S18 (nI li) li rfl 12 12 (lI 12) v22 0 (by first | assumption | omega) (by first | assumption | omega)) rfl hl.1 ⟨Nat.le_of_ble_eq_true rfl, Nat.le_of_ble_eq_true rfl⟩ rfl (Nat.le_of_ble_eq_true rfl) ⟨Nat.le_refl _, Nat.le_refl _⟩ dX7_begin_200) hW (fun S24 H locs eS24 hW => ?_)
        refine lv_aload_n F.1 F.2.1 dX7_begin_203 rfl (lv_at hl 2 rfl) ?_
        refine lv_iload_n F.1 F.2.1 dX7_begin_204 rfl (lv_at hl 3 rfl) ?_
        refine lv_bipush (v := 14) F.1 F.2.1 dX7_begin_205 (by decide) ?_
        refine lv_aload_n F.1 F.2.1 dX7_begin_207 rfl (lv_at hl 2 rfl) ?_
        refine lv_iload_n F.1 F.2.1 dX7_begin_208 rfl (lv_at hl 3 rfl) ?_
        refine lv_iconst (v := 2) F.1 F.2.1 dX7_begin_209 (by decide) ?_
        refine jcip (jrunV (As := [.int (nI li), .int 2]) (rest := [.int 14, .int (nI li), .ref (ea E 13 0)]) F hT hW yc_X7_of yv_X7_of ml_X7_61 oM0 (by decide) rfl (c_X7_of l E μ S24 (nI li) li rfl 2 2 (lI 2) (by first | assumption | omega) (by first | assumption | omega)) rfl hl.1 ⟨Nat.le_of_ble_eq_true rfl, Nat.le_of_ble_eq_true rfl⟩ rfl (Nat.le_of_ble_eq_true rfl) ⟨Nat.le_refl _, Nat.le_refl _⟩ dX7_begin_210) hW (fun x25 H locs ex25 hW => ?_)
        have hJ30 : ∀ (v29 : Int32) (H : Heap) (locs : List Loc) (ls : Array Slot), v29 = (if x25 ≤ 0 then 0 else (let x27 : Int32 := p_X7_of S24 li 2; (if x1 ≤ x27 then 0 else 1))) → Wd E s H locs (fo μ 13 S24) → lv_has ls 4 [(3, .int (220 + (4 * (S 1 10)))), (2, .int x1), (0, .ref (ea E 13 0)), (1, .int (nI li))] → W p l e (rmO 3 66) s m ([.ref (ea E 13 0), .int (nI li)] : List Value).toArray below meth c H locs 0 0 (MQ below (va_Qv (fun μ' => μ' = fo μ 13 (p_X7_begin S li)) (fun μ' t => MB E μ' t.heap) (AA E)) ([.ref (ea E 13 0), .int (nI li)] : List Value).toArray s 0 0 (AA E)) (F0 m 231 ls [.int v29, .int 14, .int (nI li), .ref (ea E 13 0)]) := by
          intro v29 H locs ls ev29 hW hl
          refine lv_iconst (v := 1) F.1 F.2.1 dX7_begin_231 (by decide) ?_
          refine jcvf (jrunV (As := [.int (nI li), .int 14, .int v29, .int 1]) (rest := []) F hT hW yc_X7_book yv_X7_book ml_X7_65 oM0 (by decide) rfl (c_X7_book l E μ S24 (nI li) li rfl 14 14 (lI 14) v29 1 (by first | assumption | omega) (by first | assumption | omega)) rfl hl.1 ⟨Nat.le_of_ble_eq_true rfl, Nat.le_of_ble_eq_true rfl⟩ rfl (Nat.le_of_ble_eq_true rfl) ⟨Nat.le_refl _, Nat.le_refl _⟩ dX7_begin_232) hW (fun S31 H locs eS31 hW => ?_)
          refine lv_aload_n F.1 F.2.1 dX7_begin_235 rfl (lv_at hl 2 rfl) ?_
          refine lv_iload_n F.1 F.2.1 dX7_begin_236 rfl (lv_at hl 3 rfl) ?_
          refine lv_iconst (v := 0) F.1 F.2.1 dX7_begin_237 (by decide) ?_
          refine jcvf (jrunV (As := [.int (nI li), .int 0]) (rest := []) F hT hW yc_X7_turn yv_X7_turn ml_X7_72 oM0 (by decide) rfl (c_X7_turn l E μ S31 (nI li) li rfl 0 (by first | assumption | omega)) rfl hl.1 ⟨Nat.le_of_ble_eq_true rfl, Nat.le_of_ble_eq_true rfl⟩ rfl (Nat.le_of_ble_eq_true rfl) ⟨Nat.le_refl _, Nat.le_refl _⟩ dX7_begin_238) hW (fun S32 H locs eS32 hW => ?_)
          have hq : S32 = p_X7_begin S li := by
            subst eS32
            subst eS31
            subst ev29
            subst ex25
            subst eS24
            subst ev22
            subst ex19
            subst eS18
            subst eS17
            subst eS16
            subst ev14
            subst eS12
            subst eS11
            subst ev9
            subst eS7
            subst eS6
            subst ex5
            subst eS4
            subst ex3
            subst eS2
            subst ex1
            exact (rfl).symm
          exact jrv F hr0 hlk hW dX7_begin_241 (congrArg (fun z => fo μ 13 z) hq)
        refine lv_if_le (tgt := 230) F.1 F.2.1 dX7_begin_213 (by decide) (fun h26 => ?_) (fun h26 => ?_)
        · refine lv_iconst (v := 0) F.1 F.2.1 dX7_begin_230 (by decide) ?_
          exact hJ30 _ _ _ _ (if_pos h26).symm hW (lv_sub hl [0, 1, 2, 3] rfl)
        · refine lv_iload_n F.1 F.2.1 dX7_begin_216 rfl (lv_at hl 1 rfl) ?_
          refine lv_aload_n F.1 F.2.1 dX7_begin_217 rfl (lv_at hl 2 rfl) ?_
          refine lv_iload_n F.1 F.2.1 dX7_begin_218 rfl (lv_at hl 3 rfl) ?_
          refine lv_iconst (v := 2) F.1 F.2.1 dX7_begin_219 (by decide) ?_
          refine jcip (jrunV (As := [.int (nI li), .int 2]) (rest := [.int x1, .int 14, .int (nI li), .ref (ea E 13 0)]) F hT hW yc_X7_of yv_X7_of ml_X7_61 oM0 (by decide) rfl (c_X7_of l E μ S24 (nI li) li rfl 2 2 (lI 2) (by first | assumption | omega) (by first | assumption | omega)) rfl hl.1 ⟨Nat.le_of_ble_eq_true rfl, Nat.le_of_ble_eq_true rfl⟩ rfl (Nat.le_of_ble_eq_true rfl) ⟨Nat.le_refl _, Nat.le_refl _⟩ dX7_begin_220) hW (fun x27 H locs ex27 hW => ?_)
          refine lv_icmp_le (tgt := 230) F.1 F.2.1 dX7_begin_223 (by decide) (fun h28 => ?_) (fun h28 => ?_)
          · refine lv_iconst (v := 0) F.1 F.2.1 dX7_begin_230 (by decide) ?_
            subst ex27
            exact hJ30 _ _ _ _ ((if_neg h26).trans (if_pos h28)).symm hW (lv_sub hl [0, 1, 2, 3] rfl)
          · refine lv_iconst (v := 1) F.1 F.2.1 dX7_begin_226 (by decide) ?_
            refine lv_goto (tgt := 231) F.1 F.2.1 dX7_begin_227 (by decide) ?_
            subst ex27
            exact hJ30 _ _ _ _ ((if_neg h26).trans (if_neg h28)).symm hW (lv_sub hl [0, 1, 2, 3] rfl)
      refine lv_icmp_le (tgt := 192) F.1 F.2.1 dX7_begin_185 (by decide) (fun h20 => ?_) (fun h20 => ?_)
      · refine lv_aload_n F.1 F.2.1 dX7_begin_192 rfl (lv_at hl 2 rfl) ?_
        refine lv_iload_n F.1 F.2.1 dX7_begin_193 rfl (lv_at hl 3 rfl) ?_
        refine lv_bipush (v := 12) F.1 F.2.1 dX7_begin_194 (by decide) ?_
        refine jcip (jrunV (As := [.int (nI li), .int 12]) (rest := [.int 12, .int (nI li), .ref (ea E 13 0)]) F hT hW yc_X7_of yv_X7_of ml_X7_61 oM0 (by decide) rfl (c_X7_of l E μ S18 (nI li) li rfl 12 12 (lI 12) (by first | assumption | omega) (by first | assumption | omega)) rfl hl.1 ⟨Nat.le_of_ble_eq_true rfl, Nat.le_of_ble_eq_true rfl⟩ rfl (Nat.le_of_ble_eq_true rfl) ⟨Nat.le_refl _, Nat.le_refl _⟩ dX7_begin_196) hW (fun x21 H locs ex21 hW => ?_)
        subst ex21
        exact hJ23 _ _ _ _ (if_pos h20).symm hW (lv_sub hl [0, 1, 2, 3] rfl)
      · refine lv_iload_n F.1 F.2.1 dX7_begin_188 rfl (lv_at hl 1 rfl) ?_
        refine lv_goto (tgt := 199) F.1 F.2.1 dX7_begin_189 (by decide) ?_
        exact hJ23 _ _ _ _ (if_neg h20).symm hW (lv_sub hl [0, 1, 2, 3] rfl)
    refine lv_icmp_le (tgt := 147) F.1 F.2.1 dX7_begin_134 (by decide) (fun h13 => ?_) (fun h13 => ?_)
    · refine lv_aload_n F.1 F.2.1 dX7_begin_147 rfl (lv_at hl 2 rfl) ?_
      refine jgetR F hT hW fw_X7_7 oM0 (by decide) rfl dX7_begin_148 ?_
      refine lv_bipush (v := 12) F.1 F.2.1 dX7_begin_151 (by decide) ?_
      refine jiald F hT hW 12 oM1 (by omega) (by decide) (lI 12) rfl dX7_begin_153 ?_
      exact hJ15 _ _ _ _ (if_pos h13).symm hW (lv_sub hl [0, 1, 2, 3] rfl)
    · refine lv_aload_n F.1 F.2.1 dX7_begin_137 rfl (lv_at hl 2 rfl) ?_
      refine jgetR F hT hW fw_X7_7 oM0 (by decide) rfl dX7_begin_138 ?_
      refine lv_bipush (v := 10) F.1 F.2.1 dX7_begin_141 (by decide) ?_
      refine jiald F hT hW 10 oM1 (by omega) (by decide) (lI 10) rfl dX7_begin_143 ?_
      refine lv_goto (tgt := 154) F.1 F.2.1 dX7_begin_144 (by decide) ?_
      exact hJ15 _ _ _ _ (if_neg h13).symm hW (lv_sub hl [0, 1, 2, 3] rfl)
  refine lv_if_le (tgt := 100) F.1 F.2.1 dX7_begin_93 (by decide) (fun h8 => ?_) (fun h8 => ?_)
  · refine lv_iconst (v := 0) F.1 F.2.1 dX7_begin_100 (by decide) ?_
    exact hJ10 _ _ _ _ (if_pos h8).symm hW (lv_sub hl [0, 1, 2, 3] rfl)
  · refine lv_iconst (v := 1) F.1 F.2.1 dX7_begin_96 (by decide) ?_
    refine lv_goto (tgt := 101) F.1 F.2.1 dX7_begin_97 (by decide) ?_
    exact hJ10 _ _ _ _ (if_neg h8).symm hW (lv_sub hl [0, 1, 2, 3] rfl)

def p_X7_end (S : Sv) (li : Nat) : Sv :=
  let S1 : Sv := us S 1 10 ((S 1 10) - 1)
  let S2 : Sv := p_X7_book S1 li 11 1 1
  let x3 : Int32 := p_X7_of S2 li 3
  let S8 : Sv := (if x3 = 1 then (let x5 : Int32 := p_X7_of S2 li 7; (let S6 : Sv := p_X7_book S2 li 7 (x5 &&& (x5 - 1)) 0; (let S7 : Sv := p_X7_look S6 li; S7))) else S2)
  S8

set_option maxHeartbeats 4000000 in
set_option maxRecDepth 100000 in
theorem c_X7_end (l : Launch) (E : mE) (μ : Mu) (S : Sv) (xl : Int32) (li : Nat) (exl : xl = nI li) (hli : li < 12) (hd : Bn (S 1 10) 8) (hd0 : 0 < cn (S 1 10)) : CtV l E yX7_end cX7_end 3 3 69 [.ref (ea E 13 0), .int xl] (fo μ 13 S) (fun μ' => μ' = fo μ 13 (p_X7_end S li)) := by
  subst exl
  refine jMet (by decide +kernel) (Nat.le_of_ble_eq_true rfl) ?_
  intro p e s m below meth c ls F hT hr0 hlk hW hl
  have F : CallFix p m c cX7_end 3 s _ TB RX7 := F
  have hl : lv_has ls 3 [(0, .ref (ea E 13 0)), (1, .int (nI li))] := hl
  refine lv_aload_n F.1 F.2.1 dX7_end_0 rfl (lv_at hl 0 rfl) ?_
  refine jgetR F hT hW fw_X7_7 oM0 (by decide) rfl dX7_end_1 ?_
  refine lv_bipush (v := 10) F.1 F.2.1 dX7_end_4 (by decide) ?_
  refine lv_dup2_11 F.1 F.2.1 dX7_end_6 rfl rfl ?_
  refine jiald F hT hW 10 oM1 (by omega) (by decide) (lI 10) rfl dX7_end_7 ?_
  refine lv_iconst (v := 1) F.1 F.2.1 dX7_end_8 (by decide) ?_
  refine lv_isub F.1 F.2.1 dX7_end_9 ?_
  refine jiast F hT hW 10 oM1 (by decide) (by omega) (by decide) (lI 10) rfl dX7_end_10 (fun S1 H locs eS1 hW => ?_)
  refine lv_aload_n F.1 F.2.1 dX7_end_11 rfl (lv_at hl 0 rfl) ?_
  refine lv_iload_n F.1 F.2.1 dX7_end_12 rfl (lv_at hl 1 rfl) ?_
  refine lv_bipush (v := 11) F.1 F.2.1 dX7_end_13 (by decide) ?_
  refine lv_iconst (v := 1) F.1 F.2.1 dX7_end_15 (by decide) ?_
  refine lv_iconst (v := 1) F.1 F.2.1 dX7_end_16 (by decide) ?_
  refine jcvf (jrunV (As := [.int (nI li), .int 11, .int 1, .int 1]) (rest := []) F hT hW yc_X7_book yv_X7_book ml_X7_65 oM0 (by decide) rfl (c_X7_book l E μ S1 (nI li) li rfl 11 11 (lI 11) 1 1 (by first | assumption | omega) (by first | assumption | omega)) rfl hl.1 ⟨Nat.le_of_ble_eq_true rfl, Nat.le_of_ble_eq_true rfl⟩ rfl (Nat.le_of_ble_eq_true rfl) ⟨Nat.le_refl _, Nat.le_refl _⟩ dX7_end_17) hW (fun S2 H locs eS2 hW => ?_)
  refine lv_aload_n F.1 F.2.1 dX7_end_20 rfl (lv_at hl 0 rfl) ?_
  refine lv_iload_n F.1 F.2.1 dX7_end_21 rfl (lv_at hl 1 rfl) ?_
  refine lv_iconst (v := 3) F.1 F.2.1 dX7_end_22 (by decide) ?_
  refine jcip (jrunV (As := [.int (nI li), .int 3]) (rest := []) F hT hW yc_X7_of yv_X7_of ml_X7_61 oM0 (by decide) rfl (c_X7_of l E μ S2 (nI li) li rfl 3 3 (lI 3) (by first | assumption | omega) (by first | assumption | omega)) rfl hl.1 ⟨Nat.le_of_ble_eq_true rfl, Nat.le_of_ble_eq_true rfl⟩ rfl (Nat.le_of_ble_eq_true rfl) ⟨Nat.le_refl _, Nat.le_refl _⟩ dX7_end_23) hW (fun x3 H locs ex3 hW => ?_)
  refine lv_iconst (v := 1) F.1 F.2.1 dX7_end_26 (by decide) ?_
  have hJ9 : ∀ (S8 : Sv) (H : Heap) (locs : List Loc) (ls : Array Slot), S8 = (if x3 = 1 then (let x5 : Int32 := p_X7_of S2 li 7; (let S6 : Sv := p_X7_book S2 li 7 (x5 &&& (x5 - 1)) 0; (let S7 : Sv := p_X7_look S6 li; S7))) else S2) → Wd E s H locs (fo μ 13 S8) → lv_has ls 3 [(0, .ref (ea E 13 0)), (1, .int (nI li))] → W p l e (rmO 3 69) s m ([.ref (ea E 13 0), .int (nI li)] : List Value).toArray below meth c H locs 0 0 (MQ below (va_Qv (fun μ' => μ' = fo μ 13 (p_X7_end S li)) (fun μ' t => MB E μ' t.heap) (AA E)) ([.ref (ea E 13 0), .int (nI li)] : List Value).toArray s 0 0 (AA E)) (F0 m 56 ls []) := by
    intro S8 H locs ls eS8 hW hl
    have hq : S8 = p_X7_end S li := by
      subst eS8
      subst ex3
      subst eS2
      subst eS1
      exact (rfl).symm
    exact jrv F hr0 hlk hW dX7_end_56 (congrArg (fun z => fo μ 13 z) hq)
  refine lv_icmp_ne (tgt := 56) F.1 F.2.1 dX7_end_27 (by decide) (fun h4 => ?_) (fun h4 => ?_)
  · exact hJ9 _ _ _ _ (if_neg h4).symm hW (lv_sub hl [0, 1] rfl)
  · refine lv_aload_n F.1 F.2.1 dX7_end_30 rfl (lv_at hl 0 rfl) ?_
    refine lv_iload_n F.1 F.2.1 dX7_end_31 rfl (lv_at hl 1 rfl) ?_
    refine lv_bipush (v := 7) F.1 F.2.1 dX7_end_32 (by decide) ?_
    refine jcip (jrunV (As := [.int (nI li), .int 7]) (rest := []) F hT hW yc_X7_of yv_X7_of ml_X7_61 oM0 (by decide) rfl (c_X7_of l E μ S2 (nI li) li rfl 7 7 (lI 7) (by first | assumption | omega) (by first | assumption | omega)) rfl hl.1 ⟨Nat.le_of_ble_eq_true rfl, Nat.le_of_ble_eq_true rfl⟩ rfl (Nat.le_of_ble_eq_true rfl) ⟨Nat.le_refl _, Nat.le_refl _⟩ dX7_end_34) hW (fun x5 H locs ex5 hW => ?_)
    refine lv_istore_n (lv' := [(2, .int x5), (0, .ref (ea E 13 0)), (1, .int (nI li))]) F.1 F.2.1 dX7_end_37 rfl hl (by decide) rfl (fun ls hl => ?_)
    refine lv_aload_n F.1 F.2.1 dX7_end_38 rfl (lv_at hl 1 rfl) ?_
    refine lv_iload_n F.1 F.2.1 dX7_end_39 rfl (lv_at hl 2 rfl) ?_
    refine lv_bipush (v := 7) F.1 F.2.1 dX7_end_40 (by decide) ?_
    refine lv_iload_n F.1 F.2.1 dX7_end_42 rfl (lv_at hl 0 rfl) ?_
    refine lv_iload_n F.1 F.2.1 dX7_end_43 rfl (lv_at hl 0 rfl) ?_
    refine lv_iconst (v := 1) F.1 F.2.1 dX7_end_44 (by decide) ?_
    refine lv_isub F.1 F.2.1 dX7_end_45 ?_
    refine lv_iand F.1 F.2.1 dX7_end_46 ?_
    refine lv_iconst (v := 0) F.1 F.2.1 dX7_end_47 (by decide) ?_
    refine jcvf (jrunV (As := [.int (nI li), .int 7, .int (x5 &&& (x5 - 1)), .int 0]) (rest := []) F hT hW yc_X7_book yv_X7_book ml_X7_65 oM0 (by decide) rfl (c_X7_book l E μ S2 (nI li) li rfl 7 7 (lI 7) (x5 &&& (x5 - 1)) 0 (by first | assumption | omega) (by first | assumption | omega)) rfl hl.1 ⟨Nat.le_of_ble_eq_true rfl, Nat.le_of_ble_eq_true rfl⟩ rfl (Nat.le_of_ble_eq_true rfl) ⟨Nat.le_refl _, Nat.le_refl _⟩ dX7_end_48) hW (fun S6 H locs eS6 hW => ?_)
    have hd9 : S6 1 10 = S 1 10 - 1 := by rw [eS6, fr_book (by omega), eS2, fr_book (by omega), eS1, us_at]
    refine lv_aload_n F.1 F.2.1 dX7_end_51 rfl (lv_at hl 1 rfl) ?_
    refine lv_iload_n F.1 F.2.1 dX7_end_52 rfl (lv_at hl 2 rfl) ?_
    refine jcvf (jrunV (As := [.int (nI li)]) (rest := []) F hT hW yc_X7_look yv_X7_look ml_X7_82 oM0 (by decide) rfl (c_X7_look l E μ S6 (nI li) li rfl (by first | assumption | omega) (by rw [hd9]; exact (bn_dec hd hd0 (by decide)).2)) rfl hl.1 ⟨Nat.le_of_ble_eq_true rfl, Nat.le_of_ble_eq_true rfl⟩ rfl (Nat.le_of_ble_eq_true rfl) ⟨Nat.le_refl _, Nat.le_refl _⟩ dX7_end_53) hW (fun S7 H locs eS7 hW => ?_)
    subst eS7
    subst eS6
    subst ex5
    exact hJ9 _ _ _ _ (if_pos h4).symm hW (lv_sub hl [1, 2] rfl)

