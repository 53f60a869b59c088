/-! class Server: ticks -/
theorem ntk {x : Int32} {b : Nat} (h : Bn x b) (h0 : ¬ x = 0) : 0 < cn x := Nat.pos_of_ne_zero fun e => h0 (by rw [h.1, e]; exact nI_0)

def p_X3_nestTakes (S : Sv) (rk : Int32) : Int32 :=
  if (S 0 7) = 0 then
    (1 : Int32)
  else
    let v4 : Int32 := (if (S 1 3) ≤ (S 0 7) then 0 else (if 8 ≤ (S 0 7) then 0 else 1))
    let v8 : Int32 := (if v4 = 0 then 0 else (if rk < ((S (23 + (cn (S 0 7) - 1)) 1) + (S 1 2)) then 0 else 1))
    (v8 : Int32)

set_option maxHeartbeats 4000000 in
set_option maxRecDepth 100000 in
theorem c_X3_nestTakes (l : Launch) (E : mE) (μ : Mu) (r : Nat) (hr : r < 11) (S : Sv) (rk : Int32) (hd : Bn (S 0 7) 8) : CtI l E yX3_nestTakes cX3_nestTakes 3 (some .boolean) 0 0 [.ref (ea E r 0), .int rk] (fo μ r S) (fun x μ' => x = p_X3_nestTakes S rk ∧ μ' = (fo μ r S)) := by
  refine jMet (by decide +kernel) (Nat.le_of_ble_eq_true rfl) ?_
  intro p e s m below meth c ls F hT hr0 hlk hW hl
  have F : CallFix p m c cX3_nestTakes 3 s _ TB RX3 := F
  have hl : lv_has ls 3 [(0, .ref (ea E r 0)), (1, .int rk)] := hl
  refine lv_aload_n F.1 F.2.1 dX3_nestTakes_0 rfl (lv_at hl 0 rfl) ?_
  refine jget F hT hW fw_X3_67 (oSrv hr) (by decide) (rSrv7 hr) dX3_nestTakes_1 ?_
  refine lv_if_ne (tgt := 9) F.1 F.2.1 dX3_nestTakes_4 (by decide) (fun h1 => ?_) (fun h1 => ?_)
  · refine lv_aload_n F.1 F.2.1 dX3_nestTakes_9 rfl (lv_at hl 0 rfl) ?_
    refine jget F hT hW fw_X3_67 (oSrv hr) (by decide) (rSrv7 hr) dX3_nestTakes_10 ?_
    refine lv_aload_n F.1 F.2.1 dX3_nestTakes_13 rfl (lv_at hl 0 rfl) ?_
    refine jgetR F hT hW fw_X3_18 (oSrv hr) (by decide) (rSrv1 hr) dX3_nestTakes_14 ?_
    refine lv_iconst (v := 3) F.1 F.2.1 dX3_nestTakes_17 (by decide) ?_
    refine jiald F hT hW 3 (oSet hr) (by omega) (by decide) (lI 3) (rSet hr) dX3_nestTakes_18 ?_
    have hJ5 : ∀ (v4 : Int32) (H : Heap) (locs : List Loc) (ls : Array Slot), v4 = (if (S 1 3) ≤ (S 0 7) then 0 else (if 8 ≤ (S 0 7) then 0 else 1)) → Wd E s H locs (fo μ r S) → lv_has ls 3 [(0, .ref (ea E r 0)), (1, .int rk)] → W p l e (rmO 0 0) s m ([.ref (ea E r 0), .int rk] : List Value).toArray below meth c H locs 0 0 (MQ below (va_Qi (fun x μ' => x = p_X3_nestTakes S rk ∧ μ' = (fo μ r S)) (fun μ' t => MB E μ' t.heap) (AA E)) ([.ref (ea E r 0), .int rk] : List Value).toArray s 0 0 (AA E)) (F0 m 36 ls [.int v4]) := by
      intro v4 H locs ls ev4 hW hl
      refine lv_istore_n (lv' := [(2, .int v4), (0, .ref (ea E r 0)), (1, .int rk)]) F.1 F.2.1 dX3_nestTakes_36 rfl hl (by decide) rfl (fun ls hl => ?_)
      refine lv_iload_n F.1 F.2.1 dX3_nestTakes_37 rfl (lv_at hl 0 rfl) ?_
      have hJ9 : ∀ (v8 : Int32) (H : Heap) (locs : List Loc) (ls : Array Slot), v8 = (if v4 = 0 then 0 else (if rk < ((S (23 + (cn (S 0 7) - 1)) 1) + (S 1 2)) then 0 else 1)) → Wd E s H locs (fo μ r S) → lv_has ls 3 [(2, .int v4), (0, .ref (ea E r 0)), (1, .int rk)] → W p l e (rmO 0 0) s m ([.ref (ea E r 0), .int rk] : List Value).toArray below meth c H locs 0 0 (MQ below (va_Qi (fun x μ' => x = p_X3_nestTakes S rk ∧ μ' = (fo μ r S)) (fun μ' t => MB E μ' t.heap) (AA E)) ([.ref (ea E r 0), .int rk] : List Value).toArray s 0 0 (AA E)) (F0 m 71 ls [.int v8]) := by
        intro v8 H locs ls ev8 hW hl
        have hq : (v8 : Int32) = p_X3_nestTakes S rk := by
          subst ev8
          subst ev4
          exact (if_neg h1).symm
        exact jri F hr0 hlk hW (znar (by first | assumption | ((try clear hq); subst_vars; (try dsimp only); repeat' (first | exact Or.inl rfl | exact Or.inr rfl | refine iteZ ?_ ?_)))) dX3_nestTakes_71 ⟨hq, rfl⟩
      refine lv_if_eq (tgt := 70) F.1 F.2.1 dX3_nestTakes_38 (by decide) (fun h6 => ?_) (fun h6 => ?_)
      · refine lv_iconst (v := 0) F.1 F.2.1 dX3_nestTakes_70 (by decide) ?_
        exact hJ9 _ _ _ _ (if_pos h6).symm hW (lv_sub hl [0, 1, 2] rfl)
      · have hd8 : 0 < cn (S 0 7) ∧ cn (S 0 7) ≤ 8 := ⟨ntk hd (by assumption), hd.2⟩
        refine lv_iload_n F.1 F.2.1 dX3_nestTakes_41 rfl (lv_at hl 2 rfl) ?_
        refine lv_aload_n F.1 F.2.1 dX3_nestTakes_42 rfl (lv_at hl 1 rfl) ?_
        refine jgetR F hT hW fw_X3_39 (oSrv hr) (by decide) (rSrv6 hr) dX3_nestTakes_43 ?_
        refine lv_aload_n F.1 F.2.1 dX3_nestTakes_46 rfl (lv_at hl 1 rfl) ?_
        refine jget F hT hW fw_X3_67 (oSrv hr) (by decide) (rSrv7 hr) dX3_nestTakes_47 ?_
        refine lv_iconst (v := 1) F.1 F.2.1 dX3_nestTakes_50 (by decide) ?_
        refine lv_isub F.1 F.2.1 dX3_nestTakes_51 ?_
        refine jaald (t := 5) (C := RX4) F hT hW (cn (S 0 7) - 1) (oNst hr) rfl (by omega) (by decide) (isb hd.1 (lI 1) (by omega)) (rNst hr) dX3_nestTakes_52 ?_
        refine jget F hT hW fw_X3_174 (oSvc hr (by omega)) (by decide) (rSvc hr (by omega)) dX3_nestTakes_53 ?_
        refine lv_aload_n F.1 F.2.1 dX3_nestTakes_56 rfl (lv_at hl 1 rfl) ?_
        refine jgetR F hT hW fw_X3_18 (oSrv hr) (by decide) (rSrv1 hr) dX3_nestTakes_57 ?_
        refine lv_iconst (v := 2) F.1 F.2.1 dX3_nestTakes_60 (by decide) ?_
        refine jiald F hT hW 2 (oSet hr) (by omega) (by decide) (lI 2) (rSet hr) dX3_nestTakes_61 ?_
        refine lv_iadd F.1 F.2.1 dX3_nestTakes_62 ?_
        refine lv_icmp_lt (tgt := 70) F.1 F.2.1 dX3_nestTakes_63 (by decide) (fun h7 => ?_) (fun h7 => ?_)
        · refine lv_iconst (v := 0) F.1 F.2.1 dX3_nestTakes_70 (by decide) ?_
          exact hJ9 _ _ _ _ ((if_neg h6).trans (if_pos h7)).symm hW (lv_sub hl [0, 1, 2] rfl)
        · refine lv_iconst (v := 1) F.1 F.2.1 dX3_nestTakes_66 (by decide) ?_
          refine lv_goto (tgt := 71) F.1 F.2.1 dX3_nestTakes_67 (by decide) ?_
          exact hJ9 _ _ _ _ ((if_neg h6).trans (if_neg h7)).symm hW (lv_sub hl [0, 1, 2] rfl)
    refine lv_icmp_ge (tgt := 35) F.1 F.2.1 dX3_nestTakes_19 (by decide) (fun h2 => ?_) (fun h2 => ?_)
    · refine lv_iconst (v := 0) F.1 F.2.1 dX3_nestTakes_35 (by decide) ?_
      exact hJ5 _ _ _ _ (if_pos h2).symm hW (lv_sub hl [0, 1] rfl)
    · refine lv_aload_n F.1 F.2.1 dX3_nestTakes_22 rfl (lv_at hl 0 rfl) ?_
      refine jget F hT hW fw_X3_67 (oSrv hr) (by decide) (rSrv7 hr) dX3_nestTakes_23 ?_
      refine lv_bipush (v := 8) F.1 F.2.1 dX3_nestTakes_26 (by decide) ?_
      refine lv_icmp_ge (tgt := 35) F.1 F.2.1 dX3_nestTakes_28 (by decide) (fun h3 => ?_) (fun h3 => ?_)
      · refine lv_iconst (v := 0) F.1 F.2.1 dX3_nestTakes_35 (by decide) ?_
        exact hJ5 _ _ _ _ ((if_neg h2).trans (if_pos h3)).symm hW (lv_sub hl [0, 1] rfl)
      · refine lv_iconst (v := 1) F.1 F.2.1 dX3_nestTakes_31 (by decide) ?_
        refine lv_goto (tgt := 36) F.1 F.2.1 dX3_nestTakes_32 (by decide) ?_
        exact hJ5 _ _ _ _ ((if_neg h2).trans (if_neg h3)).symm hW (lv_sub hl [0, 1] rfl)
  · refine lv_iconst (v := 1) F.1 F.2.1 dX3_nestTakes_7 (by decide) ?_
    have hq : (1 : Int32) = p_X3_nestTakes S rk := by
      exact (if_pos h1).symm
    exact jri F hr0 hlk hW (znar (Or.inr rfl)) dX3_nestTakes_8 ⟨hq, rfl⟩

def q_X3_growWaits_2 (S : Sv) (j : Nat) (σ : Sv) : Sv :=
  let S1 : Sv := σ
  let S5 : Sv := (if (S1 (3 + j) 5) = 0 then S1 else (let S4 : Sv := us S1 (3 + j) 6 ((S1 (3 + j) 6) + 1); S4))
  S5
def p_X3_growWaits (S : Sv) : Sv :=
  let S1 : Sv := (itN (q_X3_growWaits_2 S) (cn (S 0 3)) (S))
  S1

theorem gw_keep {S : Sv} : ∀ n p k, ¬ k = 6 → itN (q_X3_growWaits_2 S) n S p k = S p k := by
  intro n
  induction n with
  | zero => intro p k _; rfl
  | succ n ih =>
    intro p k hk
    rw [itN_s]
    unfold q_X3_growWaits_2
    dsimp only
    split
    · exact ih p k hk
    · rw [us_ne _ _ (fun z => hk z.2)]
      exact ih p k hk

set_option maxHeartbeats 4000000 in
set_option maxRecDepth 100000 in
theorem c_X3_growWaits (l : Launch) (E : mE) (μ : Mu) (r : Nat) (hr : r < 11) (S : Sv) (hn : Bn (S 0 3) 12) : CtV l E yX3_growWaits cX3_growWaits 2 0 0 [.ref (ea E r 0)] (fo μ r S) (fun μ' => μ' = fo μ r (p_X3_growWaits S)) := by
  refine jMet (by decide +kernel) (Nat.le_of_ble_eq_true rfl) ?_
  intro p e s m below meth c ls F hT hr0 hlk hW hl
  have F : CallFix p m c cX3_growWaits 2 s _ TB RX3 := F
  have hl : lv_has ls 2 [(0, .ref (ea E r 0))] := hl
  have hn2 := hn.2
  refine lv_iconst (v := 0) F.1 F.2.1 dX3_growWaits_0 (by decide) ?_
  refine lv_istore_n (lv' := [(1, .int 0), (0, .ref (ea E r 0))]) F.1 F.2.1 dX3_growWaits_1 rfl hl (by decide) rfl (fun ls hl => ?_)
  have hL2 : ∀ (fu j : Nat) (S1 : Sv) (H : Heap) (locs : List Loc) (ls : Array Slot), j + fu = cn (S 0 3) → (S1) = itN (q_X3_growWaits_2 S) j (S) → Wd E s H locs (fo μ r S1) → lv_has ls 2 [(1, .int (nI j)), (0, .ref (ea E r 0))] → W p l e (rmO 0 0) s m ([.ref (ea E r 0)] : List Value).toArray below meth c H locs 0 0 (MQ below (va_Qv (fun μ' => μ' = fo μ r (p_X3_growWaits S)) (fun μ' t => MB E μ' t.heap) (AA E)) ([.ref (ea E r 0)] : List Value).toArray s 0 0 (AA E)) (F0 m 2 ls []) := by
    intro fu
    induction fu with
    | zero =>
      intro j S1 H locs ls hj hs  hW hl
      obtain rfl : j = cn (S 0 3) := by omega
      have eS1 := hs
      have hk := gw_keep (S := S) (cn (S 0 3)) 0 3 (by decide)
      rw [← hs] at hk
      refine lv_iload_n F.1 F.2.1 dX3_growWaits_2 rfl (lv_at hl 0 rfl) ?_
      refine lv_aload_n F.1 F.2.1 dX3_growWaits_3 rfl (lv_at hl 1 rfl) ?_
      refine jget F hT hW fw_X3_54 (oSrv hr) (by decide) (rSrv3 hr) dX3_growWaits_4 ?_
      refine lv_icmp_ge (tgt := 43) F.1 F.2.1 dX3_growWaits_7 (by decide) (fun h3 => ?_) (fun h3 => ?_)
      · have hq : S1 = p_X3_growWaits S := by
          subst eS1
          exact (rfl).symm
        exact jrv F hr0 hlk hW dX3_growWaits_43 (congrArg (fun z => fo μ r z) hq)
      · exact absurd (c_le (hk.trans hn.1) rfl (by omega) (by omega)) h3
    | succ fu ih =>
      intro j S1 H locs ls hj hs  hW hl
      have hk := gw_keep (S := S) j 0 3 (by decide)
      rw [← hs] at hk
      refine lv_iload_n F.1 F.2.1 dX3_growWaits_2 rfl (lv_at hl 0 rfl) ?_
      refine lv_aload_n F.1 F.2.1 dX3_growWaits_3 rfl (lv_at hl 1 rfl) ?_
      refine jget F hT hW fw_X3_54 (oSrv hr) (by decide) (rSrv3 hr) dX3_growWaits_4 ?_
      refine lv_icmp_ge (tgt := 43) F.1 F.2.1 dX3_growWaits_7 (by decide) (fun h2 => ?_) (fun h2 => ?_)
      · exact absurd h2 (c_nle (hk.trans hn.1) rfl (by omega) (by omega))
      · refine lv_aload_n F.1 F.2.1 dX3_growWaits_10 rfl (lv_at hl 1 rfl) ?_
        refine jgetR F hT hW fw_X3_25 (oSrv hr) (by decide) (rSrv2 hr) dX3_growWaits_11 ?_
        refine lv_iload_n F.1 F.2.1 dX3_growWaits_14 rfl (lv_at hl 0 rfl) ?_
        refine jaald (t := 3) (C := RX1) F hT hW j (oLns hr) rfl (by omega) (by decide) rfl (rLns hr) dX3_growWaits_15 ?_
        refine jget F hT hW fw_X3_192 (oLin hr (by omega)) (by decide) (rLin hr (by omega)) dX3_growWaits_16 ?_
        have hJ6 : ∀ (S5 : Sv) (H : Heap) (locs : List Loc) (ls : Array Slot), S5 = (if (S1 (3 + j) 5) = 0 then S1 else (let S4 : Sv := us S1 (3 + j) 6 ((S1 (3 + j) 6) + 1); S4)) → Wd E s H locs (fo μ r S5) → lv_has ls 2 [(1, .int (nI j)), (0, .ref (ea E r 0))] → W p l e (rmO 0 0) s m ([.ref (ea E r 0)] : List Value).toArray below meth c H locs 0 0 (MQ below (va_Qv (fun μ' => μ' = fo μ r (p_X3_growWaits S)) (fun μ' t => MB E μ' t.heap) (AA E)) ([.ref (ea E r 0)] : List Value).toArray s 0 0 (AA E)) (F0 m 37 ls []) := by
          intro S5 H locs ls eS5 hW hl
          refine lv_iinc (v := nI (j + 1)) (lv' := [(1, .int (nI (j + 1))), (0, .ref (ea E r 0))]) F.1 F.2.1 dX3_growWaits_37 hl (k := 0) rfl (ia rfl rfl) (by decide) rfl (fun ls hl => ?_)
          refine lv_goto (tgt := 2) F.1 F.2.1 dX3_growWaits_40 (by decide) ?_
          subst eS5
          exact ih (j + 1) _ _ _ _ (by omega) (by rw [itN_s, ← hs]; exact (rfl).symm) hW (lv_sub hl [0, 1] rfl)
        refine lv_if_eq (tgt := 37) F.1 F.2.1 dX3_growWaits_19 (by decide) (fun h3 => ?_) (fun h3 => ?_)
        · exact hJ6 _ _ _ _ (if_pos h3).symm hW (lv_sub hl [0, 1] rfl)
        · refine lv_aload_n F.1 F.2.1 dX3_growWaits_22 rfl (lv_at hl 1 rfl) ?_
          refine jgetR F hT hW fw_X3_25 (oSrv hr) (by decide) (rSrv2 hr) dX3_growWaits_23 ?_
          refine lv_iload_n F.1 F.2.1 dX3_growWaits_26 rfl (lv_at hl 0 rfl) ?_
          refine jaald (t := 3) (C := RX1) F hT hW j (oLns hr) rfl (by omega) (by decide) rfl (rLns hr) dX3_growWaits_27 ?_
          refine lv_dup F.1 F.2.1 dX3_growWaits_28 rfl ?_
          refine jget F hT hW fw_X3_164 (oLin hr (by omega)) (by decide) (rLin hr (by omega)) dX3_growWaits_29 ?_
          refine lv_iconst (v := 1) F.1 F.2.1 dX3_growWaits_32 (by decide) ?_
          refine lv_iadd F.1 F.2.1 dX3_growWaits_33 ?_
          refine jput F hT hW fw_X3_164 ft_1_6 (oLin hr (by omega)) (by decide) (rn12 hr) (rLin hr (by omega)) rfl rfl dX3_growWaits_34 (fun S4 H locs eS4 hW => ?_)
          subst eS4
          exact hJ6 _ _ _ _ (if_neg h3).symm hW (lv_sub hl [0, 1] rfl)
  exact hL2 (cn (S 0 3)) 0 S _ _ _ (by omega) rfl hW (lv_sub hl [0, 1] rfl)

def q_X3_raiseByTimers_2 (S : Sv) (j : Nat) (σ : Sv) : Sv :=
  let S1 : Sv := σ
  let S10 : Sv := (if (S1 0 0) < (S1 (16 + j) 2) then S1 else (let v5 : Int32 := (if (S1 1 5) = 1 then 1 else 0); (let x7 : Int32 := (p_X1_takeEdge S1 (cn (S (16 + j) 0)) v5).1; (let S8 : Sv := (p_X1_takeEdge S1 (cn (S (16 + j) 0)) v5).2; (let S9 : Sv := us S8 (16 + j) 2 ((S8 (16 + j) 2) + (S8 (16 + j) 1)); S9)))))
  S10
def p_X3_raiseByTimers (S : Sv) : Sv :=
  let S1 : Sv := (itN (q_X3_raiseByTimers_2 S) (cn (S 0 5)) (S))
  S1

theorem rt_keep {S : Sv} {t : Nat} (ht : t ≤ 6) (hq : ∀ q, q < t → Bn (S (16 + q) 0) 11) : ∀ n, n ≤ t → ∀ p k, (p < 3 ∨ 15 ≤ p) → ¬ (16 ≤ p ∧ p < 22 ∧ k = 2) → itN (q_X3_raiseByTimers_2 S) n S p k = S p k := by
  intro n
  induction n with
  | zero => intro _ p k _ _; rfl
  | succ n ih =>
    intro hn p k hp hk
    rw [itN_s]
    have h0 := ih (by omega) p k hp hk
    have hb := (hq n (by omega)).2
    unfold q_X3_raiseByTimers_2
    dsimp only
    split
    · exact h0
    · rw [us_ne _ _ (by omega), fr_takeEdge (by omega)]
      exact h0

set_option maxHeartbeats 4000000 in
set_option maxRecDepth 100000 in
theorem c_X3_raiseByTimers (l : Launch) (E : mE) (μ : Mu) (r : Nat) (hr : r < 11) (S : Sv) (hn : Bn (S 0 3) 12) (ht : Bn (S 0 5) 6) (hq6 : ∀ q, q < cn (S 0 5) → Bn (S (16 + q) 0) 11) : CtV l E yX3_raiseByTimers cX3_raiseByTimers 3 1 21 [.ref (ea E r 0)] (fo μ r S) (fun μ' => μ' = fo μ r (p_X3_raiseByTimers S)) := by
  refine jMet (by decide +kernel) (Nat.le_of_ble_eq_true rfl) ?_
  intro p e s m below meth c ls F hT hr0 hlk hW hl
  have F : CallFix p m c cX3_raiseByTimers 3 s _ TB RX3 := F
  have hl : lv_has ls 3 [(0, .ref (ea E r 0))] := hl
  have hn2 := hn.2
  have ht2 := ht.2
  refine lv_iconst (v := 0) F.1 F.2.1 dX3_raiseByTimers_0 (by decide) ?_
  refine lv_istore_n (lv' := [(1, .int 0), (0, .ref (ea E r 0))]) F.1 F.2.1 dX3_raiseByTimers_1 rfl hl (by decide) rfl (fun ls hl => ?_)
  have hL2 : ∀ (fu j : Nat) (S1 : Sv) (H : Heap) (locs : List Loc) (ls : Array Slot), j + fu = cn (S 0 5) → (S1) = itN (q_X3_raiseByTimers_2 S) j (S) → Wd E s H locs (fo μ r S1) → lv_has ls 3 [(1, .int (nI j)), (0, .ref (ea E r 0))] → W p l e (rmO 1 21) s m ([.ref (ea E r 0)] : List Value).toArray below meth c H locs 0 0 (MQ below (va_Qv (fun μ' => μ' = fo μ r (p_X3_raiseByTimers S)) (fun μ' t => MB E μ' t.heap) (AA E)) ([.ref (ea E r 0)] : List Value).toArray s 0 0 (AA E)) (F0 m 2 ls []) := by
    intro fu
    induction fu with
    | zero =>
      intro j S1 H locs ls hj hs  hW hl
      obtain rfl : j = cn (S 0 5) := by omega
      have eS1 := hs
      have hk5 := rt_keep ht.2 hq6 (cn (S 0 5)) (Nat.le_refl _) 0 5 (by omega) (by omega)
      rw [← hs] at hk5
      refine lv_iload_n F.1 F.2.1 dX3_raiseByTimers_2 rfl (lv_at hl 0 rfl) ?_
      refine lv_aload_n F.1 F.2.1 dX3_raiseByTimers_3 rfl (lv_at hl 1 rfl) ?_
      refine jget F hT hW fw_X3_61 (oSrv hr) (by decide) (rSrv5 hr) dX3_raiseByTimers_4 ?_
      refine lv_icmp_ge (tgt := 75) F.1 F.2.1 dX3_raiseByTimers_7 (by decide) (fun h3 => ?_) (fun h3 => ?_)
      · have hq : S1 = p_X3_raiseByTimers S := by
          subst eS1
          exact (rfl).symm
        exact jrv F hr0 hlk hW dX3_raiseByTimers_75 (congrArg (fun z => fo μ r z) hq)
      · exact absurd (c_le (hk5.trans ht.1) rfl (by omega) (by omega)) h3
    | succ fu ih =>
      intro j S1 H locs ls hj hs  hW hl
      have hk5 := rt_keep ht.2 hq6 j (by omega) 0 5 (by omega) (by omega)
      rw [← hs] at hk5
      have hkj := rt_keep ht.2 hq6 j (by omega) (16 + j) 0 (by omega) (by omega)
      rw [← hs] at hkj
      have hl6 := (hq6 j (by omega)).2
      refine lv_iload_n F.1 F.2.1 dX3_raiseByTimers_2 rfl (lv_at hl 0 rfl) ?_
      refine lv_aload_n F.1 F.2.1 dX3_raiseByTimers_3 rfl (lv_at hl 1 rfl) ?_
      refine jget F hT hW fw_X3_61 (oSrv hr) (by decide) (rSrv5 hr) dX3_raiseByTimers_4 ?_
      refine lv_icmp_ge (tgt := 75) F.1 F.2.1 dX3_raiseByTimers_7 (by decide) (fun h2 => ?_) (fun h2 => ?_)
      · exact absurd h2 (c_nle (hk5.trans ht.1) rfl (by omega) (by omega))
      · refine lv_aload_n F.1 F.2.1 dX3_raiseByTimers_10 rfl (lv_at hl 1 rfl) ?_
        refine jgetR F hT hW fw_X3_32 (oSrv hr) (by decide) (rSrv4 hr) dX3_raiseByTimers_11 ?_
        refine lv_iload_n F.1 F.2.1 dX3_raiseByTimers_14 rfl (lv_at hl 0 rfl) ?_
        refine jaald (t := 4) (C := RX5) F hT hW j (oTms hr) rfl (by omega) (by decide) rfl (rTms hr) dX3_raiseByTimers_15 ?_
        refine lv_astore_n (lv' := [(2, .ref (ea E r (16 + j))), (1, .int (nI j)), (0, .ref (ea E r 0))]) F.1 F.2.1 dX3_raiseByTimers_16 rfl hl (by decide) rfl (fun ls hl => ?_)
        refine lv_aload_n F.1 F.2.1 dX3_raiseByTimers_17 rfl (lv_at hl 0 rfl) ?_
        refine jget F hT hW fw_X3_120 (oTim hr (by omega)) (by decide) (rTim hr (by omega)) dX3_raiseByTimers_18 ?_
        refine lv_aload_n F.1 F.2.1 dX3_raiseByTimers_21 rfl (lv_at hl 2 rfl) ?_
        refine jget F hT hW fw_X3_44 (oSrv hr) (by decide) (rSrv0 hr) dX3_raiseByTimers_22 ?_
        have hJ11 : ∀ (S10 : Sv) (H : Heap) (locs : List Loc) (ls : Array Slot), S10 = (if (S1 0 0) < (S1 (16 + j) 2) then S1 else (let v5 : Int32 := (if (S1 1 5) = 1 then 1 else 0); (let x7 : Int32 := (p_X1_takeEdge S1 (cn (S (16 + j) 0)) v5).1; (let S8 : Sv := (p_X1_takeEdge S1 (cn (S (16 + j) 0)) v5).2; (let S9 : Sv := us S8 (16 + j) 2 ((S8 (16 + j) 2) + (S8 (16 + j) 1)); S9))))) → Wd E s H locs (fo μ r S10) → lv_has ls 3 [(2, .ref (ea E r (16 + j))), (1, .int (nI j)), (0, .ref (ea E r 0))] → W p l e (rmO 1 21) s m ([.ref (ea E r 0)] : List Value).toArray below meth c H locs 0 0 (MQ below (va_Qv (fun μ' => μ' = fo μ r (p_X3_raiseByTimers S)) (fun μ' t => MB E μ' t.heap) (AA E)) ([.ref (ea E r 0)] : List Value).toArray s 0 0 (AA E)) (F0 m 69 ls []) := by
          intro S10 H locs ls eS10 hW hl
          refine lv_iinc (v := nI (j + 1)) (lv' := [(1, .int (nI (j + 1))), (2, .ref (ea E r (16 + j))), (0, .ref (ea E r 0))]) F.1 F.2.1 dX3_raiseByTimers_69 hl (k := 1) rfl (ia rfl rfl) (by decide) rfl (fun ls hl => ?_)
          refine lv_goto (tgt := 2) F.1 F.2.1 dX3_raiseByTimers_72 (by decide) ?_
          subst eS10
          exact ih (j + 1) _ _ _ _ (by omega) (by rw [itN_s, ← hs]; exact (rfl).symm) hW (lv_sub hl [0, 2] rfl)
        refine lv_icmp_gt (tgt := 69) F.1 F.2.1 dX3_raiseByTimers_25 (by decide) (fun h3 => ?_) (fun h3 => ?_)
        · exact hJ11 _ _ _ _ (if_pos h3).symm hW (lv_sub hl [0, 1, 2] rfl)
        · refine lv_aload_n F.1 F.2.1 dX3_raiseByTimers_28 rfl (lv_at hl 2 rfl) ?_
          refine jgetR F hT hW fw_X3_25 (oSrv hr) (by decide) (rSrv2 hr) dX3_raiseByTimers_29 ?_
          refine lv_aload_n F.1 F.2.1 dX3_raiseByTimers_32 rfl (lv_at hl 0 rfl) ?_
          refine jget F hT hW fw_X3_114 (oTim hr (by omega)) (by decide) (rTim hr (by omega)) dX3_raiseByTimers_33 ?_
          refine jaald (t := 3) (C := RX1) F hT hW (cn (S (16 + j) 0)) (oLns hr) rfl (by omega) (by decide) (hkj.trans (hq6 j (by omega)).1) (rLns hr) dX3_raiseByTimers_36 ?_
          refine lv_aload_n F.1 F.2.1 dX3_raiseByTimers_37 rfl (lv_at hl 2 rfl) ?_
          refine jgetR F hT hW fw_X3_18 (oSrv hr) (by decide) (rSrv1 hr) dX3_raiseByTimers_38 ?_
          refine lv_iconst (v := 5) F.1 F.2.1 dX3_raiseByTimers_41 (by decide) ?_
          refine jiald F hT hW 5 (oSet hr) (by omega) (by decide) (lI 5) (rSet hr) dX3_raiseByTimers_42 ?_
          refine lv_iconst (v := 1) F.1 F.2.1 dX3_raiseByTimers_43 (by decide) ?_
          have hJ6 : ∀ (v5 : Int32) (H : Heap) (locs : List Loc) (ls : Array Slot), v5 = (if (S1 1 5) = 1 then 1 else 0) → Wd E s H locs (fo μ r S1) → lv_has ls 3 [(2, .ref (ea E r (16 + j))), (1, .int (nI j)), (0, .ref (ea E r 0))] → W p l e (rmO 1 21) s m ([.ref (ea E r 0)] : List Value).toArray below meth c H locs 0 0 (MQ below (va_Qv (fun μ' => μ' = fo μ r (p_X3_raiseByTimers S)) (fun μ' t => MB E μ' t.heap) (AA E)) ([.ref (ea E r 0)] : List Value).toArray s 0 0 (AA E)) (F0 m 52 ls [.int v5, .ref (ea E r (3 + (cn (S (16 + j) 0))))]) := by
            intro v5 H locs ls ev5 hW hl
            refine jcif (jrunV (As := [.int v5]) (rest := []) F hT hW yc_X1_takeEdge yv_X1_takeEdge ml_X3_126 (oLin hr (by omega)) (by decide) rfl (c_X1_takeEdge l E μ r hr S1 (cn (S (16 + j) 0)) v5 (by first | assumption | omega)) rfl hl.1 ⟨Nat.le_of_ble_eq_true rfl, Nat.le_of_ble_eq_true rfl⟩ rfl (Nat.le_of_ble_eq_true rfl) ⟨Nat.le_refl _, Nat.le_refl _⟩ dX3_raiseByTimers_52) hW (fun x7 S8 H locs ex7 eS8 hW => ?_)
            refine lv_pop F.1 F.2.1 dX3_raiseByTimers_55 rfl ?_
            refine lv_aload_n F.1 F.2.1 dX3_raiseByTimers_56 rfl (lv_at hl 0 rfl) ?_
            refine lv_dup F.1 F.2.1 dX3_raiseByTimers_57 rfl ?_
            refine jget F hT hW fw_X3_120 (oTim hr (by omega)) (by decide) (rTim hr (by omega)) dX3_raiseByTimers_58 ?_
            refine lv_aload_n F.1 F.2.1 dX3_raiseByTimers_61 rfl (lv_at hl 0 rfl) ?_
            refine jget F hT hW fw_X3_117 (oTim hr (by omega)) (by decide) (rTim hr (by omega)) dX3_raiseByTimers_62 ?_
            refine lv_iadd F.1 F.2.1 dX3_raiseByTimers_65 ?_
            refine jput F hT hW fw_X3_120 ft_5_2 (oTim hr (by omega)) (by decide) (rn12 hr) (rTim hr (by omega)) rfl rfl dX3_raiseByTimers_66 (fun S9 H locs eS9 hW => ?_)
            subst eS9
            subst eS8
            subst ex7
            subst ev5
            exact hJ11 _ _ _ _ (if_neg h3).symm hW (lv_sub hl [0, 1, 2] rfl)
          refine lv_icmp_ne (tgt := 51) F.1 F.2.1 dX3_raiseByTimers_44 (by decide) (fun h4 => ?_) (fun h4 => ?_)
          · refine lv_iconst (v := 0) F.1 F.2.1 dX3_raiseByTimers_51 (by decide) ?_
            exact hJ6 _ _ _ _ (if_neg h4).symm hW (lv_sub hl [0, 1, 2] rfl)
          · refine lv_iconst (v := 1) F.1 F.2.1 dX3_raiseByTimers_47 (by decide) ?_
            refine lv_goto (tgt := 52) F.1 F.2.1 dX3_raiseByTimers_48 (by decide) ?_
            exact hJ6 _ _ _ _ (if_pos h4).symm hW (lv_sub hl [0, 1, 2] rfl)
  exact hL2 (cn (S 0 5)) 0 S _ _ _ (by omega) rfl hW (lv_sub hl [0, 1] rfl)

def q_X3_foundLine_7 (S : Sv) (j : Nat) (σ : Int32 × Int32) : Int32 × Int32 :=
  let v1 : Int32 := σ.1
  let v2 : Int32 := σ.2
  let x4 : Int32 := p_X1_mayBegin S j
  let v15 : Int32 := (if x4 = 0 then v1 else (let x6 : Int32 := p_X1_presentRank S j (S 1 0) (S 1 1); (if (S 1 6) ≤ x6 then (let v12 : Int32 := (if v2 = (-6) then 1 else (if v1 < x6 then 1 else (if x6 = v1 then (if (S (3 + j) 6) ≤ (S (3 + (cn v2)) 6) then 0 else 1) else 0))); (if v12 = 0 then v1 else x6)) else v1)))
  let v16 : Int32 := (if x4 = 0 then v2 else (let x6 : Int32 := p_X1_presentRank S j (S 1 0) (S 1 1); (if (S 1 6) ≤ x6 then (let v12 : Int32 := (if v2 = (-6) then 1 else (if v1 < x6 then 1 else (if x6 = v1 then (if (S (3 + j) 6) ≤ (S (3 + (cn v2)) 6) then 0 else 1) else 0))); (if v12 = 0 then v2 else nI j)) else v2)))
  (v15, v16)
def p_X3_foundLine (S : Sv) : Int32 :=
  let v1 : Int32 := (itN (q_X3_foundLine_7 S) (cn (S 0 3)) (0, (-6))).1
  let v2 : Int32 := (itN (q_X3_foundLine_7 S) (cn (S 0 3)) (0, (-6))).2
  (v2 : Int32)

def Fdx (x : Int32) : Prop := x = (-6) ∨ Bn x 11
theorem fd_it {S : Sv} : ∀ n, n ≤ 12 → Fdx (itN (q_X3_foundLine_7 S) n (0, (-6))).2 := by
  intro n
  induction n with
  | zero => intro _; exact Or.inl rfl
  | succ n ih =>
    intro hn
    have h0 := ih (by omega)
    rw [itN_s]
    generalize itN (q_X3_foundLine_7 S) n (0, (-6)) = σ at h0 ⊢
    unfold q_X3_foundLine_7
    dsimp only
    repeat' (first | exact h0 | exact Or.inr (bnI (by omega) (by omega)) | refine iteP (P := Fdx) ?_ ?_)

set_option maxHeartbeats 4000000 in
set_option maxRecDepth 100000 in
theorem c_X3_foundLine (l : Launch) (E : mE) (μ : Mu) (r : Nat) (hr : r < 11) (S : Sv) (hn : Bn (S 0 3) 12) : CtI l E yX3_foundLine cX3_foundLine 6 (some .int) 1 23 [.ref (ea E r 0)] (fo μ r S) (fun x μ' => x = p_X3_foundLine S ∧ μ' = (fo μ r S)) := by
  refine jMet (by decide +kernel) (Nat.le_of_ble_eq_true rfl) ?_
  intro p e s m below meth c ls F hT hr0 hlk hW hl
  have F : CallFix p m c cX3_foundLine 6 s _ TB RX3 := F
  have hl : lv_has ls 6 [(0, .ref (ea E r 0))] := hl
  have hn2 := hn.2
  refine lv_bipush (v := (-6)) F.1 F.2.1 dX3_foundLine_0 (by decide) ?_
  refine lv_istore_n (lv' := [(1, .int (-6)), (0, .ref (ea E r 0))]) F.1 F.2.1 dX3_foundLine_2 rfl hl (by decide) rfl (fun ls hl => ?_)
  refine lv_iconst (v := 0) F.1 F.2.1 dX3_foundLine_3 (by decide) ?_
  refine lv_istore_n (lv' := [(2, .int 0), (1, .int (-6)), (0, .ref (ea E r 0))]) F.1 F.2.1 dX3_foundLine_4 rfl hl (by decide) rfl (fun ls hl => ?_)
  refine lv_iconst (v := 0) F.1 F.2.1 dX3_foundLine_5 (by decide) ?_
  refine lv_istore_n (lv' := [(3, .int 0), (2, .int 0), (1, .int (-6)), (0, .ref (ea E r 0))]) F.1 F.2.1 dX3_foundLine_6 rfl hl (by decide) rfl (fun ls hl => ?_)
  have hL3 : ∀ (fu j : Nat) (v1 : Int32) (v2 : Int32) (H : Heap) (locs : List Loc) (ls : Array Slot), j + fu = cn (S 0 3) → (v1, v2) = itN (q_X3_foundLine_7 S) j (0, (-6)) → Wd E s H locs (fo μ r S) → lv_has ls 6 [(3, .int (nI j)), (2, .int v1), (1, .int v2), (0, .ref (ea E r 0))] → W p l e (rmO 1 23) s m ([.ref (ea E r 0)] : List Value).toArray below meth c H locs 0 0 (MQ below (va_Qi (fun x μ' => x = p_X3_foundLine S ∧ μ' = (fo μ r S)) (fun μ' t => MB E μ' t.heap) (AA E)) ([.ref (ea E r 0)] : List Value).toArray s 0 0 (AA E)) (F0 m 7 ls []) := by
    intro fu
    induction fu with
    | zero =>
      intro j v1 v2 H locs ls hj hs  hW hl
      obtain rfl : j = cn (S 0 3) := by omega
      obtain ⟨ev1, ev2⟩ : v1 = (itN (q_X3_foundLine_7 S) (cn (S 0 3)) (0, (-6))).1 ∧ v2 = (itN (q_X3_foundLine_7 S) (cn (S 0 3)) (0, (-6))).2 := by rw [← hs]; exact ⟨rfl, rfl⟩
      refine lv_iload_n F.1 F.2.1 dX3_foundLine_7 rfl (lv_at hl 0 rfl) ?_
      refine lv_aload_n F.1 F.2.1 dX3_foundLine_8 rfl (lv_at hl 3 rfl) ?_
      refine jget F hT hW fw_X3_54 (oSrv hr) (by decide) (rSrv3 hr) dX3_foundLine_9 ?_
      refine lv_icmp_ge (tgt := 130) F.1 F.2.1 dX3_foundLine_12 (by decide) (fun h4 => ?_) (fun h4 => ?_)
      · refine lv_iload_n F.1 F.2.1 dX3_foundLine_130 rfl (lv_at hl 2 rfl) ?_
        have hq : (v2 : Int32) = p_X3_foundLine S := by
          subst ev2
          subst ev1
          exact (rfl).symm
        exact jri F hr0 hlk hW rfl dX3_foundLine_131 ⟨hq, rfl⟩
      · exact absurd (c_le hn.1 rfl (by omega) (by omega)) h4
    | succ fu ih =>
      intro j v1 v2 H locs ls hj hs  hW hl
      have hfd := fd_it (S := S) j (by omega)
      rw [← hs] at hfd
      refine lv_iload_n F.1 F.2.1 dX3_foundLine_7 rfl (lv_at hl 0 rfl) ?_
      refine lv_aload_n F.1 F.2.1 dX3_foundLine_8 rfl (lv_at hl 3 rfl) ?_
      refine jget F hT hW fw_X3_54 (oSrv hr) (by decide) (rSrv3 hr) dX3_foundLine_9 ?_
      refine lv_icmp_ge (tgt := 130) F.1 F.2.1 dX3_foundLine_12 (by decide) (fun h3 => ?_) (fun h3 => ?_)
      · exact absurd h3 (c_nle hn.1 rfl (by omega) (by omega))
      · refine lv_aload_n F.1 F.2.1 dX3_foundLine_15 rfl (lv_at hl 3 rfl) ?_
        refine jgetR F hT hW fw_X3_25 (oSrv hr) (by decide) (rSrv2 hr) dX3_foundLine_16 ?_
        refine lv_iload_n F.1 F.2.1 dX3_foundLine_19 rfl (lv_at hl 0 rfl) ?_
        refine jaald (t := 3) (C := RX1) F hT hW j (oLns hr) rfl (by omega) (by decide) rfl (rLns hr) dX3_foundLine_20 ?_
        refine jcip (jrunV (As := []) (rest := []) F hT hW yc_X1_mayBegin yv_X1_mayBegin ml_X3_156 (oLin hr (by omega)) (by decide) rfl (c_X1_mayBegin l E μ r hr S j (by first | assumption | omega)) rfl hl.1 ⟨Nat.le_of_ble_eq_true rfl, Nat.le_of_ble_eq_true rfl⟩ rfl (Nat.le_of_ble_eq_true rfl) ⟨Nat.le_refl _, Nat.le_refl _⟩ dX3_foundLine_21) hW (fun x4 H locs ex4 hW => ?_)
        have hJ17 : ∀ (v15 : Int32) (v16 : Int32) (H : Heap) (locs : List Loc) (ls : Array Slot), v15 = (if x4 = 0 then v1 else (let x6 : Int32 := p_X1_presentRank S j (S 1 0) (S 1 1); (if (S 1 6) ≤ x6 then (let v12 : Int32 := (if v2 = (-6) then 1 else (if v1 < x6 then 1 else (if x6 = v1 then (if (S (3 + j) 6) ≤ (S (3 + (cn v2)) 6) then 0 else 1) else 0))); (if v12 = 0 then v1 else x6)) else v1))) → v16 = (if x4 = 0 then v2 else (let x6 : Int32 := p_X1_presentRank S j (S 1 0) (S 1 1); (if (S 1 6) ≤ x6 then (let v12 : Int32 := (if v2 = (-6) then 1 else (if v1 < x6 then 1 else (if x6 = v1 then (if (S (3 + j) 6) ≤ (S (3 + (cn v2)) 6) then 0 else 1) else 0))); (if v12 = 0 then v2 else nI j)) else v2))) → Wd E s H locs (fo μ r S) → lv_has ls 6 [(3, .int (nI j)), (2, .int v15), (1, .int v16), (0, .ref (ea E r 0))] → W p l e (rmO 1 23) s m ([.ref (ea E r 0)] : List Value).toArray below meth c H locs 0 0 (MQ below (va_Qi (fun x μ' => x = p_X3_foundLine S ∧ μ' = (fo μ r S)) (fun μ' t => MB E μ' t.heap) (AA E)) ([.ref (ea E r 0)] : List Value).toArray s 0 0 (AA E)) (F0 m 124 ls []) := by
          intro v15 v16 H locs ls ev15 ev16 hW hl
          refine lv_iinc (v := nI (j + 1)) (lv' := [(3, .int (nI (j + 1))), (2, .int v15), (1, .int v16), (0, .ref (ea E r 0))]) F.1 F.2.1 dX3_foundLine_124 hl (k := 0) rfl (ia rfl rfl) (by decide) rfl (fun ls hl => ?_)
          refine lv_goto (tgt := 7) F.1 F.2.1 dX3_foundLine_127 (by decide) ?_
          subst ev16
          subst ev15
          subst ex4
          exact ih (j + 1) _ _ _ _ _ (by omega) (by rw [itN_s, ← hs]; exact (rfl).symm) hW (lv_sub hl [0, 1, 2, 3] rfl)
        refine lv_if_ne (tgt := 30) F.1 F.2.1 dX3_foundLine_24 (by decide) (fun h5 => ?_) (fun h5 => ?_)
        · refine lv_aload_n F.1 F.2.1 dX3_foundLine_30 rfl (lv_at hl 3 rfl) ?_
          refine jgetR F hT hW fw_X3_25 (oSrv hr) (by decide) (rSrv2 hr) dX3_foundLine_31 ?_
          refine lv_iload_n F.1 F.2.1 dX3_foundLine_34 rfl (lv_at hl 0 rfl) ?_
          refine jaald (t := 3) (C := RX1) F hT hW j (oLns hr) rfl (by omega) (by decide) rfl (rLns hr) dX3_foundLine_35 ?_
          refine lv_aload_n F.1 F.2.1 dX3_foundLine_36 rfl (lv_at hl 3 rfl) ?_
          refine jgetR F hT hW fw_X3_18 (oSrv hr) (by decide) (rSrv1 hr) dX3_foundLine_37 ?_
          refine lv_iconst (v := 0) F.1 F.2.1 dX3_foundLine_40 (by decide) ?_
          refine jiald F hT hW 0 (oSet hr) (by omega) (by decide) (lI 0) (rSet hr) dX3_foundLine_41 ?_
          refine lv_aload_n F.1 F.2.1 dX3_foundLine_42 rfl (lv_at hl 3 rfl) ?_
          refine jgetR F hT hW fw_X3_18 (oSrv hr) (by decide) (rSrv1 hr) dX3_foundLine_43 ?_
          refine lv_iconst (v := 1) F.1 F.2.1 dX3_foundLine_46 (by decide) ?_
          refine jiald F hT hW 1 (oSet hr) (by omega) (by decide) (lI 1) (rSet hr) dX3_foundLine_47 ?_
          refine jcip (jrunV (As := [.int (S 1 0), .int (S 1 1)]) (rest := []) F hT hW yc_X1_presentRank yv_X1_presentRank ml_X3_160 (oLin hr (by omega)) (by decide) rfl (c_X1_presentRank l E μ r hr S j (S 1 0) (S 1 1) (by first | assumption | omega)) rfl hl.1 ⟨Nat.le_of_ble_eq_true rfl, Nat.le_of_ble_eq_true rfl⟩ rfl (Nat.le_of_ble_eq_true rfl) ⟨Nat.le_refl _, Nat.le_refl _⟩ dX3_foundLine_48) hW (fun x6 H locs ex6 hW => ?_)
          refine lv_istore (lv' := [(4, .int x6), (3, .int (nI j)), (2, .int v1), (1, .int v2), (0, .ref (ea E r 0))]) F.1 F.2.1 dX3_foundLine_51 hl (by decide) rfl (fun ls hl => ?_)
          refine lv_iload F.1 F.2.1 dX3_foundLine_53 (lv_at hl 0 rfl) ?_
          refine lv_aload_n F.1 F.2.1 dX3_foundLine_55 rfl (lv_at hl 4 rfl) ?_
          refine jgetR F hT hW fw_X3_18 (oSrv hr) (by decide) (rSrv1 hr) dX3_foundLine_56 ?_
          refine lv_bipush (v := 6) F.1 F.2.1 dX3_foundLine_59 (by decide) ?_
          refine jiald F hT hW 6 (oSet hr) (by omega) (by decide) (lI 6) (rSet hr) dX3_foundLine_61 ?_
          refine lv_icmp_ge (tgt := 68) F.1 F.2.1 dX3_foundLine_62 (by decide) (fun h7 => ?_) (fun h7 => ?_)
          · refine lv_iload_n F.1 F.2.1 dX3_foundLine_68 rfl (lv_at hl 3 rfl) ?_
            refine lv_bipush (v := (-6)) F.1 F.2.1 dX3_foundLine_69 (by decide) ?_
            have hJ13 : ∀ (v12 : Int32) (H : Heap) (locs : List Loc) (ls : Array Slot), v12 = (if v2 = (-6) then 1 else (if v1 < x6 then 1 else (if x6 = v1 then (if (S (3 + j) 6) ≤ (S (3 + (cn v2)) 6) then 0 else 1) else 0))) → Wd E s H locs (fo μ r S) → lv_has ls 6 [(4, .int x6), (3, .int (nI j)), (2, .int v1), (1, .int v2), (0, .ref (ea E r 0))] → W p l e (rmO 1 23) s m ([.ref (ea E r 0)] : List Value).toArray below meth c H locs 0 0 (MQ below (va_Qi (fun x μ' => x = p_X3_foundLine S ∧ μ' = (fo μ r S)) (fun μ' t => MB E μ' t.heap) (AA E)) ([.ref (ea E r 0)] : List Value).toArray s 0 0 (AA E)) (F0 m 112 ls [.int v12]) := by
              intro v12 H locs ls ev12 hW hl
              refine lv_istore (lv' := [(5, .int v12), (4, .int x6), (3, .int (nI j)), (2, .int v1), (1, .int v2), (0, .ref (ea E r 0))]) F.1 F.2.1 dX3_foundLine_112 hl (by decide) rfl (fun ls hl => ?_)
              refine lv_iload F.1 F.2.1 dX3_foundLine_114 (lv_at hl 0 rfl) ?_
              refine lv_if_eq (tgt := 124) F.1 F.2.1 dX3_foundLine_116 (by decide) (fun h14 => ?_) (fun h14 => ?_)
              · subst ev12
                subst ex6
                exact hJ17 _ _ _ _ _ ((if_neg h5).trans ((if_pos h7).trans (if_pos h14))).symm ((if_neg h5).trans ((if_pos h7).trans (if_pos h14))).symm hW (lv_sub hl [2, 3, 4, 5] rfl)
              · refine lv_iload_n F.1 F.2.1 dX3_foundLine_119 rfl (lv_at hl 2 rfl) ?_
                refine lv_istore_n (lv' := [(1, .int (nI j)), (5, .int v12), (4, .int x6), (3, .int (nI j)), (2, .int v1), (0, .ref (ea E r 0))]) F.1 F.2.1 dX3_foundLine_120 rfl hl (by decide) rfl (fun ls hl => ?_)
                refine lv_iload F.1 F.2.1 dX3_foundLine_121 (lv_at hl 2 rfl) ?_
                refine lv_istore_n (lv' := [(2, .int x6), (1, .int (nI j)), (5, .int v12), (4, .int x6), (3, .int (nI j)), (0, .ref (ea E r 0))]) F.1 F.2.1 dX3_foundLine_123 rfl hl (by decide) rfl (fun ls hl => ?_)
                subst ev12
                subst ex6
                exact hJ17 _ _ _ _ _ ((if_neg h5).trans ((if_pos h7).trans (if_neg h14))).symm ((if_neg h5).trans ((if_pos h7).trans (if_neg h14))).symm hW (lv_sub hl [4, 0, 1, 5] rfl)
            refine lv_icmp_eq (tgt := 107) F.1 F.2.1 dX3_foundLine_71 (by decide) (fun h8 => ?_) (fun h8 => ?_)
            · refine lv_iconst (v := 1) F.1 F.2.1 dX3_foundLine_107 (by decide) ?_
              refine lv_goto (tgt := 112) F.1 F.2.1 dX3_foundLine_108 (by decide) ?_
              exact hJ13 _ _ _ _ (if_pos h8).symm hW (lv_sub hl [0, 1, 2, 3, 4] rfl)
            · refine lv_iload F.1 F.2.1 dX3_foundLine_74 (lv_at hl 0 rfl) ?_
              refine lv_iload_n F.1 F.2.1 dX3_foundLine_76 rfl (lv_at hl 2 rfl) ?_
              refine lv_icmp_gt (tgt := 107) F.1 F.2.1 dX3_foundLine_77 (by decide) (fun h9 => ?_) (fun h9 => ?_)
              · refine lv_iconst (v := 1) F.1 F.2.1 dX3_foundLine_107 (by decide) ?_
                refine lv_goto (tgt := 112) F.1 F.2.1 dX3_foundLine_108 (by decide) ?_
                exact hJ13 _ _ _ _ ((if_neg h8).trans (if_pos h9)).symm hW (lv_sub hl [0, 1, 2, 3, 4] rfl)
              · refine lv_iload F.1 F.2.1 dX3_foundLine_80 (lv_at hl 0 rfl) ?_
                refine lv_iload_n F.1 F.2.1 dX3_foundLine_82 rfl (lv_at hl 2 rfl) ?_
                refine lv_icmp_ne (tgt := 111) F.1 F.2.1 dX3_foundLine_83 (by decide) (fun h10 => ?_) (fun h10 => ?_)
                · refine lv_iconst (v := 0) F.1 F.2.1 dX3_foundLine_111 (by decide) ?_
                  exact hJ13 _ _ _ _ ((if_neg h8).trans ((if_neg h9).trans (if_neg h10))).symm hW (lv_sub hl [0, 1, 2, 3, 4] rfl)
                · refine lv_aload_n F.1 F.2.1 dX3_foundLine_86 rfl (lv_at hl 4 rfl) ?_
                  refine jgetR F hT hW fw_X3_25 (oSrv hr) (by decide) (rSrv2 hr) dX3_foundLine_87 ?_
                  refine lv_iload_n F.1 F.2.1 dX3_foundLine_90 rfl (lv_at hl 1 rfl) ?_
                  refine jaald (t := 3) (C := RX1) F hT hW j (oLns hr) rfl (by omega) (by decide) rfl (rLns hr) dX3_foundLine_91 ?_
                  refine jget F hT hW fw_X3_164 (oLin hr (by omega)) (by decide) (rLin hr (by omega)) dX3_foundLine_92 ?_
                  refine lv_aload_n F.1 F.2.1 dX3_foundLine_95 rfl (lv_at hl 4 rfl) ?_
                  refine jgetR F hT hW fw_X3_25 (oSrv hr) (by decide) (rSrv2 hr) dX3_foundLine_96 ?_
                  refine lv_iload_n F.1 F.2.1 dX3_foundLine_99 rfl (lv_at hl 3 rfl) ?_
                  refine jaald (t := 3) (C := RX1) F hT hW (cn v2) (oLns hr) rfl (Nat.lt_of_le_of_lt (hfd.resolve_left (by assumption)).2 (by decide)) (by decide) (hfd.resolve_left (by assumption)).1 (rLns hr) dX3_foundLine_100 ?_
                  refine jget F hT hW fw_X3_164 (oLin hr (Nat.lt_of_le_of_lt (hfd.resolve_left (by assumption)).2 (by decide))) (by decide) (rLin hr (Nat.lt_of_le_of_lt (hfd.resolve_left (by assumption)).2 (by decide))) dX3_foundLine_101 ?_
                  refine lv_icmp_le (tgt := 111) F.1 F.2.1 dX3_foundLine_104 (by decide) (fun h11 => ?_) (fun h11 => ?_)
                  · refine lv_iconst (v := 0) F.1 F.2.1 dX3_foundLine_111 (by decide) ?_
                    exact hJ13 _ _ _ _ ((if_neg h8).trans ((if_neg h9).trans ((if_pos h10).trans (if_pos h11)))).symm hW (lv_sub hl [0, 1, 2, 3, 4] rfl)
                  · refine lv_iconst (v := 1) F.1 F.2.1 dX3_foundLine_107 (by decide) ?_
                    refine lv_goto (tgt := 112) F.1 F.2.1 dX3_foundLine_108 (by decide) ?_
                    exact hJ13 _ _ _ _ ((if_neg h8).trans ((if_neg h9).trans ((if_pos h10).trans (if_neg h11)))).symm hW (lv_sub hl [0, 1, 2, 3, 4] rfl)
          · refine lv_goto (tgt := 124) F.1 F.2.1 dX3_foundLine_65 (by decide) ?_
            subst ex6
            exact hJ17 _ _ _ _ _ ((if_neg h5).trans (if_neg h7)).symm ((if_neg h5).trans (if_neg h7)).symm hW (lv_sub hl [1, 2, 3, 4] rfl)
        · refine lv_goto (tgt := 124) F.1 F.2.1 dX3_foundLine_27 (by decide) ?_
          exact hJ17 _ _ _ _ _ (if_pos h5).symm (if_pos h5).symm hW (lv_sub hl [0, 1, 2, 3] rfl)
  exact hL3 (cn (S 0 3)) 0 0 (-6) _ _ _ (by omega) rfl hW (lv_sub hl [0, 1, 2, 3] rfl)

/-- counts and numbers of lines in their ranges -/
def Wf (S : Sv) : Prop := Bn (S 0 3) 12 ∧ Bn (S 0 5) 6 ∧ Bn (S 0 7) 8 ∧ (∀ q, q < cn (S 0 5) → Bn (S (16 + q) 0) 11) ∧ ∀ q, q < cn (S 0 7) → Bn (S (23 + q) 0) 11
theorem Wf.same {S S' : Sv} (h : Wf S) (h3 : S' 0 3 = S 0 3) (h5 : S' 0 5 = S 0 5) (h7 : S' 0 7 = S 0 7) (ht : ∀ q, q < 6 → S' (16 + q) 0 = S (16 + q) 0) (hv : ∀ q, q < 8 → S' (23 + q) 0 = S (23 + q) 0) : Wf S' := by
  obtain ⟨a, b, d, e, f⟩ := h
  have b2 := b.2
  have d2 := d.2
  refine ⟨by rw [h3]; exact a, by rw [h5]; exact b, by rw [h7]; exact d, fun q hq => ?_, fun q hq => ?_⟩
  · rw [h5] at hq
    rw [ht q (by omega)]
    exact e q hq
  · rw [h7] at hq
    rw [hv q (by omega)]
    exact f q hq
theorem wf_raise {S : Sv} (h : Wf S) : Wf (p_X3_raiseByTimers S) := by
  have hk := rt_keep h.2.1.2 h.2.2.2.1 (cn (S 0 5)) (Nat.le_refl _)
  exact h.same (hk 0 3 (by omega) (by omega)) (hk 0 5 (by omega) (by omega)) (hk 0 7 (by omega) (by omega)) (fun q hq => hk _ 0 (by omega) (by omega)) (fun q hq => hk _ 0 (by omega) (by omega))
theorem wf_grow {S : Sv} (h : Wf S) : Wf (p_X3_growWaits S) := by
  have hk := fun p => gw_keep (S := S) (cn (S 0 3)) p
  exact h.same (hk 0 3 (by decide)) (hk 0 5 (by decide)) (hk 0 7 (by decide)) (fun q _ => hk _ 0 (by decide)) (fun q _ => hk _ 0 (by decide))
theorem fd_res {S : Sv} (hn : Bn (S 0 3) 12) : p_X3_foundLine S = (-6) ∨ Bn (p_X3_foundLine S) 11 := fd_it (S := S) _ hn.2
theorem nt_room {S : Sv} {rk x : Int32} (hd : Bn (S 0 7) 8) (hx : x = p_X3_nestTakes S rk) (h : ¬ x = 0) : cn (S 0 7) < 8 := by
  subst hx
  unfold p_X3_nestTakes at h
  by_cases h1 : S 0 7 = 0
  · rw [h1]; decide
  · rw [if_neg h1] at h
    dsimp only at h
    by_cases h2 : S 1 3 ≤ S 0 7
    · rw [if_pos h2] at h
      exact absurd rfl h
    · by_cases h3 : 8 ≤ S 0 7
      · rw [if_neg h2, if_pos h3] at h
        exact absurd rfl h
      · exact bn_ltc hd (by decide) (lI 8) (by decide) (Int32.not_le.mp h3)

def p_X3_beginFoundLine (S : Sv) : Int32 × Sv :=
  let x1 : Int32 := p_X3_foundLine S
  if x1 = (-6) then
    (((-6) : Int32), S)
  else
    let x3 : Int32 := p_X1_presentRank S (cn x1) (S 1 0) (S 1 1)
    let x4 : Int32 := p_X3_nestTakes S x3
    if x4 = 0 then
      (((-6) : Int32), S)
    else
      let S8 : Sv := (if (S 0 7) ≤ 0 then S else (let S7 : Sv := us S 0 10 ((S 0 10) + 1); S7))
      let S10 : Sv := us S8 (23 + (cn (S 0 7))) 0 x1
      let S11 : Sv := us S10 (23 + (cn (S 0 7))) 1 x3
      let x12 : Int32 := p_X3_costOf S11 (cn x1)
      let S13 : Sv := us S11 (23 + (cn (S 0 7))) 2 x12
      let S14 : Sv := us S13 (23 + (cn (S 0 7))) 3 (S13 0 0)
      let S15 : Sv := p_X1_enterNest S14 (cn x1) (S14 0 7)
      let S16 : Sv := us S15 0 7 ((S15 0 7) + 1)
      let S19 : Sv := (if (S16 0 7) ≤ (S16 0 9) then S16 else (let S18 : Sv := us S16 0 9 (S16 0 7); S18))
      ((x1 : Int32), S19)

set_option maxHeartbeats 4000000 in
set_option maxRecDepth 100000 in
theorem c_X3_beginFoundLine (l : Launch) (E : mE) (μ : Mu) (r : Nat) (hr : r < 11) (S : Sv) (hn : Bn (S 0 3) 12) (hd : Bn (S 0 7) 8) : CtI l E yX3_beginFoundLine cX3_beginFoundLine 5 (some .int) 2 48 [.ref (ea E r 0)] (fo μ r S) (fun x μ' => x = (p_X3_beginFoundLine S).1 ∧ μ' = fo μ r (p_X3_beginFoundLine S).2) := by
  refine jMet (by decide +kernel) (Nat.le_of_ble_eq_true rfl) ?_
  intro p e s m below meth c ls F hT hr0 hlk hW hl
  have F : CallFix p m c cX3_beginFoundLine 5 s _ TB RX3 := F
  have hl : lv_has ls 5 [(0, .ref (ea E r 0))] := hl
  have hn2 := hn.2
  refine lv_aload_n F.1 F.2.1 dX3_beginFoundLine_0 rfl (lv_at hl 0 rfl) ?_
  refine jcip (jrunV (As := []) (rest := []) F hT hW yc_X3_foundLine yv_X3_foundLine ml_X3_167 (oSrv hr) (by decide) rfl (c_X3_foundLine l E μ r hr S (by first | assumption | omega)) rfl hl.1 ⟨Nat.le_of_ble_eq_true rfl, Nat.le_of_ble_eq_true rfl⟩ rfl (Nat.le_of_ble_eq_true rfl) ⟨Nat.le_refl _, Nat.le_refl _⟩ dX3_beginFoundLine_1) hW (fun x1 H locs ex1 hW => ?_)
  have hfx : x1 = (-6) ∨ Bn x1 11 := by rw [ex1]; exact fd_res hn
  refine lv_istore_n (lv' := [(1, .int x1), (0, .ref (ea E r 0))]) F.1 F.2.1 dX3_beginFoundLine_4 rfl hl (by decide) rfl (fun ls hl => ?_)
  refine lv_iload_n F.1 F.2.1 dX3_beginFoundLine_5 rfl (lv_at hl 0 rfl) ?_
  refine lv_bipush (v := (-6)) F.1 F.2.1 dX3_beginFoundLine_6 (by decide) ?_
  refine lv_icmp_ne (tgt := 14) F.1 F.2.1 dX3_beginFoundLine_8 (by decide) (fun h2 => ?_) (fun h2 => ?_)
  · have hb11 := (hfx.resolve_left (by assumption)).2
    refine lv_aload_n F.1 F.2.1 dX3_beginFoundLine_14 rfl (lv_at hl 1 rfl) ?_
    refine jgetR F hT hW fw_X3_25 (oSrv hr) (by decide) (rSrv2 hr) dX3_beginFoundLine_15 ?_
    refine lv_iload_n F.1 F.2.1 dX3_beginFoundLine_18 rfl (lv_at hl 0 rfl) ?_
    refine jaald (t := 3) (C := RX1) F hT hW (cn x1) (oLns hr) rfl (by omega) (by decide) (hfx.resolve_left (by assumption)).1 (rLns hr) dX3_beginFoundLine_19 ?_
    refine lv_astore_n (lv' := [(2, .ref (ea E r (3 + (cn x1)))), (1, .int x1), (0, .ref (ea E r 0))]) F.1 F.2.1 dX3_beginFoundLine_20 rfl hl (by decide) rfl (fun ls hl => ?_)
    refine lv_aload_n F.1 F.2.1 dX3_beginFoundLine_21 rfl (lv_at hl 0 rfl) ?_
    refine lv_aload_n F.1 F.2.1 dX3_beginFoundLine_22 rfl (lv_at hl 2 rfl) ?_
    refine jgetR F hT hW fw_X3_18 (oSrv hr) (by decide) (rSrv1 hr) dX3_beginFoundLine_23 ?_
    refine lv_iconst (v := 0) F.1 F.2.1 dX3_beginFoundLine_26 (by decide) ?_
    refine jiald F hT hW 0 (oSet hr) (by omega) (by decide) (lI 0) (rSet hr) dX3_beginFoundLine_27 ?_
    refine lv_aload_n F.1 F.2.1 dX3_beginFoundLine_28 rfl (lv_at hl 2 rfl) ?_
    refine jgetR F hT hW fw_X3_18 (oSrv hr) (by decide) (rSrv1 hr) dX3_beginFoundLine_29 ?_
    refine lv_iconst (v := 1) F.1 F.2.1 dX3_beginFoundLine_32 (by decide) ?_
    refine jiald F hT hW 1 (oSet hr) (by omega) (by decide) (lI 1) (rSet hr) dX3_beginFoundLine_33 ?_
    refine jcip (jrunV (As := [.int (S 1 0), .int (S 1 1)]) (rest := []) F hT hW yc_X1_presentRank yv_X1_presentRank ml_X3_160 (oLin hr (by omega)) (by decide) rfl (c_X1_presentRank l E μ r hr S (cn x1) (S 1 0) (S 1 1) (by first | assumption | omega)) rfl hl.1 ⟨Nat.le_of_ble_eq_true rfl, Nat.le_of_ble_eq_true rfl⟩ rfl (Nat.le_of_ble_eq_true rfl) ⟨Nat.le_refl _, Nat.le_refl _⟩ dX3_beginFoundLine_34) hW (fun x3 H locs ex3 hW => ?_)
    refine lv_istore_n (lv' := [(3, .int x3), (2, .ref (ea E r (3 + (cn x1)))), (1, .int x1), (0, .ref (ea E r 0))]) F.1 F.2.1 dX3_beginFoundLine_37 rfl hl (by decide) rfl (fun ls hl => ?_)
    refine lv_aload_n F.1 F.2.1 dX3_beginFoundLine_38 rfl (lv_at hl 3 rfl) ?_
    refine lv_iload_n F.1 F.2.1 dX3_beginFoundLine_39 rfl (lv_at hl 0 rfl) ?_
    refine jcip (jrunV (As := [.int x3]) (rest := []) F hT hW yc_X3_nestTakes yv_X3_nestTakes ml_X3_170 (oSrv hr) (by decide) rfl (c_X3_nestTakes l E μ r hr S x3 (by first | assumption | omega)) rfl hl.1 ⟨Nat.le_of_ble_eq_true rfl, Nat.le_of_ble_eq_true rfl⟩ rfl (Nat.le_of_ble_eq_true rfl) ⟨Nat.le_refl _, Nat.le_refl _⟩ dX3_beginFoundLine_40) hW (fun x4 H locs ex4 hW => ?_)
    refine lv_if_ne (tgt := 49) F.1 F.2.1 dX3_beginFoundLine_43 (by decide) (fun h5 => ?_) (fun h5 => ?_)
    · have hd8 := nt_room hd (by assumption) (by assumption)
      refine lv_aload_n F.1 F.2.1 dX3_beginFoundLine_49 rfl (lv_at hl 3 rfl) ?_
      refine jget F hT hW fw_X3_67 (oSrv hr) (by decide) (rSrv7 hr) dX3_beginFoundLine_50 ?_
      have hJ9 : ∀ (S8 : Sv) (H : Heap) (locs : List Loc) (ls : Array Slot), S8 = (if (S 0 7) ≤ 0 then S else (let S7 : Sv := us S 0 10 ((S 0 10) + 1); S7)) → Wd E s H locs (fo μ r S8) → lv_has ls 5 [(3, .int x3), (2, .ref (ea E r (3 + (cn x1)))), (1, .int x1), (0, .ref (ea E r 0))] → W p l e (rmO 2 48) s m ([.ref (ea E r 0)] : List Value).toArray below meth c H locs 0 0 (MQ below (va_Qi (fun x μ' => x = (p_X3_beginFoundLine S).1 ∧ μ' = fo μ r (p_X3_beginFoundLine S).2) (fun μ' t => MB E μ' t.heap) (AA E)) ([.ref (ea E r 0)] : List Value).toArray s 0 0 (AA E)) (F0 m 66 ls []) := by
        intro S8 H locs ls eS8 hW hl
        have h7 : S8 0 7 = S 0 7 := by rw [eS8]; split <;> simp [us]
        refine lv_aload_n F.1 F.2.1 dX3_beginFoundLine_66 rfl (lv_at hl 3 rfl) ?_
        refine jgetR F hT hW fw_X3_39 (oSrv hr) (by decide) (rSrv6 hr) dX3_beginFoundLine_67 ?_
        refine lv_aload_n F.1 F.2.1 dX3_beginFoundLine_70 rfl (lv_at hl 3 rfl) ?_
        refine jget F hT hW fw_X3_67 (oSrv hr) (by decide) (rSrv7 hr) dX3_beginFoundLine_71 ?_
        refine jaald (t := 5) (C := RX4) F hT hW (cn (S 0 7)) (oNst hr) rfl (by omega) (by decide) (h7.trans hd.1) (rNst hr) dX3_beginFoundLine_74 ?_
        refine lv_astore (lv' := [(4, .ref (ea E r (23 + (cn (S 0 7))))), (3, .int x3), (2, .ref (ea E r (3 + (cn x1)))), (1, .int x1), (0, .ref (ea E r 0))]) F.1 F.2.1 dX3_beginFoundLine_75 hl (by decide) rfl (fun ls hl => ?_)
        refine lv_aload F.1 F.2.1 dX3_beginFoundLine_77 (lv_at hl 0 rfl) ?_
        refine lv_iload_n F.1 F.2.1 dX3_beginFoundLine_79 rfl (lv_at hl 3 rfl) ?_
        refine jput F hT hW fw_X3_173 ft_4_0 (oSvc hr (by omega)) (by decide) (rn12 hr) (rSvc hr (by omega)) rfl rfl dX3_beginFoundLine_80 (fun S10 H locs eS10 hW => ?_)
        refine lv_aload F.1 F.2.1 dX3_beginFoundLine_83 (lv_at hl 0 rfl) ?_
        refine lv_iload_n F.1 F.2.1 dX3_beginFoundLine_85 rfl (lv_at hl 1 rfl) ?_
        refine jput F hT hW fw_X3_174 ft_4_1 (oSvc hr (by omega)) (by decide) (rn12 hr) (rSvc hr (by omega)) rfl rfl dX3_beginFoundLine_86 (fun S11 H locs eS11 hW => ?_)
        refine lv_aload F.1 F.2.1 dX3_beginFoundLine_89 (lv_at hl 0 rfl) ?_
        refine lv_aload_n F.1 F.2.1 dX3_beginFoundLine_91 rfl (lv_at hl 4 rfl) ?_
        refine lv_iload_n F.1 F.2.1 dX3_beginFoundLine_92 rfl (lv_at hl 3 rfl) ?_
        refine jcip (jrunV (As := [.int x1]) (rest := [.ref (ea E r (23 + (cn (S 0 7))))]) F hT hW yc_X3_costOf yv_X3_costOf ml_X3_175 (oSrv hr) (by decide) rfl (c_X3_costOf l E μ r hr S11 x1 (cn x1) ((hfx.resolve_left (by assumption)).1) (by first | assumption | omega)) rfl hl.1 ⟨Nat.le_of_ble_eq_true rfl, Nat.le_of_ble_eq_true rfl⟩ rfl (Nat.le_of_ble_eq_true rfl) ⟨Nat.le_refl _, Nat.le_refl _⟩ dX3_beginFoundLine_93) hW (fun x12 H locs ex12 hW => ?_)
        refine jput F hT hW fw_X3_179 ft_4_2 (oSvc hr (by omega)) (by decide) (rn12 hr) (rSvc hr (by omega)) rfl rfl dX3_beginFoundLine_96 (fun S13 H locs eS13 hW => ?_)
        refine lv_aload F.1 F.2.1 dX3_beginFoundLine_99 (lv_at hl 0 rfl) ?_
        refine lv_aload_n F.1 F.2.1 dX3_beginFoundLine_101 rfl (lv_at hl 4 rfl) ?_
        refine jget F hT hW fw_X3_44 (oSrv hr) (by decide) (rSrv0 hr) dX3_beginFoundLine_102 ?_
        refine jput F hT hW fw_X3_182 ft_4_3 (oSvc hr (by omega)) (by decide) (rn12 hr) (rSvc hr (by omega)) rfl rfl dX3_beginFoundLine_105 (fun S14 H locs eS14 hW => ?_)
        refine lv_aload_n F.1 F.2.1 dX3_beginFoundLine_108 rfl (lv_at hl 2 rfl) ?_
        refine lv_aload_n F.1 F.2.1 dX3_beginFoundLine_109 rfl (lv_at hl 4 rfl) ?_
        refine jget F hT hW fw_X3_67 (oSrv hr) (by decide) (rSrv7 hr) dX3_beginFoundLine_110 ?_
        refine jcvf (jrunV (As := [.int (S14 0 7)]) (rest := []) F hT hW yc_X1_enterNest yv_X1_enterNest ml_X3_185 (oLin hr (by omega)) (by decide) rfl (c_X1_enterNest l E μ r hr S14 (cn x1) (S14 0 7) (by first | assumption | omega)) rfl hl.1 ⟨Nat.le_of_ble_eq_true rfl, Nat.le_of_ble_eq_true rfl⟩ rfl (Nat.le_of_ble_eq_true rfl) ⟨Nat.le_refl _, Nat.le_refl _⟩ dX3_beginFoundLine_113) hW (fun S15 H locs eS15 hW => ?_)
        refine lv_aload_n F.1 F.2.1 dX3_beginFoundLine_116 rfl (lv_at hl 4 rfl) ?_
        refine lv_dup F.1 F.2.1 dX3_beginFoundLine_117 rfl ?_
        refine jget F hT hW fw_X3_67 (oSrv hr) (by decide) (rSrv7 hr) dX3_beginFoundLine_118 ?_
        refine lv_iconst (v := 1) F.1 F.2.1 dX3_beginFoundLine_121 (by decide) ?_
        refine lv_iadd F.1 F.2.1 dX3_beginFoundLine_122 ?_
        refine jput F hT hW fw_X3_67 ft_3_7 (oSrv hr) (by decide) (rn12 hr) (rSrv7 hr) rfl rfl dX3_beginFoundLine_123 (fun S16 H locs eS16 hW => ?_)
        refine lv_aload_n F.1 F.2.1 dX3_beginFoundLine_126 rfl (lv_at hl 4 rfl) ?_
        refine jget F hT hW fw_X3_67 (oSrv hr) (by decide) (rSrv7 hr) dX3_beginFoundLine_127 ?_
        refine lv_aload_n F.1 F.2.1 dX3_beginFoundLine_130 rfl (lv_at hl 4 rfl) ?_
        refine jget F hT hW fw_X3_76 (oSrv hr) (by decide) (rSrv9 hr) dX3_beginFoundLine_131 ?_
        have hJ20 : ∀ (S19 : Sv) (H : Heap) (locs : List Loc) (ls : Array Slot), S19 = (if (S16 0 7) ≤ (S16 0 9) then S16 else (let S18 : Sv := us S16 0 9 (S16 0 7); S18)) → Wd E s H locs (fo μ r S19) → lv_has ls 5 [(4, .ref (ea E r (23 + (cn (S 0 7))))), (3, .int x3), (2, .ref (ea E r (3 + (cn x1)))), (1, .int x1), (0, .ref (ea E r 0))] → W p l e (rmO 2 48) s m ([.ref (ea E r 0)] : List Value).toArray below meth c H locs 0 0 (MQ below (va_Qi (fun x μ' => x = (p_X3_beginFoundLine S).1 ∧ μ' = fo μ r (p_X3_beginFoundLine S).2) (fun μ' t => MB E μ' t.heap) (AA E)) ([.ref (ea E r 0)] : List Value).toArray s 0 0 (AA E)) (F0 m 145 ls []) := by
          intro S19 H locs ls eS19 hW hl
          refine lv_iload_n F.1 F.2.1 dX3_beginFoundLine_145 rfl (lv_at hl 3 rfl) ?_
          have hq : ((x1 : Int32), S19) = p_X3_beginFoundLine S := by
            subst eS19
            subst eS16
            subst eS15
            subst eS14
            subst eS13
            subst ex12
            subst eS11
            subst eS10
            subst eS8
            subst ex4
            subst ex3
            subst ex1
            exact ((if_neg h2).trans (if_neg h5)).symm
          exact jri F hr0 hlk hW rfl dX3_beginFoundLine_146 ⟨congrArg Prod.fst hq, congrArg (fun z => fo μ r z.2) hq⟩
        refine lv_icmp_le (tgt := 145) F.1 F.2.1 dX3_beginFoundLine_134 (by decide) (fun h17 => ?_) (fun h17 => ?_)
        · exact hJ20 _ _ _ _ (if_pos h17).symm hW (lv_sub hl [0, 1, 2, 3, 4] rfl)
        · refine lv_aload_n F.1 F.2.1 dX3_beginFoundLine_137 rfl (lv_at hl 4 rfl) ?_
          refine lv_aload_n F.1 F.2.1 dX3_beginFoundLine_138 rfl (lv_at hl 4 rfl) ?_
          refine jget F hT hW fw_X3_67 (oSrv hr) (by decide) (rSrv7 hr) dX3_beginFoundLine_139 ?_
          refine jput F hT hW fw_X3_76 ft_3_9 (oSrv hr) (by decide) (rn12 hr) (rSrv9 hr) rfl rfl dX3_beginFoundLine_142 (fun S18 H locs eS18 hW => ?_)
          subst eS18
          exact hJ20 _ _ _ _ (if_neg h17).symm hW (lv_sub hl [0, 1, 2, 3, 4] rfl)
      refine lv_if_le (tgt := 66) F.1 F.2.1 dX3_beginFoundLine_53 (by decide) (fun h6 => ?_) (fun h6 => ?_)
      · exact hJ9 _ _ _ _ (if_pos h6).symm hW (lv_sub hl [0, 1, 2, 3] rfl)
      · refine lv_aload_n F.1 F.2.1 dX3_beginFoundLine_56 rfl (lv_at hl 3 rfl) ?_
        refine lv_dup F.1 F.2.1 dX3_beginFoundLine_57 rfl ?_
        refine jget F hT hW fw_X3_79 (oSrv hr) (by decide) (rSrv10 hr) dX3_beginFoundLine_58 ?_
        refine lv_iconst (v := 1) F.1 F.2.1 dX3_beginFoundLine_61 (by decide) ?_
        refine lv_iadd F.1 F.2.1 dX3_beginFoundLine_62 ?_
        refine jput F hT hW fw_X3_79 ft_3_10 (oSrv hr) (by decide) (rn12 hr) (rSrv10 hr) rfl rfl dX3_beginFoundLine_63 (fun S7 H locs eS7 hW => ?_)
        subst eS7
        exact hJ9 _ _ _ _ (if_neg h6).symm hW (lv_sub hl [0, 1, 2, 3] rfl)
    · refine lv_bipush (v := (-6)) F.1 F.2.1 dX3_beginFoundLine_46 (by decide) ?_
      have hq : (((-6) : Int32), S) = p_X3_beginFoundLine S := by
        subst ex4
        subst ex3
        subst ex1
        exact ((if_neg h2).trans (if_pos h5)).symm
      exact jri F hr0 hlk hW rfl dX3_beginFoundLine_48 ⟨congrArg Prod.fst hq, congrArg (fun z => fo μ r z.2) hq⟩
  · refine lv_bipush (v := (-6)) F.1 F.2.1 dX3_beginFoundLine_11 (by decide) ?_
    have hq : (((-6) : Int32), S) = p_X3_beginFoundLine S := by
      subst ex1
      exact (if_pos h2).symm
    exact jri F hr0 hlk hW rfl dX3_beginFoundLine_13 ⟨congrArg Prod.fst hq, congrArg (fun z => fo μ r z.2) hq⟩

def p_X3_serveTop (S : Sv) : Sv :=
  if (S 0 7) = 0 then
    S
  else
    let S2 : Sv := us S 0 8 ((S 0 8) + 1)
    let S3 : Sv := us S2 (23 + (cn (S 0 7) - 1)) 2 ((S2 (23 + (cn (S 0 7) - 1)) 2) - 1)
    let S7 : Sv := (if 0 < (S3 (23 + (cn (S 0 7) - 1)) 2) then S3 else (let S5 : Sv := us S3 0 7 ((S3 0 7) - 1); (let S6 : Sv := p_X1_leaveNest S5 (cn (S (23 + (cn (S 0 7) - 1)) 0)); S6)))
    S7

set_option maxHeartbeats 4000000 in
set_option maxRecDepth 100000 in
theorem c_X3_serveTop (l : Launch) (E : mE) (μ : Mu) (r : Nat) (hr : r < 11) (S : Sv) (hn : Bn (S 0 3) 12) (hd : Bn (S 0 7) 8) (hv8 : ∀ q, q < cn (S 0 7) → Bn (S (23 + q) 0) 11) : CtV l E yX3_serveTop cX3_serveTop 2 2 41 [.ref (ea E r 0)] (fo μ r S) (fun μ' => μ' = fo μ r (p_X3_serveTop S)) := by
  refine jMet (by decide +kernel) (Nat.le_of_ble_eq_true rfl) ?_
  intro p e s m below meth c ls F hT hr0 hlk hW hl
  have F : CallFix p m c cX3_serveTop 2 s _ TB RX3 := F
  have hl : lv_has ls 2 [(0, .ref (ea E r 0))] := hl
  refine lv_aload_n F.1 F.2.1 dX3_serveTop_0 rfl (lv_at hl 0 rfl) ?_
  refine jget F hT hW fw_X3_67 (oSrv hr) (by decide) (rSrv7 hr) dX3_serveTop_1 ?_
  refine lv_if_ne (tgt := 8) F.1 F.2.1 dX3_serveTop_4 (by decide) (fun h1 => ?_) (fun h1 => ?_)
  · have hd0 := ntk hd (by assumption)
    have hd2 := hd.2
    refine lv_aload_n F.1 F.2.1 dX3_serveTop_8 rfl (lv_at hl 0 rfl) ?_
    refine jgetR F hT hW fw_X3_39 (oSrv hr) (by decide) (rSrv6 hr) dX3_serveTop_9 ?_
    refine lv_aload_n F.1 F.2.1 dX3_serveTop_12 rfl (lv_at hl 0 rfl) ?_
    refine jget F hT hW fw_X3_67 (oSrv hr) (by decide) (rSrv7 hr) dX3_serveTop_13 ?_
    refine lv_iconst (v := 1) F.1 F.2.1 dX3_serveTop_16 (by decide) ?_
    refine lv_isub F.1 F.2.1 dX3_serveTop_17 ?_
    refine jaald (t := 5) (C := RX4) F hT hW (cn (S 0 7) - 1) (oNst hr) rfl (by omega) (by decide) (isb hd.1 (lI 1) (by omega)) (rNst hr) dX3_serveTop_18 ?_
    refine lv_astore_n (lv' := [(1, .ref (ea E r (23 + (cn (S 0 7) - 1)))), (0, .ref (ea E r 0))]) F.1 F.2.1 dX3_serveTop_19 rfl hl (by decide) rfl (fun ls hl => ?_)
    refine lv_aload_n F.1 F.2.1 dX3_serveTop_20 rfl (lv_at hl 1 rfl) ?_
    refine lv_dup F.1 F.2.1 dX3_serveTop_21 rfl ?_
    refine jget F hT hW fw_X3_73 (oSrv hr) (by decide) (rSrv8 hr) dX3_serveTop_22 ?_
    refine lv_iconst (v := 1) F.1 F.2.1 dX3_serveTop_25 (by decide) ?_
    refine lv_iadd F.1 F.2.1 dX3_serveTop_26 ?_
    refine jput F hT hW fw_X3_73 ft_3_8 (oSrv hr) (by decide) (rn12 hr) (rSrv8 hr) rfl rfl dX3_serveTop_27 (fun S2 H locs eS2 hW => ?_)
    refine lv_aload_n F.1 F.2.1 dX3_serveTop_30 rfl (lv_at hl 0 rfl) ?_
    refine lv_dup F.1 F.2.1 dX3_serveTop_31 rfl ?_
    refine jget F hT hW fw_X3_179 (oSvc hr (by omega)) (by decide) (rSvc hr (by omega)) dX3_serveTop_32 ?_
    refine lv_iconst (v := 1) F.1 F.2.1 dX3_serveTop_35 (by decide) ?_
    refine lv_isub F.1 F.2.1 dX3_serveTop_36 ?_
    refine jput F hT hW fw_X3_179 ft_4_2 (oSvc hr (by omega)) (by decide) (rn12 hr) (rSvc hr (by omega)) rfl rfl dX3_serveTop_37 (fun S3 H locs eS3 hW => ?_)
    refine lv_aload_n F.1 F.2.1 dX3_serveTop_40 rfl (lv_at hl 0 rfl) ?_
    refine jget F hT hW fw_X3_179 (oSvc hr (by omega)) (by decide) (rSvc hr (by omega)) dX3_serveTop_41 ?_
    have hJ8 : ∀ (S7 : Sv) (H : Heap) (locs : List Loc) (ls : Array Slot), S7 = (if 0 < (S3 (23 + (cn (S 0 7) - 1)) 2) then S3 else (let S5 : Sv := us S3 0 7 ((S3 0 7) - 1); (let S6 : Sv := p_X1_leaveNest S5 (cn (S (23 + (cn (S 0 7) - 1)) 0)); S6))) → Wd E s H locs (fo μ r S7) → lv_has ls 2 [(1, .ref (ea E r (23 + (cn (S 0 7) - 1)))), (0, .ref (ea E r 0))] → W p l e (rmO 2 41) s m ([.ref (ea E r 0)] : List Value).toArray below meth c H locs 0 0 (MQ below (va_Qv (fun μ' => μ' = fo μ r (p_X3_serveTop S)) (fun μ' t => MB E μ' t.heap) (AA E)) ([.ref (ea E r 0)] : List Value).toArray s 0 0 (AA E)) (F0 m 69 ls []) := by
      intro S7 H locs ls eS7 hW hl
      have hq : S7 = p_X3_serveTop S := by
        subst eS7
        subst eS3
        subst eS2
        exact (if_neg h1).symm
      exact jrv F hr0 hlk hW dX3_serveTop_69 (congrArg (fun z => fo μ r z) hq)
    refine lv_if_gt (tgt := 69) F.1 F.2.1 dX3_serveTop_44 (by decide) (fun h4 => ?_) (fun h4 => ?_)
    · exact hJ8 _ _ _ _ (if_pos h4).symm hW (lv_sub hl [0, 1] rfl)
    · refine lv_aload_n F.1 F.2.1 dX3_serveTop_47 rfl (lv_at hl 1 rfl) ?_
      refine lv_dup F.1 F.2.1 dX3_serveTop_48 rfl ?_
      refine jget F hT hW fw_X3_67 (oSrv hr) (by decide) (rSrv7 hr) dX3_serveTop_49 ?_
      refine lv_iconst (v := 1) F.1 F.2.1 dX3_serveTop_52 (by decide) ?_
      refine lv_isub F.1 F.2.1 dX3_serveTop_53 ?_
      refine jput F hT hW fw_X3_67 ft_3_7 (oSrv hr) (by decide) (rn12 hr) (rSrv7 hr) rfl rfl dX3_serveTop_54 (fun S5 H locs eS5 hW => ?_)
      have hl0 : S5 (23 + (cn (S 0 7) - 1)) 0 = S (23 + (cn (S 0 7) - 1)) 0 := by simp [us, eS5, eS3, eS2]
      have hb11 := (hv8 (cn (S 0 7) - 1) (by omega)).2
      refine lv_aload_n F.1 F.2.1 dX3_serveTop_57 rfl (lv_at hl 1 rfl) ?_
      refine jgetR F hT hW fw_X3_25 (oSrv hr) (by decide) (rSrv2 hr) dX3_serveTop_58 ?_
      refine lv_aload_n F.1 F.2.1 dX3_serveTop_61 rfl (lv_at hl 0 rfl) ?_
      refine jget F hT hW fw_X3_173 (oSvc hr (by omega)) (by decide) (rSvc hr (by omega)) dX3_serveTop_62 ?_
      refine jaald (t := 3) (C := RX1) F hT hW (cn (S (23 + (cn (S 0 7) - 1)) 0)) (oLns hr) rfl (by omega) (by decide) (hl0.trans (hv8 _ (by omega)).1) (rLns hr) dX3_serveTop_65 ?_
      refine jcvf (jrunV (As := []) (rest := []) F hT hW yc_X1_leaveNest yv_X1_leaveNest ml_X3_189 (oLin hr (by omega)) (by decide) rfl (c_X1_leaveNest l E μ r hr S5 (cn (S (23 + (cn (S 0 7) - 1)) 0)) (by first | assumption | omega)) rfl hl.1 ⟨Nat.le_of_ble_eq_true rfl, Nat.le_of_ble_eq_true rfl⟩ rfl (Nat.le_of_ble_eq_true rfl) ⟨Nat.le_refl _, Nat.le_refl _⟩ dX3_serveTop_66) hW (fun S6 H locs eS6 hW => ?_)
      subst eS6
      subst eS5
      exact hJ8 _ _ _ _ (if_neg h4).symm hW (lv_sub hl [0, 1] rfl)
  · have hq : S = p_X3_serveTop S := by
      exact (if_pos h1).symm
    exact jrv F hr0 hlk hW dX3_serveTop_7 (congrArg (fun z => fo μ r z) hq)

