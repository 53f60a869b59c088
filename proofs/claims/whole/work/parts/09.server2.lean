/-! class Server: ticks -/
theorem ntk {x : Int32} {b : Nat} (h : Bn x b) (h0 : ¬ x = 0) : 0 < cn x := Nat.pos_of_ne_zero fun e => h0 (by rw [h.1, e]; exact nI_0)

def p_X3_nestTakes (S : Sv) (rk : Int32) : Int32 :=
  if (S 0 7) = 0 then
    (1 : Int32)
  else
    let v4 : Int32 := (if (S 1 3) ≤ (S 0 7) then 0 else (if 8 ≤ (S 0 7) then 0 else 1))
    let v8 : Int32 := (if v4 = 0 then 0 else (if rk < ((S (23 + (cn (S 0 7) - 1)) 1) + (S 1 2)) then 0 else 1))
    (v8 : Int32)

set_option maxHeartbeats 4000000 in
set_option maxRecDepth 100000 in
theorem c_X3_nestTakes (l : Launch) (E : mE) (μ : Mu) (r : Nat) (hr : r < 11) (S : Sv) (rk : Int32) (hd : Bn (S 0 7) 8) : CtI l E yX3_nestTakes cX3_nestTakes 3 (some .boolean) 0 0 [.ref (ea E r 0), .int rk] (fo μ r S) (fun x μ' => x = p_X3_nestTakes S rk ∧ μ' = (fo μ r S)) := by
  refine jMet (by decide +kernel) (Nat.le_of_ble_eq_true rfl) ?_
  intro p e s m below meth c ls F hT hr0 hlk hW hl
  have F : CallFix p m c cX3_nestTakes 3 s _ TB RX3 := F
  have hl : lv_has ls 3 [(0, .ref (ea E r 0)), (1, .int rk)] := hl
  refine lv_aload_n F.1 F.2.1 dX3_nestTakes_0 rfl (lv_at hl 0 rfl) ?_
  refine jget F hT hW fw_X3_67 (oSrv hr) (by decide) (rSrv7 hr) dX3_nestTakes_1 ?_
  refine lv_if_ne (tgt := 9) F.1 F.2.1 dX3_nestTakes_4 (by decide) (fun h1 => ?_) (fun h1 => ?_)
  · refine lv_aload_n F.1 F.2.1 dX3_nestTakes_9 rfl (lv_at hl 0 rfl) ?_
    refine jget F hT hW fw_X3_67 (oSrv hr) (by decide) (rSrv7 hr) dX3_nestTakes_10 ?_
    refine lv_aload_n F.1 F.2.1 dX3_nestTakes_13 rfl (lv_at hl 0 rfl) ?_
    refine jgetR F hT hW fw_X3_18 (oSrv hr) (by decide) (rSrv1 hr) dX3_nestTakes_14 ?_
    refine lv_iconst (v := 3) F.1 F.2.1 dX3_nestTakes_17 (by decide) ?_
    refine jiald F hT hW 3 (oSet hr) (by omega) (by decide) (lI 3) (rSet hr) dX3_nestTakes_18 ?_
    have hJ5 : ∀ (v4 : Int32) (H : Heap) (locs : List Loc) (ls : Array Slot), v4 = (if (S 1 3) ≤ (S 0 7) then 0 else (if 8 ≤ (S 0 7) then 0 else 1)) → Wd E s H locs (fo μ r S) → lv_has ls 3 [(0, .ref (ea E r 0)), (1, .int rk)] → W p l e (rmO 0 0) s m ([.ref (ea E r 0), .int rk] : List Value).toArray below meth c H locs 0 0 (MQ below (va_Qi (fun x μ' => x = p_X3_nestTakes S rk ∧ μ' = (fo μ r S)) (fun μ' t => MB E μ' t.heap) (AA E)) ([.ref (ea E r 0), .int rk] : List Value).toArray s 0 0 (AA E)) (F0 m 36 ls [.int v4]) := by
      intro v4 H locs ls ev4 hW hl
      refine lv_istore_n (lv' := [(2, .int v4), (0, .ref (ea E r 0)), (1, .int rk)]) F.1 F.2.1 dX3_nestTakes_36 rfl hl (by decide) rfl (fun ls hl => ?_)
      refine lv_iload_n F.1 F.2.1 dX3_nestTakes_37 rfl (lv_at hl 0 rfl) ?_
      have hJ9 : ∀ (v8 : Int32) (H : Heap) (locs : List Loc) (ls : Array Slot), v8 = (if v4 = 0 then 0 else (if rk < ((S (23 + (cn (S 0 7) - 1)) 1) + (S 1 2)) then 0 else 1)) → Wd E s H locs (fo μ r S) → lv_has ls 3 [(2, .int v4), (0, .ref (ea E r 0)), (1, .int rk)] → W p l e (rmO 0 0) s m ([.ref (ea E r 0), .int rk] : List Value).toArray below meth c H locs 0 0 (MQ below (va_Qi (fun x μ' => x = p_X3_nestTakes S rk ∧ μ' = (fo μ r S)) (fun μ' t => MB E μ' t.heap) (AA E)) ([.ref (ea E r 0), .int rk] : List Value).toArray s 0 0 (AA E)) (F0 m 71 ls [.int v8]) := by
        intro v8 H locs ls ev8 hW hl
        have hq : (v8 : Int32) = p_X3_nestTakes S rk := by
          subst ev8
          subst ev4
          exact (if_neg h1).symm
        exact jri F hr0 hlk hW (znar (by first | assumption | ((try clear hq); subst_vars; (try dsimp only); repeat' (first | exact Or.inl rfl | exact Or.inr rfl | refine iteZ ?_ ?_)))) dX3_nestTakes_71 ⟨hq, rfl⟩
      refine lv_if_eq (tgt := 70) F.1 F.2.1 dX3_nestTakes_38 (by decide) (fun h6 => ?_) (fun h6 => ?_)
      · refine lv_iconst (v := 0) F.1 F.2.1 dX3_nestTakes_70 (by decide) ?_
        exact hJ9 _ _ _ _ (if_pos h6).symm hW (lv_sub hl [0, 1, 2] rfl)
      · have hd8 : 0 < cn (S 0 7) ∧ cn (S 0 7) ≤ 8 := ⟨ntk hd (by assumption), hd.2⟩
        refine lv_iload_n F.1 F.2.1 dX3_nestTakes_41 rfl (lv_at hl 2 rfl) ?_
        refine lv_aload_n F.1 F.2.1 dX3_nestTakes_42 rfl (lv_at hl 1 rfl) ?_
        refine jgetR F hT hW fw_X3_39 (oSrv hr) (by decide) (rSrv6 hr) dX3_nestTakes_43 ?_
        refine lv_aload_n F.1 F.2.1 dX3_nestTakes_46 rfl (lv_at hl 1 rfl) ?_
        refine jget F hT hW fw_X3_67 (oSrv hr) (by decide) (rSrv7 hr) dX3_nestTakes_47 ?_
        refine lv_iconst (v := 1) F.1 F.2.1 dX3_nestTakes_50 (by decide) ?_
        refine lv_isub F.1 F.2.1 dX3_nestTakes_51 ?_
        refine jaald (t := 5) (C := RX4) F hT hW (cn (S 0 7) - 1) (oNst hr) rfl (by omega) (by decide) (isb hd.1 (lI 1) (by omega)) (rNst hr) dX3_nestTakes_52 ?_
        refine jget F hT hW fw_X3_174 (oSvc hr (by omega)) (by decide) (rSvc hr (by omega)) dX3_nestTakes_53 ?_
        refine lv_aload_n F.1 F.2.1 dX3_nestTakes_56 rfl (lv_at hl 1 rfl) ?_
        refine jgetR F hT hW fw_X3_18 (oSrv hr) (by decide) (rSrv1 hr) dX3_nestTakes_57 ?_
        refine lv_iconst (v := 2) F.1 F.2.1 dX3_nestTakes_60 (by decide) ?_
        refine jiald F hT hW 2 (oSet hr) (by omega) (by decide) (lI 2) (rSet hr) dX3_nestTakes_61 ?_
        refine lv_iadd F.1 F.2.1 dX3_nestTakes_62 ?_
        refine lv_icmp_lt (tgt := 70) F.1 F.2.1 dX3_nestTakes_63 (by decide) (fun h7 => ?_) (fun h7 => ?_)
        · refine lv_iconst (v := 0) F.1 F.2.1 dX3_nestTakes_70 (by decide) ?_
          exact hJ9 _ _ _ _ ((if_neg h6).trans (if_pos h7)).symm hW (lv_sub hl [0, 1, 2] rfl)
        · refine lv_iconst (v := 1) F.1 F.2.1 dX3_nestTakes_66 (by decide) ?_
          refine lv_goto (tgt := 71) F.1 F.2.1 dX3_nestTakes_67 (by decide) ?_
          exact hJ9 _ _ _ _ ((if_neg h6).trans (if_neg h7)).symm hW (lv_sub hl [0, 1, 2] rfl)
    refine lv_icmp_ge (tgt := 35) F.1 F.2.1 dX3_nestTakes_19 (by decide) (fun h2 => ?_) (fun h2 => ?_)
    · refine lv_iconst (v := 0) F.1 F.2.1 dX3_nestTakes_35 (by decide) ?_
      exact hJ5 _ _ _ _ (if_pos h2).symm hW (lv_sub hl [0, 1] rfl)
    · refine lv_aload_n F.1 F.2.1 dX3_nestTakes_22 rfl (lv_at hl 0 rfl) ?_
      refine jget F hT hW fw_X3_67 (oSrv hr) (by decide) (rSrv7 hr) dX3_nestTakes_23 ?_
      refine lv_bipush (v := 8) F.1 F.2.1 dX3_nestTakes_26 (by decide) ?_
      refine lv_icmp_ge (tgt := 35) F.1 F.2.1 dX3_nestTakes_28 (by decide) (fun h3 => ?_) (fun h3 => ?_)
      · refine lv_iconst (v := 0) F.1 F.2.1 dX3_nestTakes_35 (by decide) ?_
        exact hJ5 _ _ _ _ ((if_neg h2).trans (if_pos h3)).symm hW (lv_sub hl [0, 1] rfl)
      · refine lv_iconst (v := 1) F.1 F.2.1 dX3_nestTakes_31 (by decide) ?_
        refine lv_goto (tgt := 36) F.1 F.2.1 dX3_nestTakes_32 (by decide) ?_
        exact hJ5 _ _ _ _ ((if_neg h2).trans (if_neg h3)).symm hW (lv_sub hl [0, 1] rfl)
  · refine lv_iconst (v := 1) F.1 F.2.1 dX3_nestTakes_7 (by decide) ?_
    have hq : (1 : Int32) = p_X3_nestTakes S rk := by
      exact (if_pos h1).symm
    exact jri F hr0 hlk hW (znar (Or.inr rfl)) dX3_nestTakes_8 ⟨hq, rfl⟩

def q_X3_growWaits_2 (S : Sv) (j : Nat) (σ : Sv) : Sv :=
  let S1 : Sv := σ
  let S5 : Sv := (if (S1 (3 + j) 5) = 0 then S1 else (let S4 : Sv := us S1 (3 + j) 6 ((S1 (3 + j) 6) + 1); S4))
  S5
def p_X3_growWaits (S : Sv) : Sv :=
  let S1 : Sv := (itN (q_X3_growWaits_2 S) (cn (S 0 3)) (S))
  S1

theorem gw_keep {S : Sv} : ∀ n p k, ¬ k = 6 → itN (q_X3_growWaits_2 S) n S p k = S p k := by
  intro n
  induction n with
  | zero => intro p k _; rfl
  | succ n ih =>
    intro p k hk
    rw [itN_s]
    unfold q_X3_growWaits_2
    dsimp only
    split
    · exact ih p k hk
    · rw [us_ne _ _ (fun z => hk z.2)]
      exact ih p k hk

set_option maxHeartbeats 4000000 in
set_option maxRecDepth 100000 in
theorem c_X3_growWaits (l : Launch) (E : mE) (μ : Mu) (r : Nat) (hr : r < 11) (S : Sv) (hn : Bn (S 0 3) 12) : CtV l E yX3_growWaits cX3_growWaits 2 0 0 [.ref (ea E r 0)] (fo μ r S) (fun μ' => μ' = fo μ r (p_X3_growWaits S)) := by
  refine jMet (by decide +kernel) (Nat.le_of_ble_eq_true rfl) ?_
  intro p e s m below meth c ls F hT hr0 hlk hW hl
  have F : CallFix p m c cX3_growWaits 2 s _ TB RX3 := F
  have hl : lv_has ls 2 [(0, .ref (ea E r 0))] := hl
  have hn2 := hn.2
  refine lv_iconst (v := 0) F.1 F.2.1 dX3_growWaits_0 (by decide) ?_
  refine lv_istore_n (lv' := [(1, .int 0), (0, .ref (ea E r 0))]) F.1 F.2.1 dX3_growWaits_1 rfl hl (by decide) rfl (fun ls hl => ?_)
  have hL2 : ∀ (fu j : Nat) (S1 : Sv) (H : Heap) (locs : List Loc) (ls : Array Slot), j + fu = cn (S 0 3) → (S1) = itN (q_X3_growWaits_2 S) j (S) → Wd E s H locs (fo μ r S1) → lv_has ls 2 [(1, .int (nI j)), (0, .ref (ea E r 0))] → W p l e (rmO 0 0) s m ([.ref (ea E r 0)] : List Value).toArray below meth c H locs 0 0 (MQ below (va_Qv (fun μ' => μ' = fo μ r (p_X3_growWaits S)) (fun μ' t => MB E μ' t.heap) (AA E)) ([.ref (ea E r 0)] : List Value).toArray s 0 0 (AA E)) (F0 m 2 ls []) := by
    intro fu
    induction fu with
    | zero =>
      intro j S1 H locs ls hj hs  hW hl
      obtain rfl : j = cn (S 0 3) := by omega
      have eS1 := hs
      have hk := gw_keep (S := S) (cn (S 0 3)) 0 3 (by decide)
      rw [← hs] at hk
      refine lv_iload_n F.1 F.2.1 dX3_growWaits_2 rfl (lv_at hl 0 rfl) ?_
      refine lv_aload_n F.1 F.2.1 dX3_growWaits_3 rfl (lv_at hl 1 rfl) ?_
      refine jget F hT hW fw_X3_54 (oSrv hr) (by decide) (rSrv3 hr) dX3_growWaits_4 ?_
      refine lv_icmp_ge (tgt := 43) F.1 F.2.1 dX3_growWaits_7 (by decide) (fun h3 => ?_) (fun h3 => ?_)
      · have hq : S1 = p_X3_growWaits S := by
          subst eS1
          exact (rfl).symm
        exact jrv F hr0 hlk hW dX3_growWaits_43 (congrArg (fun z => fo μ r z) hq)
      · exact absurd (c_le (hk.trans hn.1) rfl (by omega) (by omega)) h3
    | succ fu ih =>
      intro j S1 H locs ls hj hs  hW hl
      have hk := gw_keep (S := S) j 0 3 (by decide)
      rw [← hs] at hk
      refine lv_iload_n F.1 F.2.1 dX3_growWaits_2 rfl (lv_at hl 0 rfl) ?_
      refine lv_aload_n F.1 F.2.1 dX3_growWaits_3 rfl (lv_at hl 1 rfl) ?_
      refine jget F hT hW fw_X3_54 (oSrv hr) (by decide) (rSrv3 hr) dX3_growWaits_4 ?_
      refine lv_icmp_ge (tgt := 43) F.1 F.2.1 dX3_growWaits_7 (by decide) (fun h2 => ?_) (fun h2 => ?_)
      · exact absurd h2 (c_nle (hk.trans hn.1) rfl (by omega) (by omega))
      · refine lv_aload_n F.1 F.2.1 dX3_growWaits_10 rfl (lv_at hl 1 rfl) ?_
        refine jgetR F hT hW fw_X3_25 (oSrv hr) (by decide) (rSrv2 hr) dX3_growWaits_11 ?_
        refine lv_iload_n F.1 F.2.1 dX3_growWaits_14 rfl (lv_at hl 0 rfl) ?_
        refine jaald (t := 3) (C := RX1) F hT hW j (oLns hr) rfl (by omega) (by decide) rfl (rLns hr) dX3_growWaits_15 ?_
        refine jget F hT hW fw_X3_192 (oLin hr (by omega)) (by decide) (rLin hr (by omega)) dX3_growWaits_16 ?_
        have hJ6 : ∀ (S5 : Sv) (H : Heap) (locs : List Loc) (ls : Array Slot), S5 = (if (S1 (3 + j) 5) = 0 then S1 else (let S4 : Sv := us S1 (3 + j) 6 ((S1 (3 + j) 6) + 1); S4)) → Wd E s H locs (fo μ r S5) → lv_has ls 2 [(1, .int (nI j)), (0, .ref (ea E r 0))] → W p l e (rmO 0 0) s m ([.ref (ea E r 0)] : List Value).toArray below meth c H locs 0 0 (MQ below (va_Qv (fun μ' => μ' = fo μ r (p_X3_growWaits S)) (fun μ' t => MB E μ' t.heap) (AA E)) ([.ref (ea E r 0)] : List Value).toArray s 0 0 (AA E)) (F0 m 37 ls []) := by
          intro S5 H locs ls eS5 hW hl
          refine lv_iinc (v := nI (j + 1)) (lv' := [(1, .int (nI (j + 1))), (0, .ref (ea E r 0))]) F.1 F.2.1 dX3_growWaits_37 hl (k := 0) rfl (ia rfl rfl) (by decide) rfl (fun ls hl => ?_)
          refine lv_goto (tgt := 2) F.1 F.2.1 dX3_growWaits_40 (by decide) ?_
          subst eS5
          exact ih (j + 1) _ _ _ _ (by omega) (by rw [itN_s, ← hs]; exact (rfl).symm) hW (lv_sub hl [0, 1] rfl)
        refine lv_if_eq (tgt := 37) F.1 F.2.1 dX3_growWaits_19 (by decide) (fun h3 => ?_) (fun h3 => ?_)
        · exact hJ6 _ _ _ _ (if_pos h3).symm hW (lv_sub hl [0, 1] rfl)
        · refine lv_aload_n F.1 F.2.1 dX3_growWaits_22 rfl (lv_at hl 1 rfl) ?_
          refine jgetR F hT hW fw_X3_25 (oSrv hr) (by decide) (rSrv2 hr) dX3_growWaits_23 ?_
          refine lv_iload_n F.1 F.2.1 dX3_growWaits_26 rfl (lv_at hl 0 rfl) ?_
          refine jaald (t := 3) (C := RX1) F hT hW j (oLns hr) rfl (by omega) (by decide) rfl (rLns hr) dX3_growWaits_27 ?_
          refine lv_dup F.1 F.2.1 dX3_growWaits_28 rfl ?_
          refine jget F hT hW fw_X3_164 (oLin hr (by omega)) (by decide) (rLin hr (by omega)) dX3_growWaits_29 ?_
          refine lv_iconst (v := 1) F.1 F.2.1 dX3_growWaits_32 (by decide) ?_
          refine lv_iadd F.1 F.2.1 dX3_growWaits_33 ?_
          refine jput F hT hW fw_X3_164 ft_1_6 (oLin hr (by omega)) (by decide) (rn12 hr) (rLin hr (by omega)) rfl rfl dX3_growWaits_34 (fun S4 H locs eS4 hW => ?_)
          subst eS4
          exact hJ6 _ _ _ _ (if_neg h3).symm hW (lv_sub hl [0, 1] rfl)
  exact hL2 (cn (S 0 3)) 0 S _ _ _ (by omega) rfl hW (lv_sub hl [0, 1] rfl)

def q_X3_raiseByTimers_2 (S : Sv) (j : Nat) (σ : Sv) : Sv :=
  let S1 : Sv := σ
  let S10 : Sv := (if (S1 0 0) < (S1 (16 + j) 2) then S1 else (let v5 : Int32 := (if (S1 1 5) = 1 then 1 else 0); (let x7 : Int32 := (p_X1_takeEdge S1 (cn (S (16 + j) 0)) v5).1; (let S8 : Sv := (p_X1_takeEdge S1 (cn (S (16 + j) 0)) v5).2; (let S9 : Sv := us S8 (16 + j) 2 ((S8 (16 + j) 2) + (S8 (16 + j) 1)); S9)))))
  S10
def p_X3_raiseByTimers (S : Sv) : Sv :=
  let S1 : Sv := (itN (q_X3_raiseByTimers_2 S) (cn (S 0 5)) (S))
  S1

theorem rt_keep {S : Sv} {t : Nat} (ht : t ≤ 6) (hq : ∀ q, q < t → Bn (S (16 + q) 0) 11) : ∀ n, n ≤ t → ∀ p k, (p < 3 ∨ 15 ≤ p) → ¬ (16 ≤ p ∧ p < 22 ∧ k = 2) → itN (q_X3_raiseByTimers_2 S) n S p k = S p k := by
  intro n
  induction n with
  | zero => intro _ p k _ _; rfl
  | succ n ih =>
    intro hn p k hp hk
    rw [itN_s]
    have h0 := ih (by omega) p k hp hk
    have hb := (hq n (by omega)).2
    unfold q_X3_raiseByTimers_2
    dsimp only
    split
    · exact h0
    · rw [us_ne _ _ (by omega), fr_takeEdge (by omega)]
      exact h0

set_option maxHeartbeats 4000000 in
set_option maxRecDepth 100000 in
theorem c_X3_raiseByTimers (l : Launch) (E : mE) (μ : Mu) (r : Nat) (hr : r < 11) (S : Sv) (hn : Bn (S 0 3) 12) (ht : Bn (S 0 5) 6) (hq6 : ∀ q, q < cn (S 0 5) → Bn (S (16 + q) 0) 11) : CtV l E yX3_raiseByTimers cX3_raiseByTimers 3 1 21 [.ref (ea E r 0)] (fo μ r S) (fun μ' => μ' = fo μ r (p_X3_raiseByTimers S)) := by
  refine jMet (by decide +kernel) (Nat.le_of_ble_eq_true rfl) ?_
  intro p e s m below meth c ls F hT hr0 hlk hW hl
  have F : CallFix p m c cX3_raiseByTimers 3 s _ TB RX3 := F
  have hl : lv_has ls 3 [(0, .ref (ea E r 0))] := hl
  have hn2 := hn.2
  have ht2 := ht.2
  refine lv_iconst (v := 0) F.1 F.2.1 dX3_raiseByTimers_0 (by decide) ?_
  refine lv_istore_n (lv' := [(1, .int 0), (0, .ref (ea E r 0))]) F.1 F.2.1 dX3_raiseByTimers_1 rfl hl (by decide) rfl (fun ls hl => ?_)
  have hL2 : ∀ (fu j : Nat) (S1 : Sv) (H : Heap) (locs : List Loc) (ls : Array Slot), j + fu = cn (S 0 5) → (S1) = itN (q_X3_raiseByTimers_2 S) j (S) → Wd E s H locs (fo μ r S1) → lv_has ls 3 [(1, .int (nI j)), (0, .ref (ea E r 0))] → W p l e (rmO 1 21) s m ([.ref (ea E r 0)] : List Value).toArray below meth c H locs 0 0 (MQ below (va_Qv (fun μ' => μ' = fo μ r (p_X3_raiseByTimers S)) (fun μ' t => MB E μ' t.heap) (AA E)) ([.ref (ea E r 0)] : List Value).toArray s 0 0 (AA E)) (F0 m 2 ls []) := by
    intro fu
    induction fu with
    | zero =>
      intro j S1 H locs ls hj hs  hW hl
      obtain rfl : j = cn (S 0 5) := by omega
      have eS1 := hs
      have hk5 := rt_keep ht.2 hq6 (cn (S 0 5)) (Nat.le_refl _) 0 5 (by omega) (by omega)
      rw [← hs] at hk5
      refine lv_iload_n F.1 F.2.1 dX3_raiseByTimers_2 rfl (lv_at hl 0 rfl) ?_
      refine lv_aload_n F.1 F.2.1 dX3_raiseByTimers_3 rfl (lv_at hl 1 rfl) ?_
      refine jget F hT hW fw_X3_61 (oSrv hr) (by decide) (rSrv5 hr) dX3_raiseByTimers_4 ?_
      refine lv_icmp_ge (tgt := 75) F.1 F.2.1 dX3_raiseByTimers_7 (by decide) (fun h3 => ?_) (fun h3 => ?_)
      · have hq : S1 = p_X3_raiseByTimers S := by
          subst eS1
          exact (rfl).symm
        exact jrv F hr0 hlk hW dX3_raiseByTimers_75 (congrArg (fun z => fo μ r z) hq)
      · exact absurd (c_le (hk5.trans ht.1) rfl (by omega) (by omega)) h3
    | succ fu ih =>
      intro j S1 H locs ls hj hs  hW hl
      have hk5 := rt_keep ht.2 hq6 j (by omega) 0 5 (by omega) (by omega)
      rw [← hs] at hk5
      have hkj := rt_keep ht.2 hq6 j (by omega) (16 + j) 0 (by omega) (by omega)
      rw [← hs] at hkj
      have hl6 := (hq6 j (by omega)).2
      refine lv_iload_n F.1 F.2.1 dX3_raiseByTimers_2 rfl (lv_at hl 0 rfl) ?_
      refine lv_aload_n F.1 F.2.1 dX3_raiseByTimers_3 rfl (lv_at hl 1 rfl) ?_
      refine jget F hT hW fw_X3_61 (oSrv hr) (by decide) (rSrv5 hr) dX3_raiseByTimers_4 ?_
      refine lv_icmp_ge (tgt := 75) F.1 F.2.1 dX3_raiseByTimers_7 (by decide) (fun h2 => ?_) (fun h2 => ?_)
      · exact absurd h2 (c_nle (hk5.trans ht.1) rfl (by omega) (by omega))
      · refine lv_aload_n F.1 F.2.1 dX3_raiseByTimers_10 rfl (lv_at hl 1 rfl) ?_
        refine jgetR F hT hW fw_X3_32 (oSrv hr) (by decide) (rSrv4 hr) dX3_raiseByTimers_11 ?_
        refine lv_iload_n F.1 F.2.1 dX3_raiseByTimers_14 rfl (lv_at hl 0 rfl) ?_
        refine jaald (t := 4) (C := RX5) F hT hW j (oTms hr) rfl (by omega) (by decide) rfl (rTms hr) dX3_raiseByTimers_15 ?_
        refine lv_astore_n (lv' := [(2, .ref (ea E r (16 + j))), (1, .int (nI j)), (0, .ref (ea E r 0))]) F.1 F.2.1 dX3_raiseByTimers_16 rfl hl (by decide) rfl (fun ls hl => ?_)
        refine lv_aload_n F.1 F.2.1 dX3_raiseByTimers_17 rfl (lv_at hl 0 rfl) ?_
        refine jget F hT hW fw_X3_120 (oTim hr (by omega)) (by decide) (rTim hr (by omega)) dX3_raiseByTimers_18 ?_
        refine lv_aload_n F.1 F.2.1 dX3_raiseByTimers_21 rfl (lv_at hl 2 rfl) ?_
        refine jget F hT hW fw_X3_44 (oSrv hr) (by decide) (rSrv0 hr) dX3_raiseByTimers_22 ?_
        have hJ11 : ∀ (S10 : Sv) (H : Heap) (locs : List Loc) (ls : Array Slot), S10 = (if (S1 0 0) < (S1 (16 + j) 2) then S1 else (let v5 : Int32 := (if (S1 1 5) = 1 then 1 else 0); (let x7 : Int32 := (p_X1_takeEdge S1 (cn (S (16 + j) 0)) v5).1; (let S8 : Sv := (p_X1_takeEdge S1 (cn (S (16 + j) 0)) v5).2; (let S9 : Sv := us S8 (16 + j) 2 ((S8 (16 + j) 2) + (S8 (16 + j) 1)); S9))))) → Wd E s H locs (fo μ r S10) → lv_has ls 3 [(2, .ref (ea E r (16 + j))), (1, .int (nI j)), (0, .ref (ea E r 0))] → W p l e (rmO 1 21) s m ([.ref (ea E r 0)] : List Value).toArray below meth c H locs 0 0 (MQ below (va_Qv (fun μ' => μ' = fo μ r (p_X3_raiseByTimers S)) (fun μ' t => MB E μ' t.heap) (AA E)) ([.ref (ea E r 0)] : List Value).toArray s 0 0 (AA E)) (F0 m 69 ls []) := by
          intro S10 H locs ls eS10 hW hl
          refine lv_iinc (v := nI (j + 1)) (lv' := [(1, .int (nI (j + 1))), (2, .ref (ea E r (16 + j))), (0, .ref (ea E r 0))]) F.1 F.2.1 dX3_raiseByTimers_69 hl (k := 1) rfl (ia rfl rfl) (by decide) rfl (fun ls hl => ?_)
          refine lv_goto (tgt := 2) F.1 F.2.1 dX3_raiseByTimers_72 (by decide) ?_
          subst eS10
          exact ih (j + 1) _ _ _ _ (by omega) (by rw [itN_s, ← hs]; exact (rfl).symm) hW (lv_sub hl [0, 2] rfl)
        refine lv_icmp_gt (tgt := 69) F.1 F.2.1 dX3_raiseByTimers_25 (by decide) (fun h3 => ?_) (fun h3 => ?_)
        · exact hJ11 _ _ _ _ (if_pos h3).symm hW (lv_sub hl [0, 1, 2] rfl)
        · refine lv_aload_n F.1 F.2.1 dX3_raiseByTimers_28 rfl (lv_at hl 2 rfl) ?_
          refine jgetR F hT hW fw_X3_25 (oSrv hr) (by decide) (rSrv2 hr) dX3_raiseByTimers_29 ?_
          refine lv_aload_n F.1 F.2.1 dX3_raiseByTimers_32 rfl (lv_at hl 0 rfl) ?_
          refine jget F hT hW fw_X3_114 (oTim hr (by omega)) (by decide) (rTim hr (by omega)) dX3_raiseByTimers_33 ?_
          refine jaald (t := 3) (C := RX1) F hT hW (cn (S (16 + j) 0)) (oLns hr) rfl (by omega) (by decide) (hkj.trans (hq6 j (by omega)).1) (rLns hr) dX3_raiseByTimers_36 ?_
          refine lv_aload_n F.1 F.2.1 dX3_raiseByTimers_37 rfl (lv_at hl 2 rfl) ?_
          refine jgetR F hT hW fw_X3_18 (oSrv hr) (by decide) (rSrv1 hr) dX3_raiseByTimers_38 ?_
          refine lv_iconst (v := 5) F.1 F.2.1 dX3_raiseByTimers_41 (by decide) ?_
          refine jiald F hT hW 5 (oSet hr) (by omega) (by decide) (lI 5) (rSet hr) dX3_raiseByTimers_42 ?_
          refine lv_iconst (v := 1) F.1 F.2.1 dX3_raiseByTimers_43 (by decide) ?_
          have hJ6 : ∀ (v5 : Int32) (H : Heap) (locs : List Loc) (ls : Array Slot), v5 = (if (S1 1 5) = 1 then 1 else 0) → Wd E s H locs (fo μ r S1) → lv_has ls 3 [(2, .ref (ea E r (16 + j))), (1, .int (nI j)), (0, .ref (ea E r 0))] → W p l e (rmO 1 21) s m ([.ref (ea E r 0)] : List Value).toArray below meth c H locs 0 0 (MQ below (va_Qv (fun μ' => μ' = fo μ r (p_X3_raiseByTimers S)) (fun μ' t => MB E μ' t.heap) (AA E)) ([.ref (ea E r 0)] : List Value).toArray s 0 0 (AA E)) (F0 m 52 ls [.int v5, .ref (ea E r (3 + (cn (S (16 + j) 0))))]) := by
            intro v5 H locs ls ev5 hW hl
            refine jcif (jrunV (As := [.int v5]) (rest := []) F hT hW yc_X1_takeEdge yv_X1_takeEdge ml_X3_126 (oLin hr (by omega)) (by decide) rfl (c_X1_takeEdge l E μ r hr S1 (cn (S (16 + j) 0)) v5 (by first | assumption | omega)) rfl hl.1 ⟨Nat.le_of_ble_eq_true rfl, Nat.le_of_ble_eq_true rfl⟩ rfl (Nat.le_of_ble_eq_true rfl) ⟨Nat.le_refl _, Nat.le_refl _⟩ dX3_raiseByTimers_52) hW (fun x7 S8 H locs ex7 eS8 hW => ?_)
            refine lv_pop F.1 F.2.1 dX3_raiseByTimers_55 rfl ?_
            refine lv_aload_n F.1 F.2.1 dX3_raiseByTimers_56 rfl (lv_at hl 0 rfl) ?_
            refine lv_dup F.1 F.2.1 dX3_raiseByTimers_57 rfl ?_
            refine jget F hT hW fw_X3_120 (oTim hr (by omega)) (by decide) (rTim hr (by omega)) dX3_raiseByTimers_58 ?_
            refine lv_aload_n F.1 F.2.1 dX3_raiseByTimers_61 rfl (lv_at hl 0 rfl) ?_
            refine jget F hT hW fw_X3_117 (oTim hr (by omega)) (by decide) (rTim hr (by omega)) dX3_raiseByTimers_62 ?_
            refine lv_iadd F.1 F.2.1 dX3_raiseByTimers_65 ?_
            refine jput F hT hW fw_X3_120 ft_5_2 (oTim hr (by omega)) (by decide) (rn12 hr) (rTim hr (by omega)) rfl rfl dX3_raiseByTimers_66 (fun S9 H locs eS9 hW => ?_)
            subst eS9
            subst eS8
            subst ex7
            subst ev5
            exact hJ11 _ _ _ _ (if_neg h3).symm hW (lv_sub hl [0, 1, 2] rfl)
          refine lv_icmp_ne (tgt := 51) F.1 F.2.1 dX3_raiseByTimers_44 (by decide) (fun h4 => ?_) (fun h4 => ?_)
          · refine lv_iconst (v := 0) F.1 F.2.1 dX3_raiseByTimers_51 (by decide) ?_
            exact hJ6 _ _ _ _ (if_neg h4).symm hW (lv_sub hl [0, 1, 2] rfl)
          · refine lv_iconst (v := 1) F.1 F.2.1 dX3_raiseByTimers_47 (by decide) ?_
            refine lv_goto (tgt := 52) F.1 F.2.1 dX3_raiseByTimers_48 (by decide) ?_
            exact hJ6 _ _ _ _ (if_pos h4).symm hW (lv_sub hl [0, 1, 2] rfl)
  exact hL2 (cn (S 0 5)) 0 S _ _ _ (by omega) rfl hW (lv_sub hl [0, 1] rfl)

