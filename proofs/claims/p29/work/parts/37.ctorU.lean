/-! class Pad's constructor, class History's -/
theorem c_X2_init (l : Launch) (E : mE) (V : Vs) (L : Nat → Nat → Prop) (n : Nat) (hL0 : L 11 5) (hA : ea E 11 6 = n) :
    CtB l E yX2_init cX2_init 1 1 12 1 80 [.ref (ea E 11 5)] V L n (vs (vs V 11 6 (fun _ => .int 0)) 11 5 (updV (V 11 5) 0 (.ref (ea E 11 6)))) (fun r' q' => L r' q' ∨ (r' = 11 ∧ q' = 6)) (n + 1) := by
  refine bMet (by decide +kernel) (Nat.le_of_ble_eq_true rfl) ?_
  intro p e s m below meth c ls F hT hr0 hlk hnm hB hl
  have F : CallFix p m c cX2_init 1 s _ TB RX2 := F
  have hl : lv_has ls 1 [(0, .ref (ea E 11 5))] := hl
  refine lv_aload_n F.1 F.2.1 dX2_init_0 rfl (lv_at hl 0 rfl) ?_
  refine bobj F hl.1 co_X2 (Nat.le_of_ble_eq_true rfl) (Nat.le_of_ble_eq_true rfl) dX2_init_1 ?_
  refine lv_aload_n F.1 F.2.1 dX2_init_4 rfl (lv_at hl 0 rfl) ?_
  refine lv_bipush (v := 80) F.1 F.2.1 dX2_init_5 (by decide) ?_
  refine bnewi (r := 11) (q := 6) (t := 2) (N := 80) F hT hB rfl (fun C h => by cases h) ca_char rfl (by decide) (by decide) hA oH6.1 (oH6 (E := E)).2 (by show 0 + 1 ≤ 1; decide) (by show 0 + 80 ≤ 80; decide) dX2_init_7 (fun H hB => ?_)
  refine bputF (ty := tyX2 0) F hT hB (rfl : kcl[2]? = some (RX2, TX2, 2)) tyX2_ok nmX2 fw_X2_9 rfl hnm rfl rfl rfl rfl (Or.inl hL0) (by omega) (oH5 (E := E)).2 (by decide) dX2_init_9 (fun H locs hB => ?_)
  exact brv F hr0 hlk hB dX2_init_12 (fun _ _ h => ⟨h, rfl⟩) rfl rfl rfl
/-- a server's object as it is born -/
def dS : Nat → Value := fun k => defaultValue (tyX3 k)
def HSt (V : Vs) (E : mE) (d : Nat → Value) (j : Nat) : Vs := fun r' q' => if 4 ≤ r' ∧ r' < 4 + j then SVf E r' (d3 E r' dS) 12 6 8 q' else if r' = 11 ∧ q' = 3 then d else if r' = 11 ∧ q' = 4 then (fun k => if k < j then .ref (ea E (4 + k) 0) else .null) else V r' q'
def LHt (L : Nat → Nat → Prop) (j : Nat) : Nat → Nat → Prop := fun r' q' => L r' q' ∨ (r' = 11 ∧ q' = 4) ∨ (4 ≤ r' ∧ r' < 4 + j ∧ q' < 31)
theorem enH {V : Vs} {E : mE} {L : Nat → Nat → Prop} : ∀ r' q', LHt L 0 r' q' → (L r' q' ∨ (r' = 11 ∧ q' = 4)) ∧ HSt V E (updV (V 11 3) 0 (.ref (ea E 11 4))) 0 r' q' = vs (vs V 11 4 (fun _ => .null)) 11 3 (updV ((vs V 11 4 (fun _ => .null)) 11 3) 0 (.ref (ea E 11 4))) r' q' := by
  intro r' q' h
  refine ⟨?_, ?_⟩
  · rcases h with h | h | ⟨h1, h2, h3⟩
    · exact Or.inl h
    · exact Or.inr h
    · omega
  · unfold HSt
    rw [if_neg (by omega)]
    by_cases h3 : r' = 11 ∧ q' = 3
    · obtain ⟨rfl, rfl⟩ := h3
      simp [vs]
    · rw [if_neg h3, vs_ne _ _ h3]
      by_cases h4 : r' = 11 ∧ q' = 4
      · obtain ⟨rfl, rfl⟩ := h4
        simp [vs]
      · rw [if_neg h4, vs_ne _ _ h4]
theorem HSt_114 {V : Vs} {E : mE} {d : Nat → Value} {j : Nat} (hj : j ≤ 7) : HSt V E d j 11 4 = fun k => if k < j then .ref (ea E (4 + k) 0) else .null := by
  unfold HSt
  rw [if_neg (by omega), if_neg (by omega), if_pos ⟨rfl, rfl⟩]
theorem HSt_113 {V : Vs} {E : mE} {d : Nat → Value} {j : Nat} (hj : j ≤ 7) : HSt V E d j 11 3 = d := by
  unfold HSt
  rw [if_neg (by omega), if_pos ⟨rfl, rfl⟩]
theorem stH {V : Vs} {E : mE} {d : Nat → Value} {L : Nat → Nat → Prop} {j : Nat} (hj : j < 7) : ∀ r' q', LHt L (j + 1) r' q' → LSr (fun r' q' => LHt L j r' q' ∨ (r' = 4 + j ∧ q' = 0)) (4 + j) 31 r' q' ∧ HSt V E d (j + 1) r' q' = vs (VSr (vs (HSt V E d j) (4 + j) 0 dS) E (4 + j) (d3 E (4 + j) dS) 12 6 8) 11 4 (updV (VSr (vs (HSt V E d j) (4 + j) 0 dS) E (4 + j) (d3 E (4 + j) dS) 12 6 8 11 4) j (.ref (ea E (4 + j) 0))) r' q' := by
  intro r' q' h
  refine ⟨?_, ?_⟩
  · rcases h with h | h | ⟨h1, h2, h3⟩
    · exact Or.inl (Or.inl (Or.inl h))
    · exact Or.inl (Or.inl (Or.inr (Or.inl h)))
    · by_cases hr : r' = 4 + j
      · by_cases hq : q' = 0
        · exact Or.inl (Or.inr ⟨hr, hq⟩)
        · exact Or.inr ⟨hr, by omega, h3⟩
      · exact Or.inl (Or.inl (Or.inr (Or.inr ⟨h1, by omega, h3⟩)))
  · by_cases h4 : r' = 11 ∧ q' = 4
    · obtain ⟨rfl, rfl⟩ := h4
      rw [vs_at]
      have e11 : ¬ 11 = 4 + j := by omega
      rw [HSt_114 (by omega)]
      funext k
      by_cases hk : k = j
      · subst hk
        rw [updV_at, if_pos (by omega)]
      · simp only [updV, if_neg hk, VSr, if_neg e11]
        rw [vs_ne _ _ (by omega), HSt_114 (by omega)]
        by_cases hkj : k < j
        · rw [if_pos (by omega)]
          exact (if_pos hkj).symm
        · rw [if_neg (by omega)]
          exact (if_neg hkj).symm
    · rw [vs_ne _ _ h4]
      unfold VSr
      by_cases hr : r' = 4 + j
      · subst hr
        rw [if_pos rfl]
        unfold HSt
        rw [if_pos (by omega)]
      · rw [if_neg hr, vs_ne _ _ (by omega)]
        unfold HSt
        by_cases hin : 4 ≤ r' ∧ r' < 4 + j
        · rw [if_pos hin, if_pos (by omega)]
        · rw [if_neg hin, if_neg (by omega), if_neg h4]
          rw [if_neg h4]
set_option maxHeartbeats 4000000 in
set_option maxRecDepth 100000 in
theorem c_X0_init (l : Launch) (E : mE) (V : Vs) (L : Nat → Nat → Prop) (n : Nat) (hL0 : L 11 3) (hLr : ∀ r q, 4 ≤ r → r < 11 → ¬ L r q) (hF : L 12 0) (hFv : V 12 0 = fun j => .int (vFst j)) (hA4 : ea E 11 4 = n) (hA : ∀ j q, j < 7 → q < 31 → ea E (4 + j) q = n + 1 + 31 * j + q) :
    CtB l E yX0_init cX0_init 2 3 90 218 2009 [.ref (ea E 11 3)] V L n (HSt V E (updV (V 11 3) 0 (.ref (ea E 11 4))) 7) (LHt L 7) (n + 218) := by
  refine bMet (by decide +kernel) (Nat.le_of_ble_eq_true rfl) ?_
  intro p e s m below meth c ls F hT hr0 hlk hnm hB hl
  have F : CallFix p m c cX0_init 2 s _ TB RX0 := F
  have hl : lv_has ls 2 [(0, .ref (ea E 11 3))] := hl
  refine lv_aload_n F.1 F.2.1 dX0_init_0 rfl (lv_at hl 0 rfl) ?_
  refine bobj F hl.1 co_X0 (Nat.le_of_ble_eq_true rfl) (Nat.le_of_ble_eq_true rfl) dX0_init_1 ?_
  have hL1 : ∀ (fu j : Nat) (H : Heap) (locs : List Loc) (ls : Array Slot), j + fu = 7 → BW E s H locs (HSt V E (updV (V 11 3) 0 (.ref (ea E 11 4))) j) (LHt L j) (n + 1 + 31 * j) → lv_has ls 2 [(1, .int (nI j)), (0, .ref (ea E 11 3))] → W p l e (rmC 3 90 218 2009) s m ([.ref (ea E 11 3)] : List Value).toArray below meth c H locs (1 + 31 * j) (7 + 286 * j) (MQ below (Qb E (HSt V E (updV (V 11 3) 0 (.ref (ea E 11 4))) 7) (LHt L 7) (n + 218)) ([.ref (ea E 11 3)] : List Value).toArray s 218 2009 (AA E)) (F0 m 15 ls []) := by
    intro fu
    induction fu with
    | zero =>
      intro j H locs ls hj hB hl
      obtain rfl : j = 7 := by omega
      refine lv_iload_n F.1 F.2.1 dX0_init_15 rfl (lv_at hl 0 rfl) ?_
      refine lv_aload_n F.1 F.2.1 dX0_init_16 rfl (lv_at hl 1 rfl) ?_
      refine bgetR (r' := 11) (q' := 4) F hT hB fw_X0_11 (Or.inl hL0) (oH3 (E := E)).2 (by decide) (by rw [HSt_113 (by omega)]; exact updV_at _ _ _) dX0_init_17 ?_
      refine balen (t := 6) (N := 7) (x := 7) F hT hB (Or.inr (Or.inl ⟨rfl, rfl⟩)) (oH4 (E := E)).2 rfl (by decide) dX0_init_20 ?_
      refine lv_icmp_ge (tgt := 43) F.1 F.2.1 dX0_init_21 (by decide) (fun h5 => ?_) (fun h5 => absurd (c_le (lI 7) rfl (by decide) (by decide)) h5)
      exact brv F hr0 hlk hB dX0_init_43 (fun _ _ h => ⟨h, rfl⟩) (by omega) rfl rfl
    | succ fu ih =>
      intro j H locs ls hj hB hl
      refine lv_iload_n F.1 F.2.1 dX0_init_15 rfl (lv_at hl 0 rfl) ?_
      refine lv_aload_n F.1 F.2.1 dX0_init_16 rfl (lv_at hl 1 rfl) ?_
      refine bgetR (r' := 11) (q' := 4) F hT hB fw_X0_11 (Or.inl hL0) (oH3 (E := E)).2 (by decide) (by rw [HSt_113 (by omega)]; exact updV_at _ _ _) dX0_init_17 ?_
      refine balen (t := 6) (N := 7) (x := 7) F hT hB (Or.inr (Or.inl ⟨rfl, rfl⟩)) (oH4 (E := E)).2 rfl (by decide) dX0_init_20 ?_
      refine lv_icmp_ge (tgt := 43) F.1 F.2.1 dX0_init_21 (by decide) (fun h5 => absurd h5 (c_nle (lI 7) rfl (by omega) (by omega))) (fun h5 => ?_)
      refine lv_aload_n F.1 F.2.1 dX0_init_24 rfl (lv_at hl 1 rfl) ?_
      refine bgetR (r' := 11) (q' := 4) F hT hB fw_X0_11 (Or.inl hL0) (oH3 (E := E)).2 (by decide) (by rw [HSt_113 (by omega)]; exact updV_at _ _ _) dX0_init_25 ?_
      refine lv_iload_n F.1 F.2.1 dX0_init_28 rfl (lv_at hl 0 rfl) ?_
      refine bnew (r := 4 + j) (q := 0) F hT hB (rfl : kcl[3]? = some (RX3, TX3, 11)) tyX3_ok ls_3 cl_X0_9 ci_X3 cz_X3 (by rw [hA j 0 (by omega) (by decide)]; rfl) (oSrv (by omega)).1 (oSrv (E := E) (by omega)).2 (by decide) (by show 1 + 31 * j + 1 ≤ 218; omega) (by show 7 + 286 * j + 11 ≤ 2009; omega) dX0_init_29 (fun H hB => ?_)
      refine lv_dup F.1 F.2.1 dX0_init_32 rfl ?_
      refine bcv (brunI F hT hB yc_X3_init rfl yi_X3_init ml_X0_17 (c_X3_init l E _ _ _ (4 + j) (by omega) (Or.inr ⟨rfl, rfl⟩) (fun q hq => ?_) (Or.inl (Or.inl hF)) ?_ (fun q h1 h2 => ?_)) hl.1 ⟨Nat.le_of_ble_eq_true rfl, Nat.le_of_ble_eq_true rfl⟩ (Nat.le_of_ble_eq_true rfl) ⟨by show 1 + 31 * j + 1 + 30 ≤ 218; omega, by show 7 + 286 * j + 11 + 275 ≤ 2009; omega⟩ dX0_init_33) hB (fun H locs hB => ?_)
      · rcases hq with (hq | ⟨h1, h2⟩ | ⟨h1, h2, h3⟩) | ⟨h1, h2⟩
        · exact absurd hq (hLr _ _ (by omega) (by omega))
        · omega
        · omega
        · exact h2
      · rw [vs_ne _ _ (by omega)]
        unfold HSt
        rw [if_neg (by omega), if_neg (by omega), if_neg (by omega)]
        exact hFv
      · rw [hA j q (by omega) h2]
        omega
      rw [vs_at] at hB
      refine bastq (t := 6) (N := 7) F hT hB rfl (rfl : kcl[3]? = some (RX3, TX3, 11)) (Or.inl (Or.inl (Or.inr (Or.inl ⟨rfl, rfl⟩)))) (by decide) (oH4 (E := E)).2 (Or.inl (Or.inr ⟨rfl, rfl⟩)) (oSrv (E := E) (by omega)).2 (by decide) (by omega : j < 7) (by decide) rfl dX0_init_36 (fun H locs hB => ?_)
      refine lv_iinc (v := nI (j + 1)) (lv' := [(1, .int (nI (j + 1))), (0, .ref (ea E 11 3))]) F.1 F.2.1 dX0_init_37 hl (k := 0) rfl (ia rfl rfl) (by decide) rfl (fun ls hl => ?_)
      refine lv_goto (tgt := 15) F.1 F.2.1 dX0_init_40 (by decide) ?_
      have hB2 : BW E s H locs (HSt V E (updV (V 11 3) 0 (.ref (ea E 11 4))) (j + 1)) (LHt L (j + 1)) (n + 1 + 31 * (j + 1)) := ⟨hB.1.to (stH (by omega)), hB.2.1, by rw [hB.2.2]; omega⟩
      have hk := ih (j + 1) H locs ls (by omega) hB2 hl
      rw [show 1 + 31 * (j + 1) = 1 + 31 * j + 1 + 30 by omega, show 7 + 286 * (j + 1) = 7 + 286 * j + 11 + 275 by omega] at hk
      exact hk
  refine lv_aload_n F.1 F.2.1 dX0_init_4 rfl (lv_at hl 0 rfl) ?_
  refine lv_bipush (v := 7) F.1 F.2.1 dX0_init_5 (by decide) ?_
  refine bnewq (r := 11) (q := 4) (t := 6) (N := 7) F hT hB rfl cl_X0_9 (hT.1.2.2.2.1 _ (by decide +kernel)) rfl (by decide) (by decide) hA4 oH4.1 (oH4 (E := E)).2 (by show 0 + 1 ≤ 218; decide) (by show 0 + 7 ≤ 2009; decide) dX0_init_7 (fun H hB => ?_)
  refine bputF (ty := tyX0 0) F hT hB (rfl : kcl[0]? = some (RX0, TX0, 3)) tyX0_ok nmX0 fw_X0_11 rfl hnm rfl rfl rfl rfl (Or.inl hL0) (by omega) (oH3 (E := E)).2 (by decide) dX0_init_10 (fun H locs hB => ?_)
  refine lv_iconst (v := 0) F.1 F.2.1 dX0_init_13 (by decide) ?_
  refine lv_istore_n (lv' := [(1, .int 0), (0, .ref (ea E 11 3))]) F.1 F.2.1 dX0_init_14 rfl hl (by decide) rfl (fun ls hl => ?_)
  have hB3 : BW E s H locs (HSt V E (updV (V 11 3) 0 (.ref (ea E 11 4))) 0) (LHt L 0) (n + 1 + 31 * 0) := ⟨hB.1.to enH, hB.2.1, by rw [hB.2.2]⟩
  exact hL1 7 0 H locs ls (by omega) hB3 hl
