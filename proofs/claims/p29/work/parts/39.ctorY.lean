/-! class InterruptInn's constructor, walked -/
abbrev DX (E : mE) (d : Nat → Value) : Nat → Value := updV (updV (updV d 0 (.ref (ea E 0 0))) 1 (.ref (ea E 1 0))) 2 (.ref (ea E 11 1))
abbrev VcX (E : mE) (V : Vs) : Vs := vs (vs (XV V E (DX E (V 11 0)) 4 2) 11 2 (fun _ => .int 0)) 11 0 (updV (vs (XV V E (DX E (V 11 0)) 4 2) 11 2 (fun _ => .int 0) 11 0) 3 (.ref (ea E 11 2)))
abbrev VdX (E : mE) (V : Vs) : Vs := vs (VcX E V) 11 3 (fun k => defaultValue (tyX0 k))
abbrev VeX (E : mE) (V : Vs) : Vs := HSt (VdX E V) E (updV (VdX E V 11 3) 0 (.ref (ea E 11 4))) 7
abbrev VfX (E : mE) (V : Vs) : Vs := vs (VeX E V) 11 0 (updV (VeX E V 11 0) 4 (.ref (ea E 11 3)))
abbrev VgX (E : mE) (V : Vs) : Vs := vs (VfX E V) 11 5 (fun k => defaultValue (tyX2 k))
abbrev VhX (E : mE) (V : Vs) : Vs := vs (vs (VgX E V) 11 6 (fun _ => .int 0)) 11 5 (updV (VgX E V 11 5) 0 (.ref (ea E 11 6)))
abbrev ViX (E : mE) (V : Vs) : Vs := vs (VhX E V) 11 0 (updV (VhX E V 11 0) 5 (.ref (ea E 11 5)))
abbrev LiX (L : Nat → Nat → Prop) : Nat → Nat → Prop := fun r' q' => (fun r' q' => LHt (fun r' q' => (fun r' q' => XL L 4 2 r' q' ∨ (r' = 11 ∧ q' = 2)) r' q' ∨ (r' = 11 ∧ q' = 3)) 7 r' q' ∨ (r' = 11 ∧ q' = 5)) r' q' ∨ (r' = 11 ∧ q' = 6)
set_option maxHeartbeats 4000000 in
set_option maxRecDepth 100000 in
theorem c_X6_init (l : Launch) (E : mE) (V : Vs) (L : Nat → Nat → Prop) (n : Nat) (hL0 : L 11 0) (hLr : ∀ r' q', L r' q' → r' = 12 ∨ (r' = 11 ∧ q' = 0)) (hF : L 12 0) (hFv : V 12 0 = fun j => .int (vFst j)) (hA0 : ∀ q, q < 31 → ea E 0 q = n + q) (hA1 : ∀ q, q < 31 → ea E 1 q = n + 31 + q) (hA2 : ∀ j q, j < 2 → q < 31 → ea E (2 + j) q = n + 63 + 31 * j + q) (hAs : ea E 11 1 = n + 62) (hAv : ea E 11 2 = n + 125) (hAh : ea E 11 3 = n + 126) (hAt : ea E 11 4 = n + 127) (hAH : ∀ j q, j < 7 → q < 31 → ea E (4 + j) q = n + 127 + 1 + 31 * j + q) (hAp : ea E 11 5 = n + 345) (hAg : ea E 11 6 = n + 346) :
    CtB l E yX6_init cX6_init 2 4 120 347 3242 [.ref (ea E 11 0)] V L n (ViX E V) (LiX L) (n + 347) := by
  refine bMet (by decide +kernel) (Nat.le_of_ble_eq_true rfl) ?_
  intro p e s m below meth c ls F hT hr0 hlk hnm hB hl
  have F : CallFix p m c cX6_init 2 s _ TB RX6 := F
  have hl : lv_has ls 2 [(0, .ref (ea E 11 0))] := hl
  have hB : BW E s s.heap [] (XV V E (V 11 0) 0 0) (XL L 0 1) n := ⟨hB.1.to (enX hLr), hB.2⟩
  have hL1 : ∀ (fu j : Nat) (H : Heap) (locs : List Loc) (ls : Array Slot), j + fu = 2 → BW E s H locs (XV V E (DX E (V 11 0)) (2 + j) j) (XL L (2 + j) 2) (n + 63 + 31 * j) → lv_has ls 2 [(1, .int (nI j)), (0, .ref (ea E 11 0))] → W p l e (rmC 4 120 347 3242) s m ([.ref (ea E 11 0)] : List Value).toArray below meth c H locs (63 + 31 * j) (574 + 286 * j) (MQ below (Qb E (ViX E V) (LiX L) (n + 347)) ([.ref (ea E 11 0)] : List Value).toArray s 347 3242 (AA E)) (F0 m 36 ls []) := by
    intro fu
    induction fu with
    | zero =>
      intro j H locs ls hj hB hl
      obtain rfl : j = 2 := by omega
      refine lv_iload_n F.1 F.2.1 dX6_init_36 rfl (lv_at hl 0 rfl) ?_
      refine lv_iconst (v := 2) F.1 F.2.1 dX6_init_37 (by decide) ?_
      refine lv_icmp_ge (tgt := 60) F.1 F.2.1 dX6_init_38 (by decide) (fun h5 => ?_) (fun h5 => absurd (c_le (lI 2) rfl (by decide) (by decide)) h5)
      refine lv_aload_n F.1 F.2.1 dX6_init_60 rfl (lv_at hl 1 rfl) ?_
      refine lv_iconst (v := 2) F.1 F.2.1 dX6_init_61 (by decide) ?_
      refine bnewi (r := 11) (q := 2) (t := 1) (N := 2) F hT hB rfl (fun C h => by cases h) ca_boolean rfl (by decide) (by decide) (by rw [hAv]) oH2.1 (oH2 (E := E)).2 (by show 63 + 31 * 2 + 1 ≤ 347; decide) (by show 574 + 286 * 2 + 2 ≤ 3242; decide) dX6_init_62 (fun H hB => ?_)
      refine bputF (ty := tyX6 3) F hT hB (rfl : kcl[6]? = some (RX6, TX6, 6)) tyX6_ok nmX6 fw_X6_23 rfl hnm rfl rfl rfl rfl (Or.inl (Or.inl hL0)) (by decide) (oH0 (E := E)).2 (by decide) dX6_init_64 (fun H locs hB => ?_)
      refine lv_aload_n F.1 F.2.1 dX6_init_67 rfl (lv_at hl 1 rfl) ?_
      refine bnew (r := 11) (q := 3) F hT hB (rfl : kcl[0]? = some (RX0, TX0, 3)) tyX0_ok ls_0 cl_X6_27 ci_X0 cz_X0 (by rw [hAh]) oH3.1 (oH3 (E := E)).2 (by decide) (by show 63 + 31 * 2 + 1 + 1 ≤ 347; decide) (by show 574 + 286 * 2 + 2 + 3 ≤ 3242; decide) dX6_init_68 (fun H hB => ?_)
      refine lv_dup F.1 F.2.1 dX6_init_71 rfl ?_
      refine bcv (brunI F hT hB yc_X0_init rfl yi_X0_init ml_X6_29 (c_X0_init l E _ _ _ (Or.inr ⟨rfl, rfl⟩) (fun r q h1 h2 h3 => ?_) (Or.inl (Or.inl (Or.inl hF))) ?_ (by rw [hAt]) (fun j q h1 h2 => hAH j q h1 h2)) hl.1 ⟨Nat.le_of_ble_eq_true rfl, Nat.le_of_ble_eq_true rfl⟩ (Nat.le_of_ble_eq_true rfl) ⟨by show 63 + 31 * 2 + 1 + 1 + 218 ≤ 347; decide, by show 574 + 286 * 2 + 2 + 3 + 2009 ≤ 3242; decide⟩ dX6_init_72) hB (fun H locs hB => ?_)
      · rcases h3 with ((h3 | ⟨h3, h4⟩ | ⟨h3, h4, h5⟩) | ⟨h3, h4⟩) | ⟨h3, h4⟩
        · rcases hLr _ _ h3 with h | ⟨h, _⟩
          · omega
          · omega
        · omega
        · omega
        · omega
        · omega
      · rw [vs_ne _ _ (by omega), vs_ne _ _ (by omega), vs_ne _ _ (by omega)]
        unfold XV
        rw [if_neg (by omega), if_neg (by omega), if_neg (by omega)]
        exact hFv
      refine bputF (ty := tyX6 4) F hT hB (rfl : kcl[6]? = some (RX6, TX6, 6)) tyX6_ok nmX6 fw_X6_30 rfl hnm rfl rfl rfl rfl (Or.inl (Or.inl (Or.inl (Or.inl hL0)))) (by decide) (oH0 (E := E)).2 (by decide) dX6_init_75 (fun H locs hB => ?_)
      refine lv_aload_n F.1 F.2.1 dX6_init_78 rfl (lv_at hl 1 rfl) ?_
      refine bnew (r := 11) (q := 5) F hT hB (rfl : kcl[2]? = some (RX2, TX2, 2)) tyX2_ok ls_2 cl_X6_34 ci_X2 cz_X2 (by rw [hAp]) oH5.1 (oH5 (E := E)).2 (by decide) (by show 63 + 31 * 2 + 1 + 1 + 218 + 1 ≤ 347; decide) (by show 574 + 286 * 2 + 2 + 3 + 2009 + 2 ≤ 3242; decide) dX6_init_79 (fun H hB => ?_)
      refine lv_dup F.1 F.2.1 dX6_init_82 rfl ?_
      refine bcv (brunI F hT hB yc_X2_init rfl yi_X2_init ml_X6_36 (c_X2_init l E _ _ _ (Or.inr ⟨rfl, rfl⟩) (by rw [hAg])) hl.1 ⟨Nat.le_of_ble_eq_true rfl, Nat.le_of_ble_eq_true rfl⟩ (Nat.le_of_ble_eq_true rfl) ⟨by show 63 + 31 * 2 + 1 + 1 + 218 + 1 + 1 ≤ 347; decide, by show 574 + 286 * 2 + 2 + 3 + 2009 + 2 + 80 ≤ 3242; decide⟩ dX6_init_83) hB (fun H locs hB => ?_)
      refine bputF (ty := tyX6 5) F hT hB (rfl : kcl[6]? = some (RX6, TX6, 6)) tyX6_ok nmX6 fw_X6_37 rfl hnm rfl rfl rfl rfl (Or.inl (Or.inl (Or.inl (Or.inl (Or.inl (Or.inl hL0)))))) (by decide) (oH0 (E := E)).2 (by decide) dX6_init_86 (fun H locs hB => ?_)
      exact brv F hr0 hlk hB dX6_init_89 (fun _ _ h => ⟨h, rfl⟩) (by omega) rfl rfl
    | succ fu ih =>
      intro j H locs ls hj hB hl
      refine lv_iload_n F.1 F.2.1 dX6_init_36 rfl (lv_at hl 0 rfl) ?_
      refine lv_iconst (v := 2) F.1 F.2.1 dX6_init_37 (by decide) ?_
      refine lv_icmp_ge (tgt := 60) F.1 F.2.1 dX6_init_38 (by decide) (fun h5 => absurd h5 (c_nle (lI 2) rfl (by omega) (by omega))) (fun h5 => ?_)
      refine lv_aload_n F.1 F.2.1 dX6_init_41 rfl (lv_at hl 1 rfl) ?_
      refine bgetR (r' := 11) (q' := 1) F hT hB fw_X6_19 (Or.inl hL0) (oH0 (E := E)).2 (by decide) (by rw [XV_0 (by omega)]; exact updV_at _ _ _) dX6_init_42 ?_
      refine lv_iload_n F.1 F.2.1 dX6_init_45 rfl (lv_at hl 0 rfl) ?_
      refine bnew (r := 2 + j) (q := 0) F hT hB (rfl : kcl[3]? = some (RX3, TX3, 11)) tyX3_ok ls_3 cl_X6_7 ci_X3 cz_X3 ((hA2 j 0 (by omega) (by omega)).trans (by omega)) (oSrv (by omega)).1 (oSrv (E := E) (by omega)).2 (by decide) (by show 63 + 31 * j + 1 ≤ 347; omega) (by show 574 + 286 * j + 11 ≤ 3242; omega) dX6_init_46 (fun H hB => ?_)
      refine lv_dup F.1 F.2.1 dX6_init_49 rfl ?_
      refine bcv (brunI F hT hB yc_X3_init rfl yi_X3_init ml_X6_9 (c_X3_init l E _ _ _ (2 + j) (by omega) (Or.inr ⟨rfl, rfl⟩) (fun q hq => ?_) (Or.inl (Or.inl hF)) ?_ (fun q h1 h2 => ?_)) hl.1 ⟨Nat.le_of_ble_eq_true rfl, Nat.le_of_ble_eq_true rfl⟩ (Nat.le_of_ble_eq_true rfl) ⟨by show 63 + 31 * j + 1 + 30 ≤ 347; omega, by show 574 + 286 * j + 11 + 275 ≤ 3242; omega⟩ dX6_init_50) hB (fun H locs hB => ?_)
      · rcases hq with (hq | ⟨h1, h2⟩ | ⟨h1, h2, h3⟩) | ⟨h1, h2⟩
        · rcases hLr _ _ hq with h | ⟨h, _⟩
          · omega
          · omega
        · omega
        · omega
        · exact h2
      · rw [vs_ne _ _ (by omega)]
        unfold XV
        rw [if_neg (by omega), if_neg (by omega), if_neg (by omega)]
        exact hFv
      · rw [hA2 j q (by omega) (by omega)]
        omega
      rw [vs_at] at hB
      have hB : BW E s H locs (XV V E (DX E (V 11 0)) (2 + j + 1) j) (XL L (2 + j + 1) 2) (n + 63 + 31 * j + 1 + 30) := ⟨hB.1.to svX, hB.2⟩
      refine bastq (t := 6) (N := 2) F hT hB rfl (rfl : kcl[3]? = some (RX3, TX3, 11)) (Or.inr (Or.inr ⟨rfl, by decide, by decide⟩)) (by decide) (oH1 (E := E)).2 (Or.inr (Or.inl ⟨by omega, by decide⟩)) (oSrv (E := E) (by omega)).2 (by decide) (by omega : j < 2) (by decide) rfl dX6_init_53 (fun H locs hB => ?_)
      refine lv_iinc (v := nI (j + 1)) (lv' := [(1, .int (nI (j + 1))), (0, .ref (ea E 11 0))]) F.1 F.2.1 dX6_init_54 hl (k := 0) rfl (ia rfl rfl) (by decide) rfl (fun ls hl => ?_)
      refine lv_goto (tgt := 36) F.1 F.2.1 dX6_init_57 (by decide) ?_
      have hB2 : BW E s H locs (XV V E (DX E (V 11 0)) (2 + (j + 1)) (j + 1)) (XL L (2 + (j + 1)) 2) (n + 63 + 31 * (j + 1)) := ⟨hB.1.to (fun r' q' h => ⟨h, asX (by omega) r' q'⟩), hB.2.1, by rw [hB.2.2]; omega⟩
      have hk := ih (j + 1) H locs ls (by omega) hB2 hl
      rw [show 63 + 31 * (j + 1) = 63 + 31 * j + 1 + 30 by omega, show 574 + 286 * (j + 1) = 574 + 286 * j + 11 + 275 by omega] at hk
      exact hk
  refine lv_aload_n F.1 F.2.1 dX6_init_0 rfl (lv_at hl 0 rfl) ?_
  refine bobj F hl.1 co_X6 (Nat.le_of_ble_eq_true rfl) (Nat.le_of_ble_eq_true rfl) dX6_init_1 ?_
  refine lv_aload_n F.1 F.2.1 dX6_init_4 rfl (lv_at hl 0 rfl) ?_
  refine bnew (r := 0) (q := 0) F hT hB (rfl : kcl[3]? = some (RX3, TX3, 11)) tyX3_ok ls_3 cl_X6_7 ci_X3 cz_X3 ((hA0 0 (by omega)).trans (by omega)) (oSrv (by omega)).1 (oSrv (E := E) (by omega)).2 (by decide) (by show 0 + 1 ≤ 347; omega) (by show 0 + 11 ≤ 3242; omega) dX6_init_5 (fun H hB => ?_)
  refine lv_dup F.1 F.2.1 dX6_init_8 rfl ?_
  refine bcv (brunI F hT hB yc_X3_init rfl yi_X3_init ml_X6_9 (c_X3_init l E _ _ _ (0) (by omega) (Or.inr ⟨rfl, rfl⟩) (fun q hq => ?_) (Or.inl (Or.inl hF)) ?_ (fun q h1 h2 => ?_)) hl.1 ⟨Nat.le_of_ble_eq_true rfl, Nat.le_of_ble_eq_true rfl⟩ (Nat.le_of_ble_eq_true rfl) ⟨by show 0 + 1 + 30 ≤ 347; omega, by show 0 + 11 + 275 ≤ 3242; omega⟩ dX6_init_9) hB (fun H locs hB => ?_)
  · rcases hq with (hq | ⟨h1, h2⟩ | ⟨h1, h2, h3⟩) | ⟨h1, h2⟩
    · rcases hLr _ _ hq with h | ⟨h, _⟩
      · omega
      · omega
    · omega
    · omega
    · exact h2
  · rw [vs_ne _ _ (by omega)]
    unfold XV
    rw [if_neg (by omega), if_neg (by omega), if_neg (by omega)]
    exact hFv
  · rw [hA0 q (by omega)]
    omega
  rw [vs_at] at hB
  have hB : BW E s H locs (XV V E (V 11 0) 1 0) (XL L 1 1) (n + 1 + 30) := ⟨hB.1.to svX, hB.2⟩
  refine bputF (ty := tyX6 0) F hT hB (rfl : kcl[6]? = some (RX6, TX6, 6)) tyX6_ok nmX6 fw_X6_10 rfl hnm rfl rfl rfl rfl (Or.inl hL0) (by decide) (oH0 (E := E)).2 (by decide) dX6_init_12 (fun H locs hB => ?_)
  have hB : BW E s H locs (XV V E (updV (V 11 0) 0 (.ref (ea E 0 0))) 1 0) (XL L 1 1) (n + 1 + 30) := ⟨hB.1.to (fun r' q' h => ⟨h, ptX (by omega) r' q'⟩), hB.2⟩
  refine lv_aload_n F.1 F.2.1 dX6_init_15 rfl (lv_at hl 0 rfl) ?_
  refine bnew (r := 1) (q := 0) F hT hB (rfl : kcl[3]? = some (RX3, TX3, 11)) tyX3_ok ls_3 cl_X6_7 ci_X3 cz_X3 ((hA1 0 (by omega)).trans (by omega)) (oSrv (by omega)).1 (oSrv (E := E) (by omega)).2 (by decide) (by show 0 + 1 + 30 + 1 ≤ 347; omega) (by show 0 + 11 + 275 + 11 ≤ 3242; omega) dX6_init_16 (fun H hB => ?_)
  refine lv_dup F.1 F.2.1 dX6_init_19 rfl ?_
  refine bcv (brunI F hT hB yc_X3_init rfl yi_X3_init ml_X6_9 (c_X3_init l E _ _ _ (1) (by omega) (Or.inr ⟨rfl, rfl⟩) (fun q hq => ?_) (Or.inl (Or.inl hF)) ?_ (fun q h1 h2 => ?_)) hl.1 ⟨Nat.le_of_ble_eq_true rfl, Nat.le_of_ble_eq_true rfl⟩ (Nat.le_of_ble_eq_true rfl) ⟨by show 0 + 1 + 30 + 1 + 30 ≤ 347; omega, by show 0 + 11 + 275 + 11 + 275 ≤ 3242; omega⟩ dX6_init_20) hB (fun H locs hB => ?_)
  · rcases hq with (hq | ⟨h1, h2⟩ | ⟨h1, h2, h3⟩) | ⟨h1, h2⟩
    · rcases hLr _ _ hq with h | ⟨h, _⟩
      · omega
      · omega
    · omega
    · omega
    · exact h2
  · rw [vs_ne _ _ (by omega)]
    unfold XV
    rw [if_neg (by omega), if_neg (by omega), if_neg (by omega)]
    exact hFv
  · rw [hA1 q (by omega)]
    omega
  rw [vs_at] at hB
  have hB : BW E s H locs (XV V E (updV (V 11 0) 0 (.ref (ea E 0 0))) 2 0) (XL L 2 1) (n + 1 + 30 + 1 + 30) := ⟨hB.1.to svX, hB.2⟩
  refine bputF (ty := tyX6 1) F hT hB (rfl : kcl[6]? = some (RX6, TX6, 6)) tyX6_ok nmX6 fw_X6_16 rfl hnm rfl rfl rfl rfl (Or.inl hL0) (by decide) (oH0 (E := E)).2 (by decide) dX6_init_23 (fun H locs hB => ?_)
  have hB : BW E s H locs (XV V E (updV (updV (V 11 0) 0 (.ref (ea E 0 0))) 1 (.ref (ea E 1 0))) 2 0) (XL L 2 1) (n + 1 + 30 + 1 + 30) := ⟨hB.1.to (fun r' q' h => ⟨h, ptX (by omega) r' q'⟩), hB.2⟩
  refine lv_aload_n F.1 F.2.1 dX6_init_26 rfl (lv_at hl 0 rfl) ?_
  refine lv_iconst (v := 2) F.1 F.2.1 dX6_init_27 (by decide) ?_
  refine bnewq (r := 11) (q := 1) (t := 6) (N := 2) F hT hB rfl cl_X6_7 (hT.1.2.2.2.1 _ (by decide +kernel)) rfl (by decide) (by decide) (by rw [hAs]) oH1.1 (oH1 (E := E)).2 (by show 0 + 1 + 30 + 1 + 30 + 1 ≤ 347; decide) (by show 0 + 11 + 275 + 11 + 275 + 2 ≤ 3242; decide) dX6_init_28 (fun H hB => ?_)
  have hB : BW E s H locs (XV V E (updV (updV (V 11 0) 0 (.ref (ea E 0 0))) 1 (.ref (ea E 1 0))) 2 0) (XL L 2 2) (n + 1 + 30 + 1 + 30 + 1) := ⟨hB.1.to (arX (by omega)), hB.2⟩
  refine bputF (ty := tyX6 2) F hT hB (rfl : kcl[6]? = some (RX6, TX6, 6)) tyX6_ok nmX6 fw_X6_19 rfl hnm rfl rfl rfl rfl (Or.inl hL0) (by decide) (oH0 (E := E)).2 (by decide) dX6_init_31 (fun H locs hB => ?_)
  refine lv_iconst (v := 0) F.1 F.2.1 dX6_init_34 (by decide) ?_
  refine lv_istore_n (lv' := [(1, .int 0), (0, .ref (ea E 11 0))]) F.1 F.2.1 dX6_init_35 rfl hl (by decide) rfl (fun ls hl => ?_)
  have hB3 : BW E s H locs (XV V E (DX E (V 11 0)) (2 + 0) 0) (XL L (2 + 0) 2) (n + 63 + 31 * 0) := ⟨hB.1.to (fun r' q' h => ⟨h, ptX (by omega) r' q'⟩), hB.2⟩
  exact hL1 2 0 H locs ls (by omega) hB3 hl
