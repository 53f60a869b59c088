/-! class Server: a tick, forecasts, sums, copies -/
theorem bn_dec {x : Int32} {b : Nat} (h : Bn x b) (h0 : 0 < cn x) (hb : b < 2 ^ 31) : cn (x - 1) = cn x - 1 ∧ Bn (x - 1) b := by
  have h1 := isb h.1 (lI 1) h0
  have h2 := h.2
  have h3 : cn (x - 1) = cn x - 1 := by rw [h1]; exact nI_clamp (by omega)
  exact ⟨h3, by rw [h3]; exact h1, by omega⟩
theorem bn_inc {x : Int32} {b : Nat} (h : Bn x b) (h0 : cn x < b) (hb : b < 2 ^ 31) : cn (x + 1) = cn x + 1 ∧ Bn (x + 1) b := by
  have h1 := ia h.1 (lI 1)
  have h3 : cn (x + 1) = cn x + 1 := by rw [h1]; exact nI_clamp (by omega)
  exact ⟨h3, by rw [h3]; exact h1, by omega⟩
theorem wf_serve {S : Sv} (h : Wf S) : Wf (p_X3_serveTop S) := by
  obtain ⟨a, b, d, e, f⟩ := id h
  unfold p_X3_serveTop
  split
  · exact h
  · next h0 =>
    have hd0 := ntk d h0
    have hd2 := d.2
    have hle := (f (cn (S 0 7) - 1) (by omega)).2
    have hb2 := b.2
    dsimp only
    split
    · exact h.same (by simp [us]) (by simp [us]) (by simp [us]) (fun q _ => by simp [us]) (fun q _ => by simp [us])
    · generalize cn (S (23 + (cn (S 0 7) - 1)) 0) = y at hle ⊢
      obtain ⟨hc, hB⟩ := bn_dec d hd0 (by decide)
      have e3 : ∀ k, ¬ k = 7 → ¬ k = 8 → p_X1_leaveNest (us (us (us S 0 8 (S 0 8 + 1)) (23 + (cn (S 0 7) - 1)) 2 ((us S 0 8 (S 0 8 + 1)) (23 + (cn (S 0 7) - 1)) 2 - 1)) 0 7 ((us (us S 0 8 (S 0 8 + 1)) (23 + (cn (S 0 7) - 1)) 2 ((us S 0 8 (S 0 8 + 1)) (23 + (cn (S 0 7) - 1)) 2 - 1)) 0 7 - 1)) y 0 k = S 0 k := fun k h7 h8 => by
        rw [fr_leaveNest (by omega)]
        simp [us, h7, h8, show ¬ (0 = 23 + (cn (S 0 7) - 1)) by omega]
      have e7 : p_X1_leaveNest (us (us (us S 0 8 (S 0 8 + 1)) (23 + (cn (S 0 7) - 1)) 2 ((us S 0 8 (S 0 8 + 1)) (23 + (cn (S 0 7) - 1)) 2 - 1)) 0 7 ((us (us S 0 8 (S 0 8 + 1)) (23 + (cn (S 0 7) - 1)) 2 ((us S 0 8 (S 0 8 + 1)) (23 + (cn (S 0 7) - 1)) 2 - 1)) 0 7 - 1)) y 0 7 = S 0 7 - 1 := by
        rw [fr_leaveNest (by omega)]
        simp [us]
      have eo : ∀ p, 15 ≤ p → p_X1_leaveNest (us (us (us S 0 8 (S 0 8 + 1)) (23 + (cn (S 0 7) - 1)) 2 ((us S 0 8 (S 0 8 + 1)) (23 + (cn (S 0 7) - 1)) 2 - 1)) 0 7 ((us (us S 0 8 (S 0 8 + 1)) (23 + (cn (S 0 7) - 1)) 2 ((us S 0 8 (S 0 8 + 1)) (23 + (cn (S 0 7) - 1)) 2 - 1)) 0 7 - 1)) y p 0 = S p 0 := fun p hp => by
        rw [fr_leaveNest (by omega)]
        simp [us]
      refine ⟨by rw [e3 3 (by decide) (by decide)]; exact a, by rw [e3 5 (by decide) (by decide)]; exact b, by rw [e7]; exact hB, fun q hq => ?_, fun q hq => ?_⟩
      · rw [e3 5 (by decide) (by decide)] at hq
        rw [eo _ (by omega)]
        exact e q hq
      · rw [e7, hc] at hq
        rw [eo _ (by omega)]
        exact f q (by omega)
theorem wf_begin {S : Sv} (h : Wf S) : Wf (p_X3_beginFoundLine S).2 := by
  obtain ⟨a, b, d, e, f⟩ := id h
  unfold p_X3_beginFoundLine
  dsimp only
  split
  · exact h
  · next hx =>
    split
    · exact h
    · next ht =>
      have hb := (fd_res a).resolve_left hx
      have hb11 := hb.2
      have hd8 := nt_room d rfl ht
      have hb2 := b.2
      generalize p_X3_costOf _ _ = z1
      generalize p_X1_presentRank S (cn (p_X3_foundLine S)) (S 1 0) (S 1 1) = z2
      generalize p_X3_foundLine S = x at hb hb11 ⊢
      have hS8 : ∀ p k, ¬ (p = 0 ∧ k = 10) → (if S 0 7 ≤ 0 then S else us S 0 10 (S 0 10 + 1)) p k = S p k := fun p k hpk => by
        split
        · rfl
        · exact us_ne _ _ hpk
      generalize (if S 0 7 ≤ 0 then S else us S 0 10 (S 0 10 + 1)) = S8 at hS8 ⊢
      generalize hS14 : us (us (us (us S8 (23 + cn (S 0 7)) 0 x) (23 + cn (S 0 7)) 1 z2) (23 + cn (S 0 7)) 2 z1) (23 + cn (S 0 7)) 3 _ = S14
      have h14 : ∀ p k, ¬ (p = 0 ∧ k = 10) → ¬ p = 23 + cn (S 0 7) → S14 p k = S p k := fun p k h1 h2 => by
        rw [← hS14]
        simp only [us, h2, false_and, if_false]
        exact hS8 p k h1
      have h14n : S14 (23 + cn (S 0 7)) 0 = x := by
        rw [← hS14]
        simp [us]
      have hS16 : ∀ p k, ¬ (p = 0 ∧ (k = 10 ∨ k = 7)) → ¬ p = 3 + cn x → us (p_X1_enterNest S14 (cn x) (S14 0 7)) 0 7 (p_X1_enterNest S14 (cn x) (S14 0 7) 0 7 + 1) p k = S14 p k := fun p k h1 h2 => by
        rw [us_ne _ _ (by omega), fr_enterNest h2]
      have hS167 : us (p_X1_enterNest S14 (cn x) (S14 0 7)) 0 7 (p_X1_enterNest S14 (cn x) (S14 0 7) 0 7 + 1) 0 7 = S 0 7 + 1 := by
        rw [us_at, fr_enterNest (by omega), h14 0 7 (by omega) (by omega)]
      generalize us (p_X1_enterNest S14 (cn x) (S14 0 7)) 0 7 (p_X1_enterNest S14 (cn x) (S14 0 7) 0 7 + 1) = S16 at hS16 hS167 ⊢
      have hR : ∀ p k, ¬ (p = 0 ∧ k = 9) → (if S16 0 7 ≤ S16 0 9 then S16 else us S16 0 9 (S16 0 7)) p k = S16 p k := fun p k hpk => by
        split
        · rfl
        · exact us_ne _ _ hpk
      generalize (if S16 0 7 ≤ S16 0 9 then S16 else us S16 0 9 (S16 0 7)) = R at hR ⊢
      obtain ⟨hc, hB⟩ := bn_inc d hd8 (by decide)
      have e3 : R 0 3 = S 0 3 := by rw [hR 0 3 (by omega), hS16 0 3 (by omega) (by omega), h14 0 3 (by omega) (by omega)]
      have e5 : R 0 5 = S 0 5 := by rw [hR 0 5 (by omega), hS16 0 5 (by omega) (by omega), h14 0 5 (by omega) (by omega)]
      have e7 : R 0 7 = S 0 7 + 1 := by rw [hR 0 7 (by omega), hS167]
      have eo : ∀ p, 15 ≤ p → ¬ p = 23 + cn (S 0 7) → R p 0 = S p 0 := fun p hp h2 => by rw [hR p 0 (by omega), hS16 p 0 (by omega) (by omega), h14 p 0 (by omega) h2]
      have en : R (23 + cn (S 0 7)) 0 = x := by rw [hR _ 0 (by omega), hS16 _ 0 (by omega) (by omega), h14n]
      show Wf R
      refine ⟨by rw [e3]; exact a, by rw [e5]; exact b, by rw [e7]; exact hB, fun q hq => ?_, fun q hq => ?_⟩
      · rw [e5] at hq
        rw [eo _ (by omega) (by omega)]
        exact e q hq
      · rw [e7, hc] at hq
        by_cases hqd : q = cn (S 0 7)
        · rw [hqd, en]
          exact hb
        · rw [eo _ (by omega) (by omega)]
          exact f q (by omega)

def p_X3_passTick (S : Sv) : Int32 × Sv :=
  let S1 : Sv := p_X3_raiseByTimers S
  let x2 : Int32 := (p_X3_beginFoundLine S1).1
  let S3 : Sv := (p_X3_beginFoundLine S1).2
  let S4 : Sv := p_X3_serveTop S3
  let S5 : Sv := p_X3_growWaits S4
  let S6 : Sv := us S5 0 0 ((S5 0 0) + 1)
  ((x2 : Int32), S6)

set_option maxHeartbeats 4000000 in
set_option maxRecDepth 100000 in
theorem c_X3_passTick (l : Launch) (E : mE) (μ : Mu) (r : Nat) (hr : r < 11) (S : Sv) (wfS : Wf S) : CtI l E yX3_passTick cX3_passTick 2 (some .int) 3 72 [.ref (ea E r 0)] (fo μ r S) (fun x μ' => x = (p_X3_passTick S).1 ∧ μ' = fo μ r (p_X3_passTick S).2) := by
  refine jMet (by decide +kernel) (Nat.le_of_ble_eq_true rfl) ?_
  intro p e s m below meth c ls F hT hr0 hlk hW hl
  have F : CallFix p m c cX3_passTick 2 s _ TB RX3 := F
  have hl : lv_has ls 2 [(0, .ref (ea E r 0))] := hl
  refine lv_aload_n F.1 F.2.1 dX3_passTick_0 rfl (lv_at hl 0 rfl) ?_
  refine jcvf (jrunV (As := []) (rest := []) F hT hW yc_X3_raiseByTimers yv_X3_raiseByTimers ml_X3_144 (oSrv hr) (by decide) rfl (c_X3_raiseByTimers l E μ r hr S wfS.1 wfS.2.1 wfS.2.2.2.1) rfl hl.1 ⟨Nat.le_of_ble_eq_true rfl, Nat.le_of_ble_eq_true rfl⟩ rfl (Nat.le_of_ble_eq_true rfl) ⟨Nat.le_refl _, Nat.le_refl _⟩ dX3_passTick_1) hW (fun S1 H locs eS1 hW => ?_)
  have wfS1 : Wf S1 := by rw [eS1]; exact wf_raise wfS
  refine lv_aload_n F.1 F.2.1 dX3_passTick_4 rfl (lv_at hl 0 rfl) ?_
  refine jcif (jrunV (As := []) (rest := []) F hT hW yc_X3_beginFoundLine yv_X3_beginFoundLine ml_X3_147 (oSrv hr) (by decide) rfl (c_X3_beginFoundLine l E μ r hr S1 wfS1.1 wfS1.2.2.1) rfl hl.1 ⟨Nat.le_of_ble_eq_true rfl, Nat.le_of_ble_eq_true rfl⟩ rfl (Nat.le_of_ble_eq_true rfl) ⟨Nat.le_refl _, Nat.le_refl _⟩ dX3_passTick_5) hW (fun x2 S3 H locs ex2 eS3 hW => ?_)
  have wfS3 : Wf S3 := by rw [eS3]; exact wf_begin wfS1
  refine lv_istore_n (lv' := [(1, .int x2), (0, .ref (ea E r 0))]) F.1 F.2.1 dX3_passTick_8 rfl hl (by decide) rfl (fun ls hl => ?_)
  refine lv_aload_n F.1 F.2.1 dX3_passTick_9 rfl (lv_at hl 1 rfl) ?_
  refine jcvf (jrunV (As := []) (rest := []) F hT hW yc_X3_serveTop yv_X3_serveTop ml_X3_150 (oSrv hr) (by decide) rfl (c_X3_serveTop l E μ r hr S3 wfS3.1 wfS3.2.2.1 wfS3.2.2.2.2) rfl hl.1 ⟨Nat.le_of_ble_eq_true rfl, Nat.le_of_ble_eq_true rfl⟩ rfl (Nat.le_of_ble_eq_true rfl) ⟨Nat.le_refl _, Nat.le_refl _⟩ dX3_passTick_10) hW (fun S4 H locs eS4 hW => ?_)
  have wfS4 : Wf S4 := by rw [eS4]; exact wf_serve wfS3
  refine lv_aload_n F.1 F.2.1 dX3_passTick_13 rfl (lv_at hl 1 rfl) ?_
  refine jcvf (jrunV (As := []) (rest := []) F hT hW yc_X3_growWaits yv_X3_growWaits ml_X3_153 (oSrv hr) (by decide) rfl (c_X3_growWaits l E μ r hr S4 wfS4.1) rfl hl.1 ⟨Nat.le_of_ble_eq_true rfl, Nat.le_of_ble_eq_true rfl⟩ rfl (Nat.le_of_ble_eq_true rfl) ⟨Nat.le_refl _, Nat.le_refl _⟩ dX3_passTick_14) hW (fun S5 H locs eS5 hW => ?_)
  refine lv_aload_n F.1 F.2.1 dX3_passTick_17 rfl (lv_at hl 1 rfl) ?_
  refine lv_dup F.1 F.2.1 dX3_passTick_18 rfl ?_
  refine jget F hT hW fw_X3_44 (oSrv hr) (by decide) (rSrv0 hr) dX3_passTick_19 ?_
  refine lv_iconst (v := 1) F.1 F.2.1 dX3_passTick_22 (by decide) ?_
  refine lv_iadd F.1 F.2.1 dX3_passTick_23 ?_
  refine jput F hT hW fw_X3_44 ft_3_0 (oSrv hr) (by decide) (rn12 hr) (rSrv0 hr) rfl rfl dX3_passTick_24 (fun S6 H locs eS6 hW => ?_)
  refine lv_iload_n F.1 F.2.1 dX3_passTick_27 rfl (lv_at hl 0 rfl) ?_
  have hq : ((x2 : Int32), S6) = p_X3_passTick S := by
    subst eS6
    subst eS5
    subst eS4
    subst eS3
    subst ex2
    subst eS1
    exact (rfl).symm
  exact jri F hr0 hlk hW rfl dX3_passTick_28 ⟨congrArg Prod.fst hq, congrArg (fun z => fo μ r z.2) hq⟩

theorem wf_pass {S : Sv} (h : Wf S) : Wf (p_X3_passTick S).2 := by
  unfold p_X3_passTick
  dsimp only
  exact (wf_grow (wf_serve (wf_begin (wf_raise h)))).same (by simp [us]) (by simp [us]) (by simp [us]) (fun q _ => by simp [us]) (fun q _ => by simp [us])
theorem wB {a b d x : Int32} {n : Nat} (hb : b = nI 1) (hd : d = nI n) (hn : n < 2 ^ 31) (hx : x = p_X6_within a b d) (h : ¬ x = 0) : a = nI (cn a) ∧ cn a ≤ n := by
  subst hx
  unfold p_X6_within at h
  dsimp only at h
  by_cases h1 : a < b
  · rw [if_pos h1] at h
    exact absurd rfl h
  · rw [if_neg h1] at h
    by_cases h2 : d < a
    · rw [if_pos h2] at h
      exact absurd rfl h
    · have h3 : a ≤ d := Int32.not_lt.mp h2
      have h4 : ¬ a < 0 := fun q => h1 (by rw [hb]; exact Int32.lt_trans q (by decide))
      rw [hd] at h3
      obtain ⟨j, hj, hej⟩ := nI_of2 (nI_toInt hn) h4 h3
      have hcn : cn a = j := by rw [hej]; exact nI_clamp (Nat.lt_of_le_of_lt hj hn)
      exact ⟨by rw [hcn]; exact hej, by rw [hcn]; exact hj⟩

def q_X3_passTicks_16 (S : Sv) (tk : Int32) (j : Nat) (σ : Sv) : Sv :=
  let S3 : Sv := σ
  let x5 : Int32 := (p_X3_passTick S3).1
  let S6 : Sv := (p_X3_passTick S3).2
  S6
def p_X3_passTicks (S : Sv) (tk : Int32) : Int32 × Sv :=
  let x1 : Int32 := p_X6_within tk 1 500
  if x1 = 0 then
    (((-2) : Int32), S)
  else
    let S3 : Sv := (itN (q_X3_passTicks_16 S tk) (cn tk) (S))
    ((S3 0 0 : Int32), S3)

theorem wf_it {S : Sv} {tk : Int32} (h : Wf S) : ∀ n, Wf (itN (q_X3_passTicks_16 S tk) n S) := by
  intro n
  induction n with
  | zero => exact h
  | succ n ih =>
    rw [itN_s]
    exact wf_pass ih

set_option maxHeartbeats 4000000 in
set_option maxRecDepth 100000 in
theorem c_X3_passTicks (l : Launch) (E : mE) (μ : Mu) (r : Nat) (hr : r < 11) (S : Sv) (tk : Int32) (wfS : Wf S) : CtI l E yX3_passTicks cX3_passTicks 3 (some .int) 4 93 [.ref (ea E r 0), .int tk] (fo μ r S) (fun x μ' => x = (p_X3_passTicks S tk).1 ∧ μ' = fo μ r (p_X3_passTicks S tk).2) := by
  refine jMet (by decide +kernel) (Nat.le_of_ble_eq_true rfl) ?_
  intro p e s m below meth c ls F hT hr0 hlk hW hl
  have F : CallFix p m c cX3_passTicks 3 s _ TB RX3 := F
  have hl : lv_has ls 3 [(0, .ref (ea E r 0)), (1, .int tk)] := hl
  refine lv_iload_n F.1 F.2.1 dX3_passTicks_0 rfl (lv_at hl 1 rfl) ?_
  refine lv_iconst (v := 1) F.1 F.2.1 dX3_passTicks_1 (by decide) ?_
  refine lv_sipush (v := 500) F.1 F.2.1 dX3_passTicks_2 (by decide) ?_
  refine jcip (jrunSN (As := [.int tk, .int 1, .int 500]) (rest := []) F hT hW yc_X6_within ys_X6_within (by decide +kernel) (c_X6_within l E (fo μ r S) tk 1 500) rfl hl.1 ⟨Nat.le_of_ble_eq_true rfl, Nat.le_of_ble_eq_true rfl⟩ rfl (Nat.le_of_ble_eq_true rfl) ⟨Nat.le_refl _, Nat.le_refl _⟩ dX3_passTicks_5) hW (fun x1 H locs ex1 hW => ?_)
  refine lv_if_ne (tgt := 14) F.1 F.2.1 dX3_passTicks_8 (by decide) (fun h2 => ?_) (fun h2 => ?_)
  · obtain ⟨ht1, ht2⟩ := wB (lI 1) (lI 500) (by decide) (by assumption) (by assumption)
    refine lv_iconst (v := 0) F.1 F.2.1 dX3_passTicks_14 (by decide) ?_
    refine lv_istore_n (lv' := [(2, .int 0), (0, .ref (ea E r 0)), (1, .int tk)]) F.1 F.2.1 dX3_passTicks_15 rfl hl (by decide) rfl (fun ls hl => ?_)
    have hL4 : ∀ (fu j : Nat) (S3 : Sv) (H : Heap) (locs : List Loc) (ls : Array Slot), j + fu = cn tk → (S3) = itN (q_X3_passTicks_16 S tk) j (S) → Wd E s H locs (fo μ r S3) → lv_has ls 3 [(2, .int (nI j)), (0, .ref (ea E r 0)), (1, .int tk)] → W p l e (rmO 4 93) s m ([.ref (ea E r 0), .int tk] : List Value).toArray below meth c H locs 0 0 (MQ below (va_Qi (fun x μ' => x = (p_X3_passTicks S tk).1 ∧ μ' = fo μ r (p_X3_passTicks S tk).2) (fun μ' t => MB E μ' t.heap) (AA E)) ([.ref (ea E r 0), .int tk] : List Value).toArray s 0 0 (AA E)) (F0 m 16 ls []) := by
      intro fu
      induction fu with
      | zero =>
        intro j S3 H locs ls hj hs  hW hl
        obtain rfl : j = cn tk := by omega
        have eS3 := hs
        refine lv_iload_n F.1 F.2.1 dX3_passTicks_16 rfl (lv_at hl 0 rfl) ?_
        refine lv_iload_n F.1 F.2.1 dX3_passTicks_17 rfl (lv_at hl 2 rfl) ?_
        refine lv_icmp_ge (tgt := 32) F.1 F.2.1 dX3_passTicks_18 (by decide) (fun h5 => ?_) (fun h5 => ?_)
        · refine lv_aload_n F.1 F.2.1 dX3_passTicks_32 rfl (lv_at hl 1 rfl) ?_
          refine jget F hT hW fw_X3_44 (oSrv hr) (by decide) (rSrv0 hr) dX3_passTicks_33 ?_
          have hq : ((S3 0 0 : Int32), S3) = p_X3_passTicks S tk := by
            subst eS3
            subst ex1
            exact (if_neg h2).symm
          exact jri F hr0 hlk hW rfl dX3_passTicks_36 ⟨congrArg Prod.fst hq, congrArg (fun z => fo μ r z.2) hq⟩
        · exact absurd (c_le ht1 rfl (by omega) (by omega)) h5
      | succ fu ih =>
        intro j S3 H locs ls hj hs  hW hl
        have wfS3 := wf_it (tk := tk) wfS j
        rw [← hs] at wfS3
        refine lv_iload_n F.1 F.2.1 dX3_passTicks_16 rfl (lv_at hl 0 rfl) ?_
        refine lv_iload_n F.1 F.2.1 dX3_passTicks_17 rfl (lv_at hl 2 rfl) ?_
        refine lv_icmp_ge (tgt := 32) F.1 F.2.1 dX3_passTicks_18 (by decide) (fun h4 => ?_) (fun h4 => ?_)
        · exact absurd h4 (c_nle ht1 rfl (by omega) (by omega))
        · refine lv_aload_n F.1 F.2.1 dX3_passTicks_21 rfl (lv_at hl 1 rfl) ?_
          refine jcif (jrunV (As := []) (rest := []) F hT hW yc_X3_passTick yv_X3_passTick ml_X3_140 (oSrv hr) (by decide) rfl (c_X3_passTick l E μ r hr S3 wfS3) rfl hl.1 ⟨Nat.le_of_ble_eq_true rfl, Nat.le_of_ble_eq_true rfl⟩ rfl (Nat.le_of_ble_eq_true rfl) ⟨Nat.le_refl _, Nat.le_refl _⟩ dX3_passTicks_22) hW (fun x5 S6 H locs ex5 eS6 hW => ?_)
          refine lv_pop F.1 F.2.1 dX3_passTicks_25 rfl ?_
          refine lv_iinc (v := nI (j + 1)) (lv' := [(2, .int (nI (j + 1))), (0, .ref (ea E r 0)), (1, .int tk)]) F.1 F.2.1 dX3_passTicks_26 hl (k := 0) rfl (ia rfl rfl) (by decide) rfl (fun ls hl => ?_)
          refine lv_goto (tgt := 16) F.1 F.2.1 dX3_passTicks_29 (by decide) ?_
          subst eS6
          subst ex5
          exact ih (j + 1) _ _ _ _ (by omega) (by rw [itN_s, ← hs]; exact (rfl).symm) hW (lv_sub hl [0, 1, 2] rfl)
    exact hL4 (cn tk) 0 S _ _ _ (by omega) rfl hW (lv_sub hl [0, 1, 2] rfl)
  · refine lv_bipush (v := (-2)) F.1 F.2.1 dX3_passTicks_11 (by decide) ?_
    have hq : (((-2) : Int32), S) = p_X3_passTicks S tk := by
      subst ex1
      exact (if_pos h2).symm
    exact jri F hr0 hlk hW rfl dX3_passTicks_13 ⟨congrArg Prod.fst hq, congrArg (fun z => fo μ r z.2) hq⟩

def q_X3_ticksUntilBegin_2 (S : Sv) (ln : Int32) (mo : Nat) : Nat → Nat → Sv → Int32 × Sv
  | 0, j, S1 =>
    (((-6) : Int32), S1)
  | fu + 1, j, S1 =>
    let x3 : Int32 := (p_X3_passTick S1).1
    let S4 : Sv := (p_X3_passTick S1).2
    if x3 = ln then
      ((nI j : Int32), S4)
    else
      q_X3_ticksUntilBegin_2 S ln mo fu (j + 1) S4
def p_X3_ticksUntilBegin (S : Sv) (ln : Int32) (mo : Nat) : Int32 × Sv :=
  q_X3_ticksUntilBegin_2 S ln mo mo 0 S

def q_X3_ticksUntilIdle_2 (S : Sv) (mo : Nat) : Nat → Nat → Sv → Int32 × Sv
  | 0, j, S1 =>
    let v5 : Int32 := (if (S1 0 7) = 0 then nI mo else (-6))
    ((v5 : Int32), S1)
  | fu + 1, j, S1 =>
    if (S1 0 7) = 0 then
      ((nI j : Int32), S1)
    else
      let x4 : Int32 := (p_X3_passTick S1).1
      let S5 : Sv := (p_X3_passTick S1).2
      q_X3_ticksUntilIdle_2 S mo fu (j + 1) S5
def p_X3_ticksUntilIdle (S : Sv) (mo : Nat) : Int32 × Sv :=
  q_X3_ticksUntilIdle_2 S mo mo 0 S
