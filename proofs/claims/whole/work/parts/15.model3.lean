/-! the reference: a tick -/
theorem fr_begin {S : Sv} {li k : Nat} (h1 : ¬ (k = 10 ∨ k = 12 ∨ k = 13)) (h2 : ¬ (20 + 16 * li ≤ k ∧ k < 36 + 16 * li)) (h3 : ¬ (220 + 4 * cn (S 1 10) ≤ k ∧ k < 224 + 4 * cn (S 1 10))) : p_X7_begin S li 1 k = S 1 k := by
  unfold p_X7_begin
  dsimp only
  rw [fr_turn (by omega), fr_book (by omega), fr_book (by omega), fr_book (by omega), fr_book (by omega), us_ne _ _ (by omega), us_ne _ _ (by omega), us_ne _ _ (by omega), us_ne _ _ (by omega), us_ne _ _ (by omega), us_ne _ _ (by omega), us_ne _ _ (by omega)]
theorem fr_beginP {S : Sv} {li p k : Nat} (h1 : ¬ p = 1) : p_X7_begin S li p k = S p k := by
  unfold p_X7_begin
  dsimp only
  rw [fr_turn (by omega), fr_book (by omega), fr_book (by omega), fr_book (by omega), fr_book (by omega), us_ne _ _ (by omega), us_ne _ _ (by omega), us_ne _ _ (by omega), us_ne _ _ (by omega), us_ne _ _ (by omega), us_ne _ _ (by omega), us_ne _ _ (by omega)]
theorem begin_10 {S : Sv} {li : Nat} (hli : li < 12) : p_X7_begin S li 1 10 = S 1 10 + 1 := by
  unfold p_X7_begin
  dsimp only
  rw [fr_turn (by omega), fr_book (by omega), fr_book (by omega), fr_book (by omega), fr_book (by omega), us_ne _ _ (by omega), us_at, us_ne _ _ (by omega), us_ne _ _ (by omega), us_ne _ _ (by omega), us_ne _ _ (by omega), us_ne _ _ (by omega)]
theorem begin_n {S : Sv} {li : Nat} (hli : li < 12) : p_X7_begin S li 1 (220 + 4 * cn (S 1 10)) = nI li := by
  unfold p_X7_begin
  dsimp only
  rw [fr_turn (by omega), fr_book (by omega), fr_book (by omega), fr_book (by omega), fr_book (by omega), us_ne _ _ (by omega), us_ne _ _ (by omega), us_ne _ _ (by omega), us_ne _ _ (by omega), us_ne _ _ (by omega), us_ne _ _ (by omega), us_at]
theorem fr_end {S : Sv} {li p k : Nat} (h1 : ¬ (p = 1 ∧ k = 10)) (h2 : ¬ (p = 1 ∧ 20 + 16 * li ≤ k ∧ k < 36 + 16 * li)) : p_X7_end S li p k = S p k := by
  unfold p_X7_end
  dsimp only
  split
  · rw [fr_look (by omega), fr_book (by omega), fr_book (by omega), us_ne _ _ (by omega)]
  · rw [fr_book (by omega), us_ne _ _ (by omega)]
/-- the nest's depth and lines in their ranges -/
def WN (S : Sv) : Prop := Bn (S 1 10) 8 ∧ ∀ q, q < cn (S 1 10) → Bn (S 1 (220 + 4 * q)) 11
theorem wn_begin {S : Sv} {li : Nat} (h : WN S) (hli : li < 12) (h8 : cn (S 1 10) < 8) : WN (p_X7_begin S li) := by
  obtain ⟨hc, hB⟩ := bn_inc h.1 h8 (by decide)
  unfold WN
  rw [begin_10 hli]
  refine ⟨hB, fun q hq => ?_⟩
  rw [hc] at hq
  by_cases hqd : q = cn (S 1 10)
  · rw [hqd, begin_n hli]
    exact bnI (by omega) (by omega)
  · rw [fr_begin (by omega) (by omega) (by omega)]
    exact h.2 q (by omega)
theorem can_sp {x v a b : Int32} (hv : v = if x < 0 then 0 else if a ≤ b then 0 else 1) (h : ¬ v = 0) : ¬ x < 0 ∧ ¬ a ≤ b := by
  subst hv
  by_cases h1 : x < 0
  · rw [if_pos h1] at h
    exact absurd rfl h
  · rw [if_neg h1] at h
    by_cases h2 : a ≤ b
    · rw [if_pos h2] at h
      exact absurd rfl h
    · exact ⟨h1, h2⟩
theorem lt_of_room {a b : Int32} (hb : Bn b 8) (ha : a ≤ 8) (h : ¬ a ≤ b) : cn b < 8 := bn_ltc hb (by decide) (lI 8) (by decide) (Int32.lt_of_lt_of_le (Int32.not_le.mp h) ha)
theorem ntk2 {x : Int32} {b : Nat} (h : Bn x b) (h0 : ¬ x ≤ 0) : 0 < cn x := ntk h (fun e => h0 (by rw [e]; exact Int32.le_refl 0))

def q_X7_pass_4 (S : Sv) (j : Nat) (σ : Sv) : Sv :=
  let S1 : Sv := σ
  let S7 : Sv := (if (S1 1 7) < (S1 1 (260 + 3 * j + 2)) then S1 else (let x4 : Int32 := (p_X7_edge S1 (cn (S 1 (260 + 3 * j)))).1; (let S5 : Sv := (p_X7_edge S1 (cn (S 1 (260 + 3 * j)))).2; (let S6 : Sv := us S5 1 (260 + 3 * j + 2) ((S5 1 (260 + 3 * j + 2)) + (S5 1 (260 + 3 * j + 1))); S6))))
  S7
def q_X7_pass_232 (S : Sv) (j : Nat) (σ : Sv) : Sv :=
  let S24 : Sv := σ
  let x26 : Int32 := p_X7_waits S24 j
  let v28 : Int32 := (if x26 = 0 then 0 else 1)
  let S30 : Sv := p_X7_book S24 j 6 v28 1
  S30
def p_X7_pass (S : Sv) : Sv :=
  let S1 : Sv := (itN (q_X7_pass_4 S) (cn (S 1 9)) (S))
  let x4 : Int32 := p_X7_found S1
  let v7 : Int32 := (if x4 < 0 then 0 else (if (S1 1 3) ≤ (S1 1 10) then 0 else 1))
  let S15 : Sv := (if v7 = 0 then S1 else (if (S1 1 10) = 0 then (let S11 : Sv := p_X7_begin S1 (cn x4); S11) else (let x12 : Int32 := p_X7_present S1 (cn x4); (if x12 < ((S1 1 (220 + 4 * (cn (S 1 10)) - 3)) + (S1 1 2)) then S1 else (let S14 : Sv := p_X7_begin S1 (cn x4); S14)))))
  let S22 : Sv := (if (S15 1 10) ≤ 0 then S15 else (let S18 : Sv := us S15 1 (220 + 4 * (cn (S15 1 10)) - 4 + 2) ((S15 1 (220 + 4 * (cn (S15 1 10)) - 4 + 2)) - 1); (let S19 : Sv := us S18 1 11 ((S18 1 11) + 1); (if (S19 1 (220 + 4 * (cn (S15 1 10)) - 4 + 2)) = 0 then (let S21 : Sv := p_X7_end S19 (cn (S15 1 (220 + 4 * (cn (S15 1 10)) - 4))); S21) else S19))))
  let S24 : Sv := (itN (q_X7_pass_232 S) (cn (S 1 8)) (S22))
  let S27 : Sv := us S24 1 7 ((S24 1 7) + 1)
  S27

theorem pm_keep {S : Sv} {t : Nat} (ht : t ≤ 6) (hq : ∀ q, q < t → Bn (S 1 (260 + 3 * q)) 11) : ∀ n, n ≤ t → ∀ p k, ¬ (p = 1 ∧ 20 ≤ k ∧ k < 212) → (∀ j, j < 6 → ¬ (p = 1 ∧ k = 262 + 3 * j)) → itN (q_X7_pass_4 S) n S p k = S p k := by
  intro n
  induction n with
  | zero => intro _ p k _ _; rfl
  | succ n ih =>
    intro hn p k hp hk
    rw [itN_s]
    have h0 := ih (by omega) p k hp hk
    have hb := (hq n (by omega)).2
    have hk6 := hk n (by omega)
    unfold q_X7_pass_4
    dsimp only
    split
    · exact h0
    · rw [us_ne _ _ (by omega), fr_edge (by omega)]
      exact h0
theorem pg_keep {S S2 : Sv} : ∀ n, n ≤ 12 → ∀ p k, ¬ (p = 1 ∧ 20 ≤ k ∧ k < 212) → itN (q_X7_pass_232 S) n S2 p k = S2 p k := by
  intro n
  induction n with
  | zero => intro _ p k _; rfl
  | succ n ih =>
    intro hn p k hp
    rw [itN_s]
    unfold q_X7_pass_232
    dsimp only
    rw [fr_book (by omega)]
    exact ih (by omega) p k hp

set_option maxHeartbeats 4000000 in
set_option maxRecDepth 100000 in
theorem c_X7_pass (l : Launch) (E : mE) (μ : Mu) (S : Sv) (hn : Bn (S 1 8) 12) (ht : Bn (S 1 9) 6) (hq : ∀ q, q < cn (S 1 9) → Bn (S 1 (260 + 3 * q)) 11) (hwn : WN S) (hdp : S 1 3 ≤ 8) : CtV l E yX7_pass cX7_pass 4 4 91 [.ref (ea E 13 0)] (fo μ 13 S) (fun μ' => μ' = fo μ 13 (p_X7_pass S)) := by
  refine jMet (by decide +kernel) (Nat.le_of_ble_eq_true rfl) ?_
  intro p e s m below meth c ls F hT hr0 hlk hW hl
  have F : CallFix p m c cX7_pass 4 s _ TB RX7 := F
  have hl : lv_has ls 4 [(0, .ref (ea E 13 0))] := hl
  have hn2 := hn.2
  have ht2 := ht.2
  have hd2 := hwn.1.2
  refine lv_sipush (v := 260) F.1 F.2.1 dX7_pass_0 (by decide) ?_
  refine lv_istore_n (lv' := [(1, .int 260), (0, .ref (ea E 13 0))]) F.1 F.2.1 dX7_pass_3 rfl hl (by decide) rfl (fun ls hl => ?_)
  have hL2 : ∀ (fu j : Nat) (S1 : Sv) (H : Heap) (locs : List Loc) (ls : Array Slot), j + fu = cn (S 1 9) → (S1) = itN (q_X7_pass_4 S) j (S) → Wd E s H locs (fo μ 13 S1) → lv_has ls 4 [(1, .int (nI (260 + 3 * j))), (0, .ref (ea E 13 0))] → W p l e (rmO 4 91) s m ([.ref (ea E 13 0)] : List Value).toArray below meth c H locs 0 0 (MQ below (va_Qv (fun μ' => μ' = fo μ 13 (p_X7_pass S)) (fun μ' t => MB E μ' t.heap) (AA E)) ([.ref (ea E 13 0)] : List Value).toArray s 0 0 (AA E)) (F0 m 4 ls []) := by
    intro fu
    induction fu with
    | zero =>
      intro j S1 H locs ls hj hs  hW hl
      obtain rfl : j = cn (S 1 9) := by omega
      have eS1 := hs
      have kk := pm_keep ht2 hq (cn (S 1 9)) (Nat.le_refl _) 1
      rw [← hs] at kk
      have k9 := kk 9 (by omega) (by omega)
      have k8 := kk 8 (by omega) (by omega)
      have k10 := kk 10 (by omega) (by omega)
      have k3 := kk 3 (by omega) (by omega)
      have hn1 : Bn (S1 1 8) 12 := k8.symm ▸ hn
      have hwn1 : WN S1 := ⟨k10.symm ▸ hwn.1, fun q hqq => by rw [k10] at hqq; rw [kk (220 + 4 * q) (by omega) (by omega)]; exact hwn.2 q hqq⟩
      refine lv_iload_n F.1 F.2.1 dX7_pass_4 rfl (lv_at hl 0 rfl) ?_
      refine lv_sipush (v := 260) F.1 F.2.1 dX7_pass_5 (by decide) ?_
      refine lv_iconst (v := 3) F.1 F.2.1 dX7_pass_8 (by decide) ?_
      refine lv_aload_n F.1 F.2.1 dX7_pass_9 rfl (lv_at hl 1 rfl) ?_
      refine jgetR F hT hW fw_X7_7 oM0 (by decide) rfl dX7_pass_10 ?_
      refine lv_bipush (v := 9) F.1 F.2.1 dX7_pass_13 (by decide) ?_
      refine jiald F hT hW 9 oM1 (by omega) (by decide) (lI 9) rfl dX7_pass_15 ?_
      refine lv_imul F.1 F.2.1 dX7_pass_16 ?_
      refine lv_iadd F.1 F.2.1 dX7_pass_17 ?_
      refine lv_icmp_ge (tgt := 75) F.1 F.2.1 dX7_pass_18 (by decide) (fun h3 => ?_) (fun h3 => ?_)
      · refine lv_aload_n F.1 F.2.1 dX7_pass_75 rfl (lv_at hl 1 rfl) ?_
        refine jcip (jrunV (As := []) (rest := []) F hT hW yc_X7_found yv_X7_found ml_X7_89 oM0 (by decide) rfl (c_X7_found l E μ S1 hn1 hwn1.1) rfl hl.1 ⟨Nat.le_of_ble_eq_true rfl, Nat.le_of_ble_eq_true rfl⟩ rfl (Nat.le_of_ble_eq_true rfl) ⟨Nat.le_refl _, Nat.le_refl _⟩ dX7_pass_76) hW (fun x4 H locs ex4 hW => ?_)
        have hfx : Fdx2 x4 := by rw [ex4]; exact fm_res hn1
        refine lv_istore_n (lv' := [(1, .int x4), (0, .ref (ea E 13 0))]) F.1 F.2.1 dX7_pass_79 rfl hl (by decide) rfl (fun ls hl => ?_)
        refine lv_iload_n F.1 F.2.1 dX7_pass_80 rfl (lv_at hl 0 rfl) ?_
        have hJ8 : ∀ (v7 : Int32) (H : Heap) (locs : List Loc) (ls : Array Slot), v7 = (if x4 < 0 then 0 else (if (S1 1 3) ≤ (S1 1 10) then 0 else 1)) → Wd E s H locs (fo μ 13 S1) → lv_has ls 4 [(1, .int x4), (0, .ref (ea E 13 0))] → W p l e (rmO 4 91) s m ([.ref (ea E 13 0)] : List Value).toArray below meth c H locs 0 0 (MQ below (va_Qv (fun μ' => μ' = fo μ 13 (p_X7_pass S)) (fun μ' t => MB E μ' t.heap) (AA E)) ([.ref (ea E 13 0)] : List Value).toArray s 0 0 (AA E)) (F0 m 105 ls [.int v7]) := by
          intro v7 H locs ls ev7 hW hl
          refine lv_istore_n (lv' := [(2, .int v7), (1, .int x4), (0, .ref (ea E 13 0))]) F.1 F.2.1 dX7_pass_105 rfl hl (by decide) rfl (fun ls hl => ?_)
          refine lv_iload_n F.1 F.2.1 dX7_pass_106 rfl (lv_at hl 0 rfl) ?_
          have hJ16 : ∀ (S15 : Sv) (H : Heap) (locs : List Loc) (ls : Array Slot), S15 = (if v7 = 0 then S1 else (if (S1 1 10) = 0 then (let S11 : Sv := p_X7_begin S1 (cn x4); S11) else (let x12 : Int32 := p_X7_present S1 (cn x4); (if x12 < ((S1 1 (220 + 4 * (cn (S 1 10)) - 3)) + (S1 1 2)) then S1 else (let S14 : Sv := p_X7_begin S1 (cn x4); S14))))) → Wd E s H locs (fo μ 13 S15) → lv_has ls 4 [(2, .int v7), (1, .int x4), (0, .ref (ea E 13 0))] → W p l e (rmO 4 91) s m ([.ref (ea E 13 0)] : List Value).toArray below meth c H locs 0 0 (MQ below (va_Qv (fun μ' => μ' = fo μ 13 (p_X7_pass S)) (fun μ' t => MB E μ' t.heap) (AA E)) ([.ref (ea E 13 0)] : List Value).toArray s 0 0 (AA E)) (F0 m 160 ls []) := by
            intro S15 H locs ls eS15 hW hl
            have hwj : WN S15 := by
              rw [eS15]
              by_cases hv0 : v7 = 0
              · rw [if_pos hv0]; exact hwn1
              · rw [if_neg hv0]
                obtain ⟨hx0, hdd⟩ := can_sp (by assumption) hv0
                have hbx := fx_ge hfx hx0
                have hd8 := lt_of_room hwn1.1 (k3.symm ▸ hdp) hdd
                dsimp only
                repeat' split
                all_goals first | exact hwn1 | exact wn_begin hwn1 (Nat.lt_of_le_of_lt hbx.2 (by decide)) hd8
            have k8j : S15 1 8 = S 1 8 := by
              rw [eS15]
              by_cases hv0 : v7 = 0
              · rw [if_pos hv0]; exact k8
              · rw [if_neg hv0]
                dsimp only
                repeat' split
                all_goals first | exact k8 | (rw [fr_begin (by omega) (by omega) (by omega)]; exact k8)
            have hwj2 := hwj.1.2
            refine lv_aload_n F.1 F.2.1 dX7_pass_160 rfl (lv_at hl 2 rfl) ?_
            refine jgetR F hT hW fw_X7_7 oM0 (by decide) rfl dX7_pass_161 ?_
            refine lv_bipush (v := 10) F.1 F.2.1 dX7_pass_164 (by decide) ?_
            refine jiald F hT hW 10 oM1 (by omega) (by decide) (lI 10) rfl dX7_pass_166 ?_
            have hJ23 : ∀ (S22 : Sv) (H : Heap) (locs : List Loc) (ls : Array Slot), S22 = (if (S15 1 10) ≤ 0 then S15 else (let S18 : Sv := us S15 1 (220 + 4 * (cn (S15 1 10)) - 4 + 2) ((S15 1 (220 + 4 * (cn (S15 1 10)) - 4 + 2)) - 1); (let S19 : Sv := us S18 1 11 ((S18 1 11) + 1); (if (S19 1 (220 + 4 * (cn (S15 1 10)) - 4 + 2)) = 0 then (let S21 : Sv := p_X7_end S19 (cn (S15 1 (220 + 4 * (cn (S15 1 10)) - 4))); S21) else S19)))) → Wd E s H locs (fo μ 13 S22) → lv_has ls 4 [(2, .int v7), (1, .int x4), (0, .ref (ea E 13 0))] → W p l e (rmO 4 91) s m ([.ref (ea E 13 0)] : List Value).toArray below meth c H locs 0 0 (MQ below (va_Qv (fun μ' => μ' = fo μ 13 (p_X7_pass S)) (fun μ' t => MB E μ' t.heap) (AA E)) ([.ref (ea E 13 0)] : List Value).toArray s 0 0 (AA E)) (F0 m 230 ls []) := by
              intro S22 H locs ls eS22 hW hl
              have k8k : S22 1 8 = S 1 8 := by
                rw [eS22]
                dsimp only
                repeat' split
                all_goals first | exact k8j | (rw [us_ne _ _ (by omega), us_ne _ _ (by omega)]; exact k8j) | (rw [fr_end (by omega) (by omega), us_ne _ _ (by omega), us_ne _ _ (by omega)]; exact k8j)
              refine lv_iconst (v := 0) F.1 F.2.1 dX7_pass_230 (by decide) ?_
              refine lv_istore_n (lv' := [(3, .int 0), (2, .int v7), (1, .int x4), (0, .ref (ea E 13 0))]) F.1 F.2.1 dX7_pass_231 rfl hl (by decide) rfl (fun ls hl => ?_)
              have hL25 : ∀ (fu j : Nat) (S24 : Sv) (H : Heap) (locs : List Loc) (ls : Array Slot), j + fu = cn (S 1 8) → (S24) = itN (q_X7_pass_232 S) j (S22) → Wd E s H locs (fo μ 13 S24) → lv_has ls 4 [(3, .int (nI j)), (2, .int v7), (1, .int x4), (0, .ref (ea E 13 0))] → W p l e (rmO 4 91) s m ([.ref (ea E 13 0)] : List Value).toArray below meth c H locs 0 0 (MQ below (va_Qv (fun μ' => μ' = fo μ 13 (p_X7_pass S)) (fun μ' t => MB E μ' t.heap) (AA E)) ([.ref (ea E 13 0)] : List Value).toArray s 0 0 (AA E)) (F0 m 232 ls []) := by
                intro fu
                induction fu with
                | zero =>
                  intro j S24 H locs ls hj hs  hW hl
                  obtain rfl : j = cn (S 1 8) := by omega
                  have eS24 := hs
                  have kg : S24 1 8 = S22 1 8 := by rw [hs]; exact pg_keep _ (by omega) 1 8 (by omega)
                  refine lv_iload_n F.1 F.2.1 dX7_pass_232 rfl (lv_at hl 0 rfl) ?_
                  refine lv_aload_n F.1 F.2.1 dX7_pass_233 rfl (lv_at hl 3 rfl) ?_
                  refine jgetR F hT hW fw_X7_7 oM0 (by decide) rfl dX7_pass_234 ?_
                  refine lv_bipush (v := 8) F.1 F.2.1 dX7_pass_237 (by decide) ?_
                  refine jiald F hT hW 8 oM1 (by omega) (by decide) (lI 8) rfl dX7_pass_239 ?_
                  refine lv_icmp_ge (tgt := 270) F.1 F.2.1 dX7_pass_240 (by decide) (fun h26 => ?_) (fun h26 => ?_)
                  · refine lv_aload_n F.1 F.2.1 dX7_pass_270 rfl (lv_at hl 3 rfl) ?_
                    refine jgetR F hT hW fw_X7_7 oM0 (by decide) rfl dX7_pass_271 ?_
                    refine lv_bipush (v := 7) F.1 F.2.1 dX7_pass_274 (by decide) ?_
                    refine lv_dup2_11 F.1 F.2.1 dX7_pass_276 rfl rfl ?_
                    refine jiald F hT hW 7 oM1 (by omega) (by decide) (lI 7) rfl dX7_pass_277 ?_
                    refine lv_iconst (v := 1) F.1 F.2.1 dX7_pass_278 (by decide) ?_
                    refine lv_iadd F.1 F.2.1 dX7_pass_279 ?_
                    refine jiast F hT hW 7 oM1 (by decide) (by omega) (by decide) (lI 7) rfl dX7_pass_280 (fun S27 H locs eS27 hW => ?_)
                    have hq : S27 = p_X7_pass S := by
                      subst eS27
                      subst eS24
                      subst eS22
                      subst eS15
                      subst ev7
                      subst ex4
                      subst eS1
                      exact (rfl).symm
                    exact jrv F hr0 hlk hW dX7_pass_281 (congrArg (fun z => fo μ 13 z) hq)
                  · exact absurd (c_le (kg.trans (k8k.trans hn.1)) rfl (by omega) (by omega)) h26
                | succ fu ih =>
                  intro j S24 H locs ls hj hs  hW hl
                  have kg : S24 1 8 = S22 1 8 := by rw [hs]; exact pg_keep j (by omega) 1 8 (by omega)
                  refine lv_iload_n F.1 F.2.1 dX7_pass_232 rfl (lv_at hl 0 rfl) ?_
                  refine lv_aload_n F.1 F.2.1 dX7_pass_233 rfl (lv_at hl 3 rfl) ?_
                  refine jgetR F hT hW fw_X7_7 oM0 (by decide) rfl dX7_pass_234 ?_
                  refine lv_bipush (v := 8) F.1 F.2.1 dX7_pass_237 (by decide) ?_
                  refine jiald F hT hW 8 oM1 (by omega) (by decide) (lI 8) rfl dX7_pass_239 ?_
                  refine lv_icmp_ge (tgt := 270) F.1 F.2.1 dX7_pass_240 (by decide) (fun h25 => ?_) (fun h25 => ?_)
                  · exact absurd h25 (c_nle (kg.trans (k8k.trans hn.1)) rfl (by omega) (by omega))
                  · refine lv_aload_n F.1 F.2.1 dX7_pass_243 rfl (lv_at hl 3 rfl) ?_
                    refine lv_iload_n F.1 F.2.1 dX7_pass_244 rfl (lv_at hl 0 rfl) ?_
                    refine lv_bipush (v := 6) F.1 F.2.1 dX7_pass_245 (by decide) ?_
                    refine lv_aload_n F.1 F.2.1 dX7_pass_247 rfl (lv_at hl 3 rfl) ?_
                    refine lv_iload_n F.1 F.2.1 dX7_pass_248 rfl (lv_at hl 0 rfl) ?_
                    refine jcip (jrunV (As := [.int (nI j)]) (rest := [.int 6, .int (nI j), .ref (ea E 13 0)]) F hT hW yc_X7_waits yv_X7_waits ml_X7_69 oM0 (by decide) rfl (c_X7_waits l E μ S24 (nI j) j rfl (by first | assumption | omega)) rfl hl.1 ⟨Nat.le_of_ble_eq_true rfl, Nat.le_of_ble_eq_true rfl⟩ rfl (Nat.le_of_ble_eq_true rfl) ⟨Nat.le_refl _, Nat.le_refl _⟩ dX7_pass_249) hW (fun x26 H locs ex26 hW => ?_)
                    have hJ29 : ∀ (v28 : Int32) (H : Heap) (locs : List Loc) (ls : Array Slot), v28 = (if x26 = 0 then 0 else 1) → Wd E s H locs (fo μ 13 S24) → lv_has ls 4 [(3, .int (nI j)), (2, .int v7), (1, .int x4), (0, .ref (ea E 13 0))] → W p l e (rmO 4 91) s m ([.ref (ea E 13 0)] : List Value).toArray below meth c H locs 0 0 (MQ below (va_Qv (fun μ' => μ' = fo μ 13 (p_X7_pass S)) (fun μ' t => MB E μ' t.heap) (AA E)) ([.ref (ea E 13 0)] : List Value).toArray s 0 0 (AA E)) (F0 m 260 ls [.int v28, .int 6, .int (nI j), .ref (ea E 13 0)]) := by
                      intro v28 H locs ls ev28 hW hl
                      refine lv_iconst (v := 1) F.1 F.2.1 dX7_pass_260 (by decide) ?_
                      refine jcvf (jrunV (As := [.int (nI j), .int 6, .int v28, .int 1]) (rest := []) F hT hW yc_X7_book yv_X7_book ml_X7_65 oM0 (by decide) rfl (c_X7_book l E μ S24 (nI j) j rfl 6 6 (lI 6) v28 1 (by first | assumption | omega) (by first | assumption | omega)) rfl hl.1 ⟨Nat.le_of_ble_eq_true rfl, Nat.le_of_ble_eq_true rfl⟩ rfl (Nat.le_of_ble_eq_true rfl) ⟨Nat.le_refl _, Nat.le_refl _⟩ dX7_pass_261) hW (fun S30 H locs eS30 hW => ?_)
                      refine lv_iinc (v := nI (j + 1)) (lv' := [(3, .int (nI (j + 1))), (2, .int v7), (1, .int x4), (0, .ref (ea E 13 0))]) F.1 F.2.1 dX7_pass_264 hl (k := 0) rfl (ia rfl rfl) (by decide) rfl (fun ls hl => ?_)
                      refine lv_goto (tgt := 232) F.1 F.2.1 dX7_pass_267 (by decide) ?_
                      subst eS30
                      subst ev28
                      subst ex26
                      exact ih (j + 1) _ _ _ _ (by omega) (by rw [itN_s, ← hs]; exact (rfl).symm) hW (lv_sub hl [0, 1, 2, 3] rfl)
                    refine lv_if_eq (tgt := 259) F.1 F.2.1 dX7_pass_252 (by decide) (fun h27 => ?_) (fun h27 => ?_)
                    · refine lv_iconst (v := 0) F.1 F.2.1 dX7_pass_259 (by decide) ?_
                      exact hJ29 _ _ _ _ (if_pos h27).symm hW (lv_sub hl [0, 1, 2, 3] rfl)
                    · refine lv_iconst (v := 1) F.1 F.2.1 dX7_pass_255 (by decide) ?_
                      refine lv_goto (tgt := 260) F.1 F.2.1 dX7_pass_256 (by decide) ?_
                      exact hJ29 _ _ _ _ (if_neg h27).symm hW (lv_sub hl [0, 1, 2, 3] rfl)
              exact hL25 (cn (S 1 8)) 0 S22 _ _ _ (by omega) rfl hW (lv_sub hl [0, 1, 2, 3] rfl)
            refine lv_if_le (tgt := 230) F.1 F.2.1 dX7_pass_167 (by decide) (fun h17 => ?_) (fun h17 => ?_)
            · exact hJ23 _ _ _ _ (if_pos h17).symm hW (lv_sub hl [0, 1, 2] rfl)
            · have hj0 := ntk2 hwj.1 (by assumption)
              refine lv_sipush (v := 220) F.1 F.2.1 dX7_pass_170 (by decide) ?_
              refine lv_iconst (v := 4) F.1 F.2.1 dX7_pass_173 (by decide) ?_
              refine lv_aload_n F.1 F.2.1 dX7_pass_174 rfl (lv_at hl 2 rfl) ?_
              refine jgetR F hT hW fw_X7_7 oM0 (by decide) rfl dX7_pass_175 ?_
              refine lv_bipush (v := 10) F.1 F.2.1 dX7_pass_178 (by decide) ?_
              refine jiald F hT hW 10 oM1 (by omega) (by decide) (lI 10) rfl dX7_pass_180 ?_
              refine lv_imul F.1 F.2.1 dX7_pass_181 ?_
              refine lv_iadd F.1 F.2.1 dX7_pass_182 ?_
              refine lv_iconst (v := 4) F.1 F.2.1 dX7_pass_183 (by decide) ?_
              refine lv_isub F.1 F.2.1 dX7_pass_184 ?_
              refine lv_istore_n (lv' := [(3, .int ((220 + (4 * (S15 1 10))) - 4)), (2, .int v7), (1, .int x4), (0, .ref (ea E 13 0))]) F.1 F.2.1 dX7_pass_185 rfl hl (by decide) rfl (fun ls hl => ?_)
              refine lv_aload_n F.1 F.2.1 dX7_pass_186 rfl (lv_at hl 3 rfl) ?_
              refine jgetR F hT hW fw_X7_7 oM0 (by decide) rfl dX7_pass_187 ?_
              refine lv_iload_n F.1 F.2.1 dX7_pass_190 rfl (lv_at hl 0 rfl) ?_
              refine lv_iconst (v := 2) F.1 F.2.1 dX7_pass_191 (by decide) ?_
              refine lv_iadd F.1 F.2.1 dX7_pass_192 ?_
              refine lv_dup2_11 F.1 F.2.1 dX7_pass_193 rfl rfl ?_
              refine jiald F hT hW (220 + 4 * (cn (S15 1 10)) - 4 + 2) oM1 (by omega) (by decide) (ia (isb (ia (lI 220) (im (lI 4) hwj.1.1)) (lI 4) (by omega)) (lI 2)) rfl dX7_pass_194 ?_
              refine lv_iconst (v := 1) F.1 F.2.1 dX7_pass_195 (by decide) ?_
              refine lv_isub F.1 F.2.1 dX7_pass_196 ?_
              refine jiast F hT hW (220 + 4 * (cn (S15 1 10)) - 4 + 2) oM1 (by decide) (by omega) (by decide) (ia (isb (ia (lI 220) (im (lI 4) hwj.1.1)) (lI 4) (by omega)) (lI 2)) rfl dX7_pass_197 (fun S18 H locs eS18 hW => ?_)
              refine lv_aload_n F.1 F.2.1 dX7_pass_198 rfl (lv_at hl 3 rfl) ?_
              refine jgetR F hT hW fw_X7_7 oM0 (by decide) rfl dX7_pass_199 ?_
              refine lv_bipush (v := 11) F.1 F.2.1 dX7_pass_202 (by decide) ?_
              refine lv_dup2_11 F.1 F.2.1 dX7_pass_204 rfl rfl ?_
              refine jiald F hT hW 11 oM1 (by omega) (by decide) (lI 11) rfl dX7_pass_205 ?_
              refine lv_iconst (v := 1) F.1 F.2.1 dX7_pass_206 (by decide) ?_
              refine lv_iadd F.1 F.2.1 dX7_pass_207 ?_
              refine jiast F hT hW 11 oM1 (by decide) (by omega) (by decide) (lI 11) rfl dX7_pass_208 (fun S19 H locs eS19 hW => ?_)
              refine lv_aload_n F.1 F.2.1 dX7_pass_209 rfl (lv_at hl 3 rfl) ?_
              refine jgetR F hT hW fw_X7_7 oM0 (by decide) rfl dX7_pass_210 ?_
              refine lv_iload_n F.1 F.2.1 dX7_pass_213 rfl (lv_at hl 0 rfl) ?_
              refine lv_iconst (v := 2) F.1 F.2.1 dX7_pass_214 (by decide) ?_
              refine lv_iadd F.1 F.2.1 dX7_pass_215 ?_
              refine jiald F hT hW (220 + 4 * (cn (S15 1 10)) - 4 + 2) oM1 (by omega) (by decide) (ia (isb (ia (lI 220) (im (lI 4) hwj.1.1)) (lI 4) (by omega)) (lI 2)) rfl dX7_pass_216 ?_
              refine lv_if_ne (tgt := 230) F.1 F.2.1 dX7_pass_217 (by decide) (fun h20 => ?_) (fun h20 => ?_)
              · subst eS19
                subst eS18
                exact hJ23 _ _ _ _ ((if_neg h17).trans (if_neg h20)).symm hW (lv_sub hl [1, 2, 3] rfl)
              · have ht0 : S19 1 (220 + 4 * (cn (S15 1 10)) - 4) = S15 1 (220 + 4 * (cn (S15 1 10)) - 4) := by rw [eS19, us_ne _ _ (by omega), eS18, us_ne _ _ (by omega)]
                have hdt : S19 1 10 = S15 1 10 := by rw [eS19, us_ne _ _ (by omega), eS18, us_ne _ _ (by omega)]
                have hbn := hwj.2 (cn (S15 1 10) - 1) (by omega)
                rw [show 220 + 4 * (cn (S15 1 10) - 1) = 220 + 4 * cn (S15 1 10) - 4 by omega] at hbn
                have hb12 := hbn.2
                refine lv_aload_n F.1 F.2.1 dX7_pass_220 rfl (lv_at hl 3 rfl) ?_
                refine lv_aload_n F.1 F.2.1 dX7_pass_221 rfl (lv_at hl 3 rfl) ?_
                refine jgetR F hT hW fw_X7_7 oM0 (by decide) rfl dX7_pass_222 ?_
                refine lv_iload_n F.1 F.2.1 dX7_pass_225 rfl (lv_at hl 0 rfl) ?_
                refine jiald F hT hW (220 + 4 * (cn (S15 1 10)) - 4) oM1 (by omega) (by decide) (isb (ia (lI 220) (im (lI 4) hwj.1.1)) (lI 4) (by omega)) rfl dX7_pass_226 ?_
                refine jcvf (jrunV (As := [.int (S19 1 (220 + 4 * (cn (S15 1 10)) - 4))]) (rest := []) F hT hW yc_X7_end yv_X7_end ml_X7_96 oM0 (by decide) rfl (c_X7_end l E μ S19 (S19 1 (220 + 4 * (cn (S15 1 10)) - 4)) (cn (S15 1 (220 + 4 * (cn (S15 1 10)) - 4))) (ht0.trans hbn.1) (by omega) (by rw [hdt]; exact hwj.1) (by rw [hdt]; exact hj0)) rfl hl.1 ⟨Nat.le_of_ble_eq_true rfl, Nat.le_of_ble_eq_true rfl⟩ rfl (Nat.le_of_ble_eq_true rfl) ⟨Nat.le_refl _, Nat.le_refl _⟩ dX7_pass_227) hW (fun S21 H locs eS21 hW => ?_)
                subst eS21
                subst eS19
                subst eS18
                exact hJ23 _ _ _ _ ((if_neg h17).trans (if_pos h20)).symm hW (lv_sub hl [1, 2, 3] rfl)
          refine lv_if_eq (tgt := 160) F.1 F.2.1 dX7_pass_107 (by decide) (fun h9 => ?_) (fun h9 => ?_)
          · exact hJ16 _ _ _ _ (if_pos h9).symm hW (lv_sub hl [0, 1, 2] rfl)
          · obtain ⟨hx0, hdd⟩ := can_sp (by assumption) (by assumption)
            have hbx := fx_ge hfx hx0
            have hb11 := hbx.2
            have hd8 := lt_of_room hwn1.1 (k3.symm ▸ hdp) hdd
            rw [k10] at hd8
            refine lv_aload_n F.1 F.2.1 dX7_pass_110 rfl (lv_at hl 2 rfl) ?_
            refine jgetR F hT hW fw_X7_7 oM0 (by decide) rfl dX7_pass_111 ?_
            refine lv_bipush (v := 10) F.1 F.2.1 dX7_pass_114 (by decide) ?_
            refine jiald F hT hW 10 oM1 (by omega) (by decide) (lI 10) rfl dX7_pass_116 ?_
            refine lv_if_eq (tgt := 155) F.1 F.2.1 dX7_pass_117 (by decide) (fun h10 => ?_) (fun h10 => ?_)
            · refine lv_aload_n F.1 F.2.1 dX7_pass_155 rfl (lv_at hl 2 rfl) ?_
              refine lv_iload_n F.1 F.2.1 dX7_pass_156 rfl (lv_at hl 1 rfl) ?_
              refine jcvf (jrunV (As := [.int x4]) (rest := []) F hT hW yc_X7_begin yv_X7_begin ml_X7_93 oM0 (by decide) rfl (c_X7_begin l E μ S1 x4 (cn x4) hbx.1 (by omega) hwn1.1 (by rw [k10]; exact hd8)) rfl hl.1 ⟨Nat.le_of_ble_eq_true rfl, Nat.le_of_ble_eq_true rfl⟩ rfl (Nat.le_of_ble_eq_true rfl) ⟨Nat.le_refl _, Nat.le_refl _⟩ dX7_pass_157) hW (fun S11 H locs eS11 hW => ?_)
              subst eS11
              exact hJ16 _ _ _ _ ((if_neg h9).trans (if_pos h10)).symm hW (lv_sub hl [0, 1, 2] rfl)
            · have hd0 := ntk hwn.1 (by rw [← k10]; assumption)
              refine lv_aload_n F.1 F.2.1 dX7_pass_120 rfl (lv_at hl 2 rfl) ?_
              refine lv_iload_n F.1 F.2.1 dX7_pass_121 rfl (lv_at hl 1 rfl) ?_
              refine jcip (jrunV (As := [.int x4]) (rest := []) F hT hW yc_X7_present yv_X7_present ml_X7_86 oM0 (by decide) rfl (c_X7_present l E μ S1 x4 (cn x4) hbx.1 (by omega)) rfl hl.1 ⟨Nat.le_of_ble_eq_true rfl, Nat.le_of_ble_eq_true rfl⟩ rfl (Nat.le_of_ble_eq_true rfl) ⟨Nat.le_refl _, Nat.le_refl _⟩ dX7_pass_122) hW (fun x12 H locs ex12 hW => ?_)
              refine lv_aload_n F.1 F.2.1 dX7_pass_125 rfl (lv_at hl 2 rfl) ?_
              refine jgetR F hT hW fw_X7_7 oM0 (by decide) rfl dX7_pass_126 ?_
              refine lv_sipush (v := 220) F.1 F.2.1 dX7_pass_129 (by decide) ?_
              refine lv_iconst (v := 4) F.1 F.2.1 dX7_pass_132 (by decide) ?_
              refine lv_aload_n F.1 F.2.1 dX7_pass_133 rfl (lv_at hl 2 rfl) ?_
              refine jgetR F hT hW fw_X7_7 oM0 (by decide) rfl dX7_pass_134 ?_
              refine lv_bipush (v := 10) F.1 F.2.1 dX7_pass_137 (by decide) ?_
              refine jiald F hT hW 10 oM1 (by omega) (by decide) (lI 10) rfl dX7_pass_139 ?_
              refine lv_imul F.1 F.2.1 dX7_pass_140 ?_
              refine lv_iadd F.1 F.2.1 dX7_pass_141 ?_
              refine lv_iconst (v := 3) F.1 F.2.1 dX7_pass_142 (by decide) ?_
              refine lv_isub F.1 F.2.1 dX7_pass_143 ?_
              refine jiald F hT hW (220 + 4 * (cn (S 1 10)) - 3) oM1 (by omega) (by decide) (isb (ia (lI 220) (im (lI 4) (k10.trans hwn.1.1))) (lI 3) (by omega)) rfl dX7_pass_144 ?_
              refine lv_aload_n F.1 F.2.1 dX7_pass_145 rfl (lv_at hl 2 rfl) ?_
              refine jgetR F hT hW fw_X7_7 oM0 (by decide) rfl dX7_pass_146 ?_
              refine lv_iconst (v := 2) F.1 F.2.1 dX7_pass_149 (by decide) ?_
              refine jiald F hT hW 2 oM1 (by omega) (by decide) (lI 2) rfl dX7_pass_150 ?_
              refine lv_iadd F.1 F.2.1 dX7_pass_151 ?_
              refine lv_icmp_lt (tgt := 160) F.1 F.2.1 dX7_pass_152 (by decide) (fun h13 => ?_) (fun h13 => ?_)
              · subst ex12
                exact hJ16 _ _ _ _ ((if_neg h9).trans ((if_neg h10).trans (if_pos h13))).symm hW (lv_sub hl [0, 1, 2] rfl)
              · refine lv_aload_n F.1 F.2.1 dX7_pass_155 rfl (lv_at hl 2 rfl) ?_
                refine lv_iload_n F.1 F.2.1 dX7_pass_156 rfl (lv_at hl 1 rfl) ?_
                refine jcvf (jrunV (As := [.int x4]) (rest := []) F hT hW yc_X7_begin yv_X7_begin ml_X7_93 oM0 (by decide) rfl (c_X7_begin l E μ S1 x4 (cn x4) hbx.1 (by omega) hwn1.1 (by rw [k10]; exact hd8)) rfl hl.1 ⟨Nat.le_of_ble_eq_true rfl, Nat.le_of_ble_eq_true rfl⟩ rfl (Nat.le_of_ble_eq_true rfl) ⟨Nat.le_refl _, Nat.le_refl _⟩ dX7_pass_157) hW (fun S14 H locs eS14 hW => ?_)
                subst eS14
                subst ex12
                exact hJ16 _ _ _ _ ((if_neg h9).trans ((if_neg h10).trans (if_neg h13))).symm hW (lv_sub hl [0, 1, 2] rfl)
        refine lv_if_lt (tgt := 104) F.1 F.2.1 dX7_pass_81 (by decide) (fun h5 => ?_) (fun h5 => ?_)
        · refine lv_iconst (v := 0) F.1 F.2.1 dX7_pass_104 (by decide) ?_
          exact hJ8 _ _ _ _ (if_pos h5).symm hW (lv_sub hl [0, 1] rfl)
        · refine lv_aload_n F.1 F.2.1 dX7_pass_84 rfl (lv_at hl 1 rfl) ?_
          refine jgetR F hT hW fw_X7_7 oM0 (by decide) rfl dX7_pass_85 ?_
          refine lv_bipush (v := 10) F.1 F.2.1 dX7_pass_88 (by decide) ?_
          refine jiald F hT hW 10 oM1 (by omega) (by decide) (lI 10) rfl dX7_pass_90 ?_
          refine lv_aload_n F.1 F.2.1 dX7_pass_91 rfl (lv_at hl 1 rfl) ?_
          refine jgetR F hT hW fw_X7_7 oM0 (by decide) rfl dX7_pass_92 ?_
          refine lv_iconst (v := 3) F.1 F.2.1 dX7_pass_95 (by decide) ?_
          refine jiald F hT hW 3 oM1 (by omega) (by decide) (lI 3) rfl dX7_pass_96 ?_
          refine lv_icmp_ge (tgt := 104) F.1 F.2.1 dX7_pass_97 (by decide) (fun h6 => ?_) (fun h6 => ?_)
          · refine lv_iconst (v := 0) F.1 F.2.1 dX7_pass_104 (by decide) ?_
            exact hJ8 _ _ _ _ ((if_neg h5).trans (if_pos h6)).symm hW (lv_sub hl [0, 1] rfl)
          · refine lv_iconst (v := 1) F.1 F.2.1 dX7_pass_100 (by decide) ?_
            refine lv_goto (tgt := 105) F.1 F.2.1 dX7_pass_101 (by decide) ?_
            exact hJ8 _ _ _ _ ((if_neg h5).trans (if_neg h6)).symm hW (lv_sub hl [0, 1] rfl)
      · exact absurd (c_le (ia (lI 260) (im (lI 3) (k9.trans ht.1))) rfl (by omega) (by omega)) h3
    | succ fu ih =>
      intro j S1 H locs ls hj hs  hW hl
      have k9 := pm_keep ht2 hq j (by omega) 1 9 (by omega) (by omega)
      rw [← hs] at k9
      have kj := pm_keep ht2 hq j (by omega) 1 (260 + 3 * j) (by omega) (by omega)
      rw [← hs] at kj
      have hl6 := (hq j (by omega)).2
      refine lv_iload_n F.1 F.2.1 dX7_pass_4 rfl (lv_at hl 0 rfl) ?_
      refine lv_sipush (v := 260) F.1 F.2.1 dX7_pass_5 (by decide) ?_
      refine lv_iconst (v := 3) F.1 F.2.1 dX7_pass_8 (by decide) ?_
      refine lv_aload_n F.1 F.2.1 dX7_pass_9 rfl (lv_at hl 1 rfl) ?_
      refine jgetR F hT hW fw_X7_7 oM0 (by decide) rfl dX7_pass_10 ?_
      refine lv_bipush (v := 9) F.1 F.2.1 dX7_pass_13 (by decide) ?_
      refine jiald F hT hW 9 oM1 (by omega) (by decide) (lI 9) rfl dX7_pass_15 ?_
      refine lv_imul F.1 F.2.1 dX7_pass_16 ?_
      refine lv_iadd F.1 F.2.1 dX7_pass_17 ?_
      refine lv_icmp_ge (tgt := 75) F.1 F.2.1 dX7_pass_18 (by decide) (fun h2 => ?_) (fun h2 => ?_)
      · exact absurd h2 (c_nle (ia (lI 260) (im (lI 3) (k9.trans ht.1))) rfl (by omega) (by omega))
      · refine lv_aload_n F.1 F.2.1 dX7_pass_21 rfl (lv_at hl 1 rfl) ?_
        refine jgetR F hT hW fw_X7_7 oM0 (by decide) rfl dX7_pass_22 ?_
        refine lv_iload_n F.1 F.2.1 dX7_pass_25 rfl (lv_at hl 0 rfl) ?_
        refine lv_iconst (v := 2) F.1 F.2.1 dX7_pass_26 (by decide) ?_
        refine lv_iadd F.1 F.2.1 dX7_pass_27 ?_
        refine jiald F hT hW (260 + 3 * j + 2) oM1 (by omega) (by decide) (ia rfl (lI 2)) rfl dX7_pass_28 ?_
        refine lv_aload_n F.1 F.2.1 dX7_pass_29 rfl (lv_at hl 1 rfl) ?_
        refine jgetR F hT hW fw_X7_7 oM0 (by decide) rfl dX7_pass_30 ?_
        refine lv_bipush (v := 7) F.1 F.2.1 dX7_pass_33 (by decide) ?_
        refine jiald F hT hW 7 oM1 (by omega) (by decide) (lI 7) rfl dX7_pass_35 ?_
        have hJ8 : ∀ (S7 : Sv) (H : Heap) (locs : List Loc) (ls : Array Slot), S7 = (if (S1 1 7) < (S1 1 (260 + 3 * j + 2)) then S1 else (let x4 : Int32 := (p_X7_edge S1 (cn (S 1 (260 + 3 * j)))).1; (let S5 : Sv := (p_X7_edge S1 (cn (S 1 (260 + 3 * j)))).2; (let S6 : Sv := us S5 1 (260 + 3 * j + 2) ((S5 1 (260 + 3 * j + 2)) + (S5 1 (260 + 3 * j + 1))); S6)))) → Wd E s H locs (fo μ 13 S7) → lv_has ls 4 [(1, .int (nI (260 + 3 * j))), (0, .ref (ea E 13 0))] → W p l e (rmO 4 91) s m ([.ref (ea E 13 0)] : List Value).toArray below meth c H locs 0 0 (MQ below (va_Qv (fun μ' => μ' = fo μ 13 (p_X7_pass S)) (fun μ' t => MB E μ' t.heap) (AA E)) ([.ref (ea E 13 0)] : List Value).toArray s 0 0 (AA E)) (F0 m 69 ls []) := by
          intro S7 H locs ls eS7 hW hl
          refine lv_iinc (v := nI (260 + 3 * j + 3)) (lv' := [(1, .int (nI (260 + 3 * j + 3))), (0, .ref (ea E 13 0))]) F.1 F.2.1 dX7_pass_69 hl (k := 0) rfl (ia rfl rfl) (by decide) rfl (fun ls hl => ?_)
          refine lv_goto (tgt := 4) F.1 F.2.1 dX7_pass_72 (by decide) ?_
          subst eS7
          exact ih (j + 1) _ _ _ _ (by omega) (by rw [itN_s, ← hs]; exact (rfl).symm) hW (lv_sub hl [0, 1] rfl)
        refine lv_icmp_gt (tgt := 69) F.1 F.2.1 dX7_pass_36 (by decide) (fun h3 => ?_) (fun h3 => ?_)
        · exact hJ8 _ _ _ _ (if_pos h3).symm hW (lv_sub hl [0, 1] rfl)
        · refine lv_aload_n F.1 F.2.1 dX7_pass_39 rfl (lv_at hl 1 rfl) ?_
          refine lv_aload_n F.1 F.2.1 dX7_pass_40 rfl (lv_at hl 1 rfl) ?_
          refine jgetR F hT hW fw_X7_7 oM0 (by decide) rfl dX7_pass_41 ?_
          refine lv_iload_n F.1 F.2.1 dX7_pass_44 rfl (lv_at hl 0 rfl) ?_
          refine jiald F hT hW (260 + 3 * j) oM1 (by omega) (by decide) rfl rfl dX7_pass_45 ?_
          refine jcif (jrunV (As := [.int (S1 1 (260 + 3 * j))]) (rest := []) F hT hW yc_X7_edge yv_X7_edge ml_X7_76 oM0 (by decide) rfl (c_X7_edge l E μ S1 (S1 1 (260 + 3 * j)) (cn (S 1 (260 + 3 * j))) (kj.trans (hq j (by omega)).1) (by first | assumption | omega)) rfl hl.1 ⟨Nat.le_of_ble_eq_true rfl, Nat.le_of_ble_eq_true rfl⟩ rfl (Nat.le_of_ble_eq_true rfl) ⟨Nat.le_refl _, Nat.le_refl _⟩ dX7_pass_46) hW (fun x4 S5 H locs ex4 eS5 hW => ?_)
          refine lv_pop F.1 F.2.1 dX7_pass_49 rfl ?_
          refine lv_aload_n F.1 F.2.1 dX7_pass_50 rfl (lv_at hl 1 rfl) ?_
          refine jgetR F hT hW fw_X7_7 oM0 (by decide) rfl dX7_pass_51 ?_
          refine lv_iload_n F.1 F.2.1 dX7_pass_54 rfl (lv_at hl 0 rfl) ?_
          refine lv_iconst (v := 2) F.1 F.2.1 dX7_pass_55 (by decide) ?_
          refine lv_iadd F.1 F.2.1 dX7_pass_56 ?_
          refine lv_dup2_11 F.1 F.2.1 dX7_pass_57 rfl rfl ?_
          refine jiald F hT hW (260 + 3 * j + 2) oM1 (by omega) (by decide) (ia rfl (lI 2)) rfl dX7_pass_58 ?_
          refine lv_aload_n F.1 F.2.1 dX7_pass_59 rfl (lv_at hl 1 rfl) ?_
          refine jgetR F hT hW fw_X7_7 oM0 (by decide) rfl dX7_pass_60 ?_
          refine lv_iload_n F.1 F.2.1 dX7_pass_63 rfl (lv_at hl 0 rfl) ?_
          refine lv_iconst (v := 1) F.1 F.2.1 dX7_pass_64 (by decide) ?_
          refine lv_iadd F.1 F.2.1 dX7_pass_65 ?_
          refine jiald F hT hW (260 + 3 * j + 1) oM1 (by omega) (by decide) (ia rfl (lI 1)) rfl dX7_pass_66 ?_
          refine lv_iadd F.1 F.2.1 dX7_pass_67 ?_
          refine jiast F hT hW (260 + 3 * j + 2) oM1 (by decide) (by omega) (by decide) (ia rfl (lI 2)) rfl dX7_pass_68 (fun S6 H locs eS6 hW => ?_)
          subst eS6
          subst eS5
          subst ex4
          exact hJ8 _ _ _ _ (if_neg h3).symm hW (lv_sub hl [0, 1] rfl)
  exact hL2 (cn (S 1 9)) 0 S _ _ _ (by omega) rfl hW (lv_sub hl [0, 1] rfl)

