/-! the law: isTick, stretch by stretch -/
def q_T1_97 (B A : Sv) (n d t : Nat) (j : Nat) (σ : Sv) : Sv :=
  let S1 : Sv := σ
  let S3 : Sv := us S1 0 j (p_X3_numberOfLine B (nI j) 5)
  let v5 : Int32 := (if (S3 0 j) = 1 then p_X3_numberOfLine B (nI j) 6 else 0)
  let S7 : Sv := us S3 1 j v5
  let S8 : Sv := us S7 3 j (p_X3_numberOfLine B (nI j) 8)
  let S9 : Sv := us S8 2 j (p_X3_numberOfLine B (nI j) 9)
  let S10 : Sv := us S9 4 j (p_X3_numberOfLine B (nI j) 10)
  let S11 : Sv := us S10 5 j (p_X3_numberOfLine B (nI j) 11)
  let S12 : Sv := us S11 6 j (p_X3_numberOfLine B (nI j) 12)
  let S13 : Sv := us S12 7 j (p_X3_numberOfLine B (nI j) 13)
  let S14 : Sv := us S13 8 j (p_X3_numberOfLine B (nI j) 14)
  let S15 : Sv := us S14 9 j (p_X3_numberOfLine B (nI j) 15)
  let S16 : Sv := us S15 10 j (p_X3_numberOfLine B (nI j) 16)
  S16
def q_T1_271 (B A : Sv) (n d t : Nat) (k : Nat) (σ : Sv) : Sv :=
  let S4 : Sv := σ
  let S6 : Sv := us S4 11 k (p_X3_numberOfPlace B (nI k) 0)
  let S7 : Sv := us S6 12 k (p_X3_numberOfPlace B (nI k) 1)
  let S8 : Sv := us S7 13 k (p_X3_numberOfPlace B (nI k) 2)
  S8
def q_T1_354 (B A : Sv) (n d t : Nat) (k2 : Nat) (σ : Sv) : Sv :=
  let S7 : Sv := σ
  let S9 : Sv := us S7 14 k2 (p_X3_numberOfTimer B (nI k2) 2)
  let S24 : Sv := (if (S9 14 k2) = (p_X3_numberOfAll B 0) then (let S11 : Sv := us S9 4 (cn (p_X3_numberOfTimer B (nI k2) 0)) ((S9 4 (cn (p_X3_numberOfTimer B (nI k2) 0))) + 1); (let S21 : Sv := (if (S11 0 (cn (p_X3_numberOfTimer B (nI k2) 0))) = 1 then (let S13 : Sv := us S11 5 (cn (p_X3_numberOfTimer B (nI k2) 0)) ((S11 5 (cn (p_X3_numberOfTimer B (nI k2) 0))) + 1); S13) else (if (p_X3_numberOfLine B (p_X3_numberOfTimer B (nI k2) 0) 4) = 1 then (if (p_X3_numberOfAll B 17) = 0 then (let S20 : Sv := us S11 5 (cn (p_X3_numberOfTimer B (nI k2) 0)) ((S11 5 (cn (p_X3_numberOfTimer B (nI k2) 0))) + 1); S20) else (let S18 : Sv := us S11 0 (cn (p_X3_numberOfTimer B (nI k2) 0)) 1; (let S19 : Sv := us S18 1 (cn (p_X3_numberOfTimer B (nI k2) 0)) 0; S19))) else (let S15 : Sv := us S11 0 (cn (p_X3_numberOfTimer B (nI k2) 0)) 1; (let S16 : Sv := us S15 1 (cn (p_X3_numberOfTimer B (nI k2) 0)) 0; S16)))); (let S23 : Sv := us S21 14 k2 ((S21 14 k2) + (p_X3_numberOfTimer B (nI k2) 1)); S23))) else S9)
  S24
def g_T1 (B A : Sv) (n d t : Nat) : Sv × Int32 × Int32 × Int32 × Int32 × Int32 :=
  let S1 : Sv := (itN (q_T1_97 B A n d t) n (A))
  let S4 : Sv := (itN (q_T1_271 B A n d t) d (S1))
  let S7 : Sv := (itN (q_T1_354 B A n d t) t (S4))
  (S7, p_X3_numberOfAll B 3, p_X3_numberOfAll B 0, p_X3_numberOfAll B 6, p_X3_numberOfAll B 7, p_X3_numberOfAll B 9)
set_option maxHeartbeats 4000000 in
set_option maxRecDepth 100000 in
theorem sg_T1 {p : Program} {l : Launch} {e : Env} {s : State} {m : MethodId} {args : Array Value} {below : List Frame} {meth : Method} {c : Code} {Q : State → Prop} {E : mE} {μ : Mu} {H : Heap} {locs : List Loc} {ls : Array Slot} (F : CallFix p m c cL_isTick 27 s args TB RL) (hT : Stat E s) (B A : Sv) (n d t : Nat) (hE : nlc E = 15) (hB : μ 0 = B) (hc : Wc μ) (hn12 : n ≤ 12) (hd8 : d ≤ 8) (ht6 : t ≤ 6) (hn : p_X3_numberOfAll B 1 = nI n) (hd : p_X3_numberOfAll B 3 = nI d) (ht : p_X3_numberOfAll B 2 = nI t) (hti : ∀ q, q < t → Bn (p_X3_numberOfTimer B (nI q) 0) 11) (hW : Wd E s H locs (fo μ 13 A)) (hl : lv_has ls 27 [(0, .ref (ea E 11 0)), (1, .int (nI n)), (2, .ref (ea E 13 0)), (3, .ref (ea E 13 1)), (4, .ref (ea E 13 2)), (5, .ref (ea E 13 3)), (6, .ref (ea E 13 4)), (7, .ref (ea E 13 5)), (8, .ref (ea E 13 6)), (9, .ref (ea E 13 7)), (10, .ref (ea E 13 8)), (11, .ref (ea E 13 9)), (12, .ref (ea E 13 10)), (13, .ref (ea E 13 11)), (14, .ref (ea E 13 12)), (15, .ref (ea E 13 13)), (16, .ref (ea E 13 14))])
    (kk : ∀ (S' : Sv) (w17 : Int32) (w18 : Int32) (w19 : Int32) (w20 : Int32) (w21 : Int32) (H : Heap) (locs : List Loc) (ls : Array Slot), (S', w17, w18, w19, w20, w21) = g_T1 B A n d t → Wd E s H locs (fo μ 13 S') → lv_has ls 27 [(0, .ref (ea E 11 0)), (1, .int (nI n)), (2, .ref (ea E 13 0)), (3, .ref (ea E 13 1)), (4, .ref (ea E 13 2)), (5, .ref (ea E 13 3)), (6, .ref (ea E 13 4)), (7, .ref (ea E 13 5)), (8, .ref (ea E 13 6)), (9, .ref (ea E 13 7)), (10, .ref (ea E 13 8)), (11, .ref (ea E 13 9)), (12, .ref (ea E 13 10)), (13, .ref (ea E 13 11)), (14, .ref (ea E 13 12)), (15, .ref (ea E 13 13)), (16, .ref (ea E 13 14)), (17, .int w17), (18, .int w18), (19, .int w19), (20, .int w20), (21, .int w21)] → W p l e (rmC 6 136 16 177) s m args below meth c H locs 15 165 Q (F0 m 475 ls [])) : W p l e (rmC 6 136 16 177) s m args below meth c H locs 15 165 Q (F0 m 94 ls []) := by
  refine lv_iconst (v := 0) F.1 F.2.1 dL_isTick_94 (by decide) ?_
  refine lv_istore (lv' := [(17, .int 0), (0, .ref (ea E 11 0)), (1, .int (nI n)), (2, .ref (ea E 13 0)), (3, .ref (ea E 13 1)), (4, .ref (ea E 13 2)), (5, .ref (ea E 13 3)), (6, .ref (ea E 13 4)), (7, .ref (ea E 13 5)), (8, .ref (ea E 13 6)), (9, .ref (ea E 13 7)), (10, .ref (ea E 13 8)), (11, .ref (ea E 13 9)), (12, .ref (ea E 13 10)), (13, .ref (ea E 13 11)), (14, .ref (ea E 13 12)), (15, .ref (ea E 13 13)), (16, .ref (ea E 13 14))]) F.1 F.2.1 dL_isTick_95 hl (by decide) rfl (fun ls hl => ?_)
  have hL2 : ∀ (fu j : Nat) (S1 : Sv) (H : Heap) (locs : List Loc) (ls : Array Slot), j + fu = n → (S1) = itN (q_T1_97 B A n d t) j (A) → Wd E s H locs (fo μ 13 S1) → lv_has ls 27 [(17, .int (nI j)), (0, .ref (ea E 11 0)), (1, .int (nI n)), (2, .ref (ea E 13 0)), (3, .ref (ea E 13 1)), (4, .ref (ea E 13 2)), (5, .ref (ea E 13 3)), (6, .ref (ea E 13 4)), (7, .ref (ea E 13 5)), (8, .ref (ea E 13 6)), (9, .ref (ea E 13 7)), (10, .ref (ea E 13 8)), (11, .ref (ea E 13 9)), (12, .ref (ea E 13 10)), (13, .ref (ea E 13 11)), (14, .ref (ea E 13 12)), (15, .ref (ea E 13 13)), (16, .ref (ea E 13 14))] → W p l e (rmC 6 136 16 177) s m args below meth c H locs 15 165 Q (F0 m 97 ls []) := by
    intro fu
    induction fu with
    | zero =>
      intro j S1 H locs ls hj hs  hW hl
      obtain rfl : n = j := by omega
      have eS1 := hs
      refine lv_iload F.1 F.2.1 dL_isTick_97 (lv_at hl 0 rfl) ?_
      refine lv_iload_n F.1 F.2.1 dL_isTick_99 rfl (lv_at hl 2 rfl) ?_
      refine lv_icmp_ge (tgt := 261) F.1 F.2.1 dL_isTick_100 (by decide) (fun h3 => ?_) (fun h3 => ?_)
      · refine lv_aload_n F.1 F.2.1 dL_isTick_261 rfl (lv_at hl 1 rfl) ?_
        refine lv_iconst (v := 3) F.1 F.2.1 dL_isTick_262 (by decide) ?_
        refine jcir (jrunV (As := [.int 3]) (rest := []) F hT hW yc_X6_count yv_X6_count ml_L_14 oH0 (by decide) rfl (r_count l E (fo μ 13 S1) (hB13 hB) (wc13 hc) 3 (by decide) (by decide)) rfl hl.1 ⟨Nat.le_of_ble_eq_true rfl, Nat.le_of_ble_eq_true rfl⟩ rfl (Nat.le_of_ble_eq_true rfl) ⟨by decide, by decide⟩ dL_isTick_263) hW (fun H locs hW => ?_)
        refine lv_istore (lv' := [(17, .int (p_X3_numberOfAll B 3)), (0, .ref (ea E 11 0)), (1, .int (nI n)), (2, .ref (ea E 13 0)), (3, .ref (ea E 13 1)), (4, .ref (ea E 13 2)), (5, .ref (ea E 13 3)), (6, .ref (ea E 13 4)), (7, .ref (ea E 13 5)), (8, .ref (ea E 13 6)), (9, .ref (ea E 13 7)), (10, .ref (ea E 13 8)), (11, .ref (ea E 13 9)), (12, .ref (ea E 13 10)), (13, .ref (ea E 13 11)), (14, .ref (ea E 13 12)), (15, .ref (ea E 13 13)), (16, .ref (ea E 13 14))]) F.1 F.2.1 dL_isTick_266 hl (by decide) rfl (fun ls hl => ?_)
        refine lv_iconst (v := 0) F.1 F.2.1 dL_isTick_268 (by decide) ?_
        refine lv_istore (lv' := [(18, .int 0), (17, .int (p_X3_numberOfAll B 3)), (0, .ref (ea E 11 0)), (1, .int (nI n)), (2, .ref (ea E 13 0)), (3, .ref (ea E 13 1)), (4, .ref (ea E 13 2)), (5, .ref (ea E 13 3)), (6, .ref (ea E 13 4)), (7, .ref (ea E 13 5)), (8, .ref (ea E 13 6)), (9, .ref (ea E 13 7)), (10, .ref (ea E 13 8)), (11, .ref (ea E 13 9)), (12, .ref (ea E 13 10)), (13, .ref (ea E 13 11)), (14, .ref (ea E 13 12)), (15, .ref (ea E 13 13)), (16, .ref (ea E 13 14))]) F.1 F.2.1 dL_isTick_269 hl (by decide) rfl (fun ls hl => ?_)
        have hL5 : ∀ (fu k : Nat) (S4 : Sv) (H : Heap) (locs : List Loc) (ls : Array Slot), k + fu = d → (S4) = itN (q_T1_271 B A n d t) k (S1) → Wd E s H locs (fo μ 13 S4) → lv_has ls 27 [(18, .int (nI k)), (17, .int (p_X3_numberOfAll B 3)), (0, .ref (ea E 11 0)), (1, .int (nI n)), (2, .ref (ea E 13 0)), (3, .ref (ea E 13 1)), (4, .ref (ea E 13 2)), (5, .ref (ea E 13 3)), (6, .ref (ea E 13 4)), (7, .ref (ea E 13 5)), (8, .ref (ea E 13 6)), (9, .ref (ea E 13 7)), (10, .ref (ea E 13 8)), (11, .ref (ea E 13 9)), (12, .ref (ea E 13 10)), (13, .ref (ea E 13 11)), (14, .ref (ea E 13 12)), (15, .ref (ea E 13 13)), (16, .ref (ea E 13 14))] → W p l e (rmC 6 136 16 177) s m args below meth c H locs 15 165 Q (F0 m 271 ls []) := by
          intro fu
          induction fu with
          | zero =>
            intro k S4 H locs ls hj hs  hW hl
            obtain rfl : d = k := by omega
            have eS4 := hs
            refine lv_iload F.1 F.2.1 dL_isTick_271 (lv_at hl 0 rfl) ?_
            refine lv_iload F.1 F.2.1 dL_isTick_273 (lv_at hl 1 rfl) ?_
            refine lv_icmp_ge (tgt := 320) F.1 F.2.1 dL_isTick_275 (by decide) (fun h6 => ?_) (fun h6 => ?_)
            · refine lv_aload_n F.1 F.2.1 dL_isTick_320 rfl (lv_at hl 2 rfl) ?_
              refine lv_iconst (v := 0) F.1 F.2.1 dL_isTick_321 (by decide) ?_
              refine jcir (jrunV (As := [.int 0]) (rest := []) F hT hW yc_X6_count yv_X6_count ml_L_14 oH0 (by decide) rfl (r_count l E (fo μ 13 S4) (hB13 hB) (wc13 hc) 0 (by decide) (by decide)) rfl hl.1 ⟨Nat.le_of_ble_eq_true rfl, Nat.le_of_ble_eq_true rfl⟩ rfl (Nat.le_of_ble_eq_true rfl) ⟨by decide, by decide⟩ dL_isTick_322) hW (fun H locs hW => ?_)
              refine lv_istore (lv' := [(18, .int (p_X3_numberOfAll B 0)), (17, .int (p_X3_numberOfAll B 3)), (0, .ref (ea E 11 0)), (1, .int (nI n)), (2, .ref (ea E 13 0)), (3, .ref (ea E 13 1)), (4, .ref (ea E 13 2)), (5, .ref (ea E 13 3)), (6, .ref (ea E 13 4)), (7, .ref (ea E 13 5)), (8, .ref (ea E 13 6)), (9, .ref (ea E 13 7)), (10, .ref (ea E 13 8)), (11, .ref (ea E 13 9)), (12, .ref (ea E 13 10)), (13, .ref (ea E 13 11)), (14, .ref (ea E 13 12)), (15, .ref (ea E 13 13)), (16, .ref (ea E 13 14))]) F.1 F.2.1 dL_isTick_325 hl (by decide) rfl (fun ls hl => ?_)
              refine lv_aload_n F.1 F.2.1 dL_isTick_327 rfl (lv_at hl 2 rfl) ?_
              refine lv_bipush (v := 6) F.1 F.2.1 dL_isTick_328 (by decide) ?_
              refine jcir (jrunV (As := [.int 6]) (rest := []) F hT hW yc_X6_count yv_X6_count ml_L_14 oH0 (by decide) rfl (r_count l E (fo μ 13 S4) (hB13 hB) (wc13 hc) 6 (by decide) (by decide)) rfl hl.1 ⟨Nat.le_of_ble_eq_true rfl, Nat.le_of_ble_eq_true rfl⟩ rfl (Nat.le_of_ble_eq_true rfl) ⟨by decide, by decide⟩ dL_isTick_330) hW (fun H locs hW => ?_)
              refine lv_istore (lv' := [(19, .int (p_X3_numberOfAll B 6)), (18, .int (p_X3_numberOfAll B 0)), (17, .int (p_X3_numberOfAll B 3)), (0, .ref (ea E 11 0)), (1, .int (nI n)), (2, .ref (ea E 13 0)), (3, .ref (ea E 13 1)), (4, .ref (ea E 13 2)), (5, .ref (ea E 13 3)), (6, .ref (ea E 13 4)), (7, .ref (ea E 13 5)), (8, .ref (ea E 13 6)), (9, .ref (ea E 13 7)), (10, .ref (ea E 13 8)), (11, .ref (ea E 13 9)), (12, .ref (ea E 13 10)), (13, .ref (ea E 13 11)), (14, .ref (ea E 13 12)), (15, .ref (ea E 13 13)), (16, .ref (ea E 13 14))]) F.1 F.2.1 dL_isTick_333 hl (by decide) rfl (fun ls hl => ?_)
              refine lv_aload_n F.1 F.2.1 dL_isTick_335 rfl (lv_at hl 3 rfl) ?_
              refine lv_bipush (v := 7) F.1 F.2.1 dL_isTick_336 (by decide) ?_
              refine jcir (jrunV (As := [.int 7]) (rest := []) F hT hW yc_X6_count yv_X6_count ml_L_14 oH0 (by decide) rfl (r_count l E (fo μ 13 S4) (hB13 hB) (wc13 hc) 7 (by decide) (by decide)) rfl hl.1 ⟨Nat.le_of_ble_eq_true rfl, Nat.le_of_ble_eq_true rfl⟩ rfl (Nat.le_of_ble_eq_true rfl) ⟨by decide, by decide⟩ dL_isTick_338) hW (fun H locs hW => ?_)
              refine lv_istore (lv' := [(20, .int (p_X3_numberOfAll B 7)), (19, .int (p_X3_numberOfAll B 6)), (18, .int (p_X3_numberOfAll B 0)), (17, .int (p_X3_numberOfAll B 3)), (0, .ref (ea E 11 0)), (1, .int (nI n)), (2, .ref (ea E 13 0)), (3, .ref (ea E 13 1)), (4, .ref (ea E 13 2)), (5, .ref (ea E 13 3)), (6, .ref (ea E 13 4)), (7, .ref (ea E 13 5)), (8, .ref (ea E 13 6)), (9, .ref (ea E 13 7)), (10, .ref (ea E 13 8)), (11, .ref (ea E 13 9)), (12, .ref (ea E 13 10)), (13, .ref (ea E 13 11)), (14, .ref (ea E 13 12)), (15, .ref (ea E 13 13)), (16, .ref (ea E 13 14))]) F.1 F.2.1 dL_isTick_341 hl (by decide) rfl (fun ls hl => ?_)
              refine lv_aload_n F.1 F.2.1 dL_isTick_343 rfl (lv_at hl 4 rfl) ?_
              refine lv_bipush (v := 9) F.1 F.2.1 dL_isTick_344 (by decide) ?_
              refine jcir (jrunV (As := [.int 9]) (rest := []) F hT hW yc_X6_count yv_X6_count ml_L_14 oH0 (by decide) rfl (r_count l E (fo μ 13 S4) (hB13 hB) (wc13 hc) 9 (by decide) (by decide)) rfl hl.1 ⟨Nat.le_of_ble_eq_true rfl, Nat.le_of_ble_eq_true rfl⟩ rfl (Nat.le_of_ble_eq_true rfl) ⟨by decide, by decide⟩ dL_isTick_346) hW (fun H locs hW => ?_)
              refine lv_istore (lv' := [(21, .int (p_X3_numberOfAll B 9)), (20, .int (p_X3_numberOfAll B 7)), (19, .int (p_X3_numberOfAll B 6)), (18, .int (p_X3_numberOfAll B 0)), (17, .int (p_X3_numberOfAll B 3)), (0, .ref (ea E 11 0)), (1, .int (nI n)), (2, .ref (ea E 13 0)), (3, .ref (ea E 13 1)), (4, .ref (ea E 13 2)), (5, .ref (ea E 13 3)), (6, .ref (ea E 13 4)), (7, .ref (ea E 13 5)), (8, .ref (ea E 13 6)), (9, .ref (ea E 13 7)), (10, .ref (ea E 13 8)), (11, .ref (ea E 13 9)), (12, .ref (ea E 13 10)), (13, .ref (ea E 13 11)), (14, .ref (ea E 13 12)), (15, .ref (ea E 13 13)), (16, .ref (ea E 13 14))]) F.1 F.2.1 dL_isTick_349 hl (by decide) rfl (fun ls hl => ?_)
              refine lv_iconst (v := 0) F.1 F.2.1 dL_isTick_351 (by decide) ?_
              refine lv_istore (lv' := [(22, .int 0), (21, .int (p_X3_numberOfAll B 9)), (20, .int (p_X3_numberOfAll B 7)), (19, .int (p_X3_numberOfAll B 6)), (18, .int (p_X3_numberOfAll B 0)), (17, .int (p_X3_numberOfAll B 3)), (0, .ref (ea E 11 0)), (1, .int (nI n)), (2, .ref (ea E 13 0)), (3, .ref (ea E 13 1)), (4, .ref (ea E 13 2)), (5, .ref (ea E 13 3)), (6, .ref (ea E 13 4)), (7, .ref (ea E 13 5)), (8, .ref (ea E 13 6)), (9, .ref (ea E 13 7)), (10, .ref (ea E 13 8)), (11, .ref (ea E 13 9)), (12, .ref (ea E 13 10)), (13, .ref (ea E 13 11)), (14, .ref (ea E 13 12)), (15, .ref (ea E 13 13)), (16, .ref (ea E 13 14))]) F.1 F.2.1 dL_isTick_352 hl (by decide) rfl (fun ls hl => ?_)
              have hL8 : ∀ (fu k2 : Nat) (S7 : Sv) (H : Heap) (locs : List Loc) (ls : Array Slot), k2 + fu = t → (S7) = itN (q_T1_354 B A n d t) k2 (S4) → Wd E s H locs (fo μ 13 S7) → lv_has ls 27 [(22, .int (nI k2)), (21, .int (p_X3_numberOfAll B 9)), (20, .int (p_X3_numberOfAll B 7)), (19, .int (p_X3_numberOfAll B 6)), (18, .int (p_X3_numberOfAll B 0)), (17, .int (p_X3_numberOfAll B 3)), (0, .ref (ea E 11 0)), (1, .int (nI n)), (2, .ref (ea E 13 0)), (3, .ref (ea E 13 1)), (4, .ref (ea E 13 2)), (5, .ref (ea E 13 3)), (6, .ref (ea E 13 4)), (7, .ref (ea E 13 5)), (8, .ref (ea E 13 6)), (9, .ref (ea E 13 7)), (10, .ref (ea E 13 8)), (11, .ref (ea E 13 9)), (12, .ref (ea E 13 10)), (13, .ref (ea E 13 11)), (14, .ref (ea E 13 12)), (15, .ref (ea E 13 13)), (16, .ref (ea E 13 14))] → W p l e (rmC 6 136 16 177) s m args below meth c H locs 15 165 Q (F0 m 354 ls []) := by
                intro fu
                induction fu with
                | zero =>
                  intro k2 S7 H locs ls hj hs  hW hl
                  obtain rfl : t = k2 := by omega
                  have eS7 := hs
                  refine lv_iload F.1 F.2.1 dL_isTick_354 (lv_at hl 0 rfl) ?_
                  refine lv_aload_n F.1 F.2.1 dL_isTick_356 rfl (lv_at hl 6 rfl) ?_
                  refine lv_iconst (v := 2) F.1 F.2.1 dL_isTick_357 (by decide) ?_
                  refine jcir (jrunV (As := [.int 2]) (rest := [.int (nI t)]) F hT hW yc_X6_count yv_X6_count ml_L_14 oH0 (by decide) rfl (r_count l E (fo μ 13 S7) (hB13 hB) (wc13 hc) 2 (by decide) (by decide)) rfl hl.1 ⟨Nat.le_of_ble_eq_true rfl, Nat.le_of_ble_eq_true rfl⟩ rfl (Nat.le_of_ble_eq_true rfl) ⟨by decide, by decide⟩ dL_isTick_358) hW (fun H locs hW => ?_)
                  refine lv_icmp_ge (tgt := 475) F.1 F.2.1 dL_isTick_361 (by decide) (fun h9 => ?_) (fun h9 => ?_)
                  · have hq : (S7, p_X3_numberOfAll B 3, p_X3_numberOfAll B 0, p_X3_numberOfAll B 6, p_X3_numberOfAll B 7, p_X3_numberOfAll B 9) = g_T1 B A n d t := by
                      subst eS7
                      subst eS4
                      subst eS1
                      exact (rfl).symm
                    exact kk _ _ _ _ _ _ _ _ _ hq hW (lv_sub hl [6, 7, 8, 9, 10, 11, 12, 13, 14, 15, 16, 17, 18, 19, 20, 21, 22, 5, 4, 3, 2, 1] rfl)
                  · exact absurd (c_le ht rfl (by omega) (by omega)) h9
                | succ fu ih =>
                  intro k2 S7 H locs ls hj hs  hW hl
                  refine lv_iload F.1 F.2.1 dL_isTick_354 (lv_at hl 0 rfl) ?_
                  refine lv_aload_n F.1 F.2.1 dL_isTick_356 rfl (lv_at hl 6 rfl) ?_
                  refine lv_iconst (v := 2) F.1 F.2.1 dL_isTick_357 (by decide) ?_
                  refine jcir (jrunV (As := [.int 2]) (rest := [.int (nI k2)]) F hT hW yc_X6_count yv_X6_count ml_L_14 oH0 (by decide) rfl (r_count l E (fo μ 13 S7) (hB13 hB) (wc13 hc) 2 (by decide) (by decide)) rfl hl.1 ⟨Nat.le_of_ble_eq_true rfl, Nat.le_of_ble_eq_true rfl⟩ rfl (Nat.le_of_ble_eq_true rfl) ⟨by decide, by decide⟩ dL_isTick_358) hW (fun H locs hW => ?_)
                  refine lv_icmp_ge (tgt := 475) F.1 F.2.1 dL_isTick_361 (by decide) (fun h8 => ?_) (fun h8 => ?_)
                  · exact absurd h8 (c_nle ht rfl (by omega) (by omega))
                  · refine lv_aload F.1 F.2.1 dL_isTick_364 (lv_at hl 22 rfl) ?_
                    refine lv_iload F.1 F.2.1 dL_isTick_366 (lv_at hl 0 rfl) ?_
                    refine lv_aload_n F.1 F.2.1 dL_isTick_368 rfl (lv_at hl 6 rfl) ?_
                    refine lv_iload F.1 F.2.1 dL_isTick_369 (lv_at hl 0 rfl) ?_
                    refine lv_iconst (v := 2) F.1 F.2.1 dL_isTick_371 (by decide) ?_
                    refine jcir (jrunV (As := [.int (nI k2), .int 2]) (rest := [.int (nI k2), .ref (ea E 13 14)]) F hT hW yc_X6_ofTimer yv_X6_ofTimer ml_L_27 oH0 (by decide) rfl (r_ofTimer l E (fo μ 13 S7) (hB13 hB) (wc13 hc) (nI k2) 2) rfl hl.1 ⟨Nat.le_of_ble_eq_true rfl, Nat.le_of_ble_eq_true rfl⟩ rfl (Nat.le_of_ble_eq_true rfl) ⟨by decide, by decide⟩ dL_isTick_372) hW (fun H locs hW => ?_)
                    refine jiast F hT hW k2 (o13 14 (k := 6) (by omega)) (by decide) (by omega) (by decide) rfl rfl dL_isTick_375 (fun S9 H locs eS9 hW => ?_)
                    refine lv_aload F.1 F.2.1 dL_isTick_376 (lv_at hl 22 rfl) ?_
                    refine lv_iload F.1 F.2.1 dL_isTick_378 (lv_at hl 0 rfl) ?_
                    refine jiald F hT hW k2 (o13 14 (k := 6) (by omega)) (by omega) (by decide) rfl rfl dL_isTick_380 ?_
                    refine lv_iload F.1 F.2.1 dL_isTick_381 (lv_at hl 4 rfl) ?_
                    have hJ25 : ∀ (S24 : Sv) (H : Heap) (locs : List Loc) (ls : Array Slot), S24 = (if (S9 14 k2) = (p_X3_numberOfAll B 0) then (let S11 : Sv := us S9 4 (cn (p_X3_numberOfTimer B (nI k2) 0)) ((S9 4 (cn (p_X3_numberOfTimer B (nI k2) 0))) + 1); (let S21 : Sv := (if (S11 0 (cn (p_X3_numberOfTimer B (nI k2) 0))) = 1 then (let S13 : Sv := us S11 5 (cn (p_X3_numberOfTimer B (nI k2) 0)) ((S11 5 (cn (p_X3_numberOfTimer B (nI k2) 0))) + 1); S13) else (if (p_X3_numberOfLine B (p_X3_numberOfTimer B (nI k2) 0) 4) = 1 then (if (p_X3_numberOfAll B 17) = 0 then (let S20 : Sv := us S11 5 (cn (p_X3_numberOfTimer B (nI k2) 0)) ((S11 5 (cn (p_X3_numberOfTimer B (nI k2) 0))) + 1); S20) else (let S18 : Sv := us S11 0 (cn (p_X3_numberOfTimer B (nI k2) 0)) 1; (let S19 : Sv := us S18 1 (cn (p_X3_numberOfTimer B (nI k2) 0)) 0; S19))) else (let S15 : Sv := us S11 0 (cn (p_X3_numberOfTimer B (nI k2) 0)) 1; (let S16 : Sv := us S15 1 (cn (p_X3_numberOfTimer B (nI k2) 0)) 0; S16)))); (let S23 : Sv := us S21 14 k2 ((S21 14 k2) + (p_X3_numberOfTimer B (nI k2) 1)); S23))) else S9) → Wd E s H locs (fo μ 13 S24) → lv_has ls 27 [(22, .int (nI k2)), (21, .int (p_X3_numberOfAll B 9)), (20, .int (p_X3_numberOfAll B 7)), (19, .int (p_X3_numberOfAll B 6)), (18, .int (p_X3_numberOfAll B 0)), (17, .int (p_X3_numberOfAll B 3)), (0, .ref (ea E 11 0)), (1, .int (nI n)), (2, .ref (ea E 13 0)), (3, .ref (ea E 13 1)), (4, .ref (ea E 13 2)), (5, .ref (ea E 13 3)), (6, .ref (ea E 13 4)), (7, .ref (ea E 13 5)), (8, .ref (ea E 13 6)), (9, .ref (ea E 13 7)), (10, .ref (ea E 13 8)), (11, .ref (ea E 13 9)), (12, .ref (ea E 13 10)), (13, .ref (ea E 13 11)), (14, .ref (ea E 13 12)), (15, .ref (ea E 13 13)), (16, .ref (ea E 13 14))] → W p l e (rmC 6 136 16 177) s m args below meth c H locs 15 165 Q (F0 m 469 ls []) := by
                      intro S24 H locs ls eS24 hW hl
                      refine lv_iinc (v := nI (k2 + 1)) (lv' := [(22, .int (nI (k2 + 1))), (21, .int (p_X3_numberOfAll B 9)), (20, .int (p_X3_numberOfAll B 7)), (19, .int (p_X3_numberOfAll B 6)), (18, .int (p_X3_numberOfAll B 0)), (17, .int (p_X3_numberOfAll B 3)), (0, .ref (ea E 11 0)), (1, .int (nI n)), (2, .ref (ea E 13 0)), (3, .ref (ea E 13 1)), (4, .ref (ea E 13 2)), (5, .ref (ea E 13 3)), (6, .ref (ea E 13 4)), (7, .ref (ea E 13 5)), (8, .ref (ea E 13 6)), (9, .ref (ea E 13 7)), (10, .ref (ea E 13 8)), (11, .ref (ea E 13 9)), (12, .ref (ea E 13 10)), (13, .ref (ea E 13 11)), (14, .ref (ea E 13 12)), (15, .ref (ea E 13 13)), (16, .ref (ea E 13 14))]) F.1 F.2.1 dL_isTick_469 hl (k := 0) rfl (ia rfl rfl) (by decide) rfl (fun ls hl => ?_)
                      refine lv_goto (tgt := 354) F.1 F.2.1 dL_isTick_472 (by decide) ?_
                      subst eS24
                      subst eS9
                      exact ih (k2 + 1) _ _ _ _ (by omega) (by rw [itN_s, ← hs]; exact (rfl).symm) hW (lv_sub hl [0, 1, 2, 3, 4, 5, 6, 7, 8, 9, 10, 11, 12, 13, 14, 15, 16, 17, 18, 19, 20, 21, 22] rfl)
                    refine lv_icmp_ne (tgt := 469) F.1 F.2.1 dL_isTick_383 (by decide) (fun h10 => ?_) (fun h10 => ?_)
                    · exact hJ25 _ _ _ _ (if_neg h10).symm hW (lv_sub hl [0, 1, 2, 3, 4, 5, 6, 7, 8, 9, 10, 11, 12, 13, 14, 15, 16, 17, 18, 19, 20, 21, 22] rfl)
                    · refine lv_aload_n F.1 F.2.1 dL_isTick_386 rfl (lv_at hl 6 rfl) ?_
                      refine lv_iload F.1 F.2.1 dL_isTick_387 (lv_at hl 0 rfl) ?_
                      refine lv_iconst (v := 0) F.1 F.2.1 dL_isTick_389 (by decide) ?_
                      refine jcir (jrunV (As := [.int (nI k2), .int 0]) (rest := []) F hT hW yc_X6_ofTimer yv_X6_ofTimer ml_L_27 oH0 (by decide) rfl (r_ofTimer l E (fo μ 13 S9) (hB13 hB) (wc13 hc) (nI k2) 0) rfl hl.1 ⟨Nat.le_of_ble_eq_true rfl, Nat.le_of_ble_eq_true rfl⟩ rfl (Nat.le_of_ble_eq_true rfl) ⟨by decide, by decide⟩ dL_isTick_390) hW (fun H locs hW => ?_)
                      refine lv_istore (lv' := [(23, .int (p_X3_numberOfTimer B (nI k2) 0)), (22, .int (nI k2)), (21, .int (p_X3_numberOfAll B 9)), (20, .int (p_X3_numberOfAll B 7)), (19, .int (p_X3_numberOfAll B 6)), (18, .int (p_X3_numberOfAll B 0)), (17, .int (p_X3_numberOfAll B 3)), (0, .ref (ea E 11 0)), (1, .int (nI n)), (2, .ref (ea E 13 0)), (3, .ref (ea E 13 1)), (4, .ref (ea E 13 2)), (5, .ref (ea E 13 3)), (6, .ref (ea E 13 4)), (7, .ref (ea E 13 5)), (8, .ref (ea E 13 6)), (9, .ref (ea E 13 7)), (10, .ref (ea E 13 8)), (11, .ref (ea E 13 9)), (12, .ref (ea E 13 10)), (13, .ref (ea E 13 11)), (14, .ref (ea E 13 12)), (15, .ref (ea E 13 13)), (16, .ref (ea E 13 14))]) F.1 F.2.1 dL_isTick_393 hl (by decide) rfl (fun ls hl => ?_)
                      refine lv_aload F.1 F.2.1 dL_isTick_395 (lv_at hl 13 rfl) ?_
                      refine lv_iload F.1 F.2.1 dL_isTick_397 (lv_at hl 0 rfl) ?_
                      refine lv_dup2_11 F.1 F.2.1 dL_isTick_399 rfl rfl ?_
                      refine jiald F hT hW (cn (p_X3_numberOfTimer B (nI k2) 0)) (o13 4 (k := 12) (by omega)) (Nat.lt_of_le_of_lt (hti k2 (by omega)).2 (by decide)) (by decide) ((hti k2 (by omega)).1) rfl dL_isTick_400 ?_
                      refine lv_iconst (v := 1) F.1 F.2.1 dL_isTick_401 (by decide) ?_
                      refine lv_iadd F.1 F.2.1 dL_isTick_402 ?_
                      refine jiast F hT hW (cn (p_X3_numberOfTimer B (nI k2) 0)) (o13 4 (k := 12) (by omega)) (by decide) (Nat.lt_of_le_of_lt (hti k2 (by omega)).2 (by decide)) (by decide) ((hti k2 (by omega)).1) rfl dL_isTick_403 (fun S11 H locs eS11 hW => ?_)
                      refine lv_aload_n F.1 F.2.1 dL_isTick_404 rfl (lv_at hl 9 rfl) ?_
                      refine lv_iload F.1 F.2.1 dL_isTick_405 (lv_at hl 0 rfl) ?_
                      refine jiald F hT hW (cn (p_X3_numberOfTimer B (nI k2) 0)) (o13 0 (k := 12) (by omega)) (Nat.lt_of_le_of_lt (hti k2 (by omega)).2 (by decide)) (by decide) ((hti k2 (by omega)).1) rfl dL_isTick_407 ?_
                      refine lv_iconst (v := 1) F.1 F.2.1 dL_isTick_408 (by decide) ?_
                      have hJ22 : ∀ (S21 : Sv) (H : Heap) (locs : List Loc) (ls : Array Slot), S21 = (if (S11 0 (cn (p_X3_numberOfTimer B (nI k2) 0))) = 1 then (let S13 : Sv := us S11 5 (cn (p_X3_numberOfTimer B (nI k2) 0)) ((S11 5 (cn (p_X3_numberOfTimer B (nI k2) 0))) + 1); S13) else (if (p_X3_numberOfLine B (p_X3_numberOfTimer B (nI k2) 0) 4) = 1 then (if (p_X3_numberOfAll B 17) = 0 then (let S20 : Sv := us S11 5 (cn (p_X3_numberOfTimer B (nI k2) 0)) ((S11 5 (cn (p_X3_numberOfTimer B (nI k2) 0))) + 1); S20) else (let S18 : Sv := us S11 0 (cn (p_X3_numberOfTimer B (nI k2) 0)) 1; (let S19 : Sv := us S18 1 (cn (p_X3_numberOfTimer B (nI k2) 0)) 0; S19))) else (let S15 : Sv := us S11 0 (cn (p_X3_numberOfTimer B (nI k2) 0)) 1; (let S16 : Sv := us S15 1 (cn (p_X3_numberOfTimer B (nI k2) 0)) 0; S16)))) → Wd E s H locs (fo μ 13 S21) → lv_has ls 27 [(23, .int (p_X3_numberOfTimer B (nI k2) 0)), (22, .int (nI k2)), (21, .int (p_X3_numberOfAll B 9)), (20, .int (p_X3_numberOfAll B 7)), (19, .int (p_X3_numberOfAll B 6)), (18, .int (p_X3_numberOfAll B 0)), (17, .int (p_X3_numberOfAll B 3)), (0, .ref (ea E 11 0)), (1, .int (nI n)), (2, .ref (ea E 13 0)), (3, .ref (ea E 13 1)), (4, .ref (ea E 13 2)), (5, .ref (ea E 13 3)), (6, .ref (ea E 13 4)), (7, .ref (ea E 13 5)), (8, .ref (ea E 13 6)), (9, .ref (ea E 13 7)), (10, .ref (ea E 13 8)), (11, .ref (ea E 13 9)), (12, .ref (ea E 13 10)), (13, .ref (ea E 13 11)), (14, .ref (ea E 13 12)), (15, .ref (ea E 13 13)), (16, .ref (ea E 13 14))] → W p l e (rmC 6 136 16 177) s m args below meth c H locs 15 165 Q (F0 m 454 ls []) := by
                        intro S21 H locs ls eS21 hW hl
                        refine lv_aload F.1 F.2.1 dL_isTick_454 (lv_at hl 23 rfl) ?_
                        refine lv_iload F.1 F.2.1 dL_isTick_456 (lv_at hl 1 rfl) ?_
                        refine lv_dup2_11 F.1 F.2.1 dL_isTick_458 rfl rfl ?_
                        refine jiald F hT hW k2 (o13 14 (k := 6) (by omega)) (by omega) (by decide) rfl rfl dL_isTick_459 ?_
                        refine lv_aload_n F.1 F.2.1 dL_isTick_460 rfl (lv_at hl 7 rfl) ?_
                        refine lv_iload F.1 F.2.1 dL_isTick_461 (lv_at hl 1 rfl) ?_
                        refine lv_iconst (v := 1) F.1 F.2.1 dL_isTick_463 (by decide) ?_
                        refine jcir (jrunV (As := [.int (nI k2), .int 1]) (rest := [.int (S21 14 k2), .int (nI k2), .ref (ea E 13 14)]) F hT hW yc_X6_ofTimer yv_X6_ofTimer ml_L_27 oH0 (by decide) rfl (r_ofTimer l E (fo μ 13 S21) (hB13 hB) (wc13 hc) (nI k2) 1) rfl hl.1 ⟨Nat.le_of_ble_eq_true rfl, Nat.le_of_ble_eq_true rfl⟩ rfl (Nat.le_of_ble_eq_true rfl) ⟨by decide, by decide⟩ dL_isTick_464) hW (fun H locs hW => ?_)
                        refine lv_iadd F.1 F.2.1 dL_isTick_467 ?_
                        refine jiast F hT hW k2 (o13 14 (k := 6) (by omega)) (by decide) (by omega) (by decide) rfl rfl dL_isTick_468 (fun S23 H locs eS23 hW => ?_)
                        subst eS23
                        subst eS21
                        subst eS11
                        exact hJ25 _ _ _ _ (if_pos h10).symm hW (lv_sub hl [1, 2, 3, 4, 5, 6, 7, 8, 9, 10, 11, 12, 13, 14, 15, 16, 17, 18, 19, 20, 21, 22, 23] rfl)
                      refine lv_icmp_eq (tgt := 432) F.1 F.2.1 dL_isTick_409 (by decide) (fun h12 => ?_) (fun h12 => ?_)
                      · refine lv_aload F.1 F.2.1 dL_isTick_432 (lv_at hl 14 rfl) ?_
                        refine lv_iload F.1 F.2.1 dL_isTick_434 (lv_at hl 0 rfl) ?_
                        refine lv_dup2_11 F.1 F.2.1 dL_isTick_436 rfl rfl ?_
                        refine jiald F hT hW (cn (p_X3_numberOfTimer B (nI k2) 0)) (o13 5 (k := 12) (by omega)) (Nat.lt_of_le_of_lt (hti k2 (by omega)).2 (by decide)) (by decide) ((hti k2 (by omega)).1) rfl dL_isTick_437 ?_
                        refine lv_iconst (v := 1) F.1 F.2.1 dL_isTick_438 (by decide) ?_
                        refine lv_iadd F.1 F.2.1 dL_isTick_439 ?_
                        refine jiast F hT hW (cn (p_X3_numberOfTimer B (nI k2) 0)) (o13 5 (k := 12) (by omega)) (by decide) (Nat.lt_of_le_of_lt (hti k2 (by omega)).2 (by decide)) (by decide) ((hti k2 (by omega)).1) rfl dL_isTick_440 (fun S13 H locs eS13 hW => ?_)
                        refine lv_goto (tgt := 454) F.1 F.2.1 dL_isTick_441 (by decide) ?_
                        subst eS13
                        exact hJ22 _ _ _ _ (if_pos h12).symm hW (lv_sub hl [0, 1, 2, 3, 4, 5, 6, 7, 8, 9, 10, 11, 12, 13, 14, 15, 16, 17, 18, 19, 20, 21, 22, 23] rfl)
                      · refine lv_aload_n F.1 F.2.1 dL_isTick_412 rfl (lv_at hl 7 rfl) ?_
                        refine lv_iload F.1 F.2.1 dL_isTick_413 (lv_at hl 0 rfl) ?_
                        refine lv_iconst (v := 4) F.1 F.2.1 dL_isTick_415 (by decide) ?_
                        refine jcir (jrunV (As := [.int (p_X3_numberOfTimer B (nI k2) 0), .int 4]) (rest := []) F hT hW yc_X6_ofLine yv_X6_ofLine ml_L_8 oH0 (by decide) rfl (r_ofLine l E (fo μ 13 S11) (hB13 hB) (wc13 hc) (p_X3_numberOfTimer B (nI k2) 0) 4) rfl hl.1 ⟨Nat.le_of_ble_eq_true rfl, Nat.le_of_ble_eq_true rfl⟩ rfl (Nat.le_of_ble_eq_true rfl) ⟨by decide, by decide⟩ dL_isTick_416) hW (fun H locs hW => ?_)
                        refine lv_iconst (v := 1) F.1 F.2.1 dL_isTick_419 (by decide) ?_
                        refine lv_icmp_ne (tgt := 444) F.1 F.2.1 dL_isTick_420 (by decide) (fun h14 => ?_) (fun h14 => ?_)
                        · refine lv_aload_n F.1 F.2.1 dL_isTick_444 rfl (lv_at hl 9 rfl) ?_
                          refine lv_iload F.1 F.2.1 dL_isTick_445 (lv_at hl 0 rfl) ?_
                          refine lv_iconst (v := 1) F.1 F.2.1 dL_isTick_447 (by decide) ?_
                          refine jiast F hT hW (cn (p_X3_numberOfTimer B (nI k2) 0)) (o13 0 (k := 12) (by omega)) (by decide) (Nat.lt_of_le_of_lt (hti k2 (by omega)).2 (by decide)) (by decide) ((hti k2 (by omega)).1) rfl dL_isTick_448 (fun S15 H locs eS15 hW => ?_)
                          refine lv_aload_n F.1 F.2.1 dL_isTick_449 rfl (lv_at hl 10 rfl) ?_
                          refine lv_iload F.1 F.2.1 dL_isTick_450 (lv_at hl 0 rfl) ?_
                          refine lv_iconst (v := 0) F.1 F.2.1 dL_isTick_452 (by decide) ?_
                          refine jiast F hT hW (cn (p_X3_numberOfTimer B (nI k2) 0)) (o13 1 (k := 12) (by omega)) (by decide) (Nat.lt_of_le_of_lt (hti k2 (by omega)).2 (by decide)) (by decide) ((hti k2 (by omega)).1) rfl dL_isTick_453 (fun S16 H locs eS16 hW => ?_)
                          subst eS16
                          subst eS15
                          exact hJ22 _ _ _ _ ((if_neg h12).trans (if_neg h14)).symm hW (lv_sub hl [0, 1, 2, 3, 4, 5, 6, 7, 8, 9, 10, 11, 12, 13, 14, 15, 16, 17, 18, 19, 20, 21, 22, 23] rfl)
                        · refine lv_aload_n F.1 F.2.1 dL_isTick_423 rfl (lv_at hl 7 rfl) ?_
                          refine lv_bipush (v := 17) F.1 F.2.1 dL_isTick_424 (by decide) ?_
                          refine jcir (jrunV (As := [.int 17]) (rest := []) F hT hW yc_X6_count yv_X6_count ml_L_14 oH0 (by decide) rfl (r_count l E (fo μ 13 S11) (hB13 hB) (wc13 hc) 17 (by decide) (by decide)) rfl hl.1 ⟨Nat.le_of_ble_eq_true rfl, Nat.le_of_ble_eq_true rfl⟩ rfl (Nat.le_of_ble_eq_true rfl) ⟨by decide, by decide⟩ dL_isTick_426) hW (fun H locs hW => ?_)
                          refine lv_if_ne (tgt := 444) F.1 F.2.1 dL_isTick_429 (by decide) (fun h17 => ?_) (fun h17 => ?_)
                          · refine lv_aload_n F.1 F.2.1 dL_isTick_444 rfl (lv_at hl 9 rfl) ?_
                            refine lv_iload F.1 F.2.1 dL_isTick_445 (lv_at hl 0 rfl) ?_
                            refine lv_iconst (v := 1) F.1 F.2.1 dL_isTick_447 (by decide) ?_
                            refine jiast F hT hW (cn (p_X3_numberOfTimer B (nI k2) 0)) (o13 0 (k := 12) (by omega)) (by decide) (Nat.lt_of_le_of_lt (hti k2 (by omega)).2 (by decide)) (by decide) ((hti k2 (by omega)).1) rfl dL_isTick_448 (fun S18 H locs eS18 hW => ?_)
                            refine lv_aload_n F.1 F.2.1 dL_isTick_449 rfl (lv_at hl 10 rfl) ?_
                            refine lv_iload F.1 F.2.1 dL_isTick_450 (lv_at hl 0 rfl) ?_
                            refine lv_iconst (v := 0) F.1 F.2.1 dL_isTick_452 (by decide) ?_
                            refine jiast F hT hW (cn (p_X3_numberOfTimer B (nI k2) 0)) (o13 1 (k := 12) (by omega)) (by decide) (Nat.lt_of_le_of_lt (hti k2 (by omega)).2 (by decide)) (by decide) ((hti k2 (by omega)).1) rfl dL_isTick_453 (fun S19 H locs eS19 hW => ?_)
                            subst eS19
                            subst eS18
                            exact hJ22 _ _ _ _ ((if_neg h12).trans ((if_pos h14).trans (if_neg h17))).symm hW (lv_sub hl [0, 1, 2, 3, 4, 5, 6, 7, 8, 9, 10, 11, 12, 13, 14, 15, 16, 17, 18, 19, 20, 21, 22, 23] rfl)
                          · refine lv_aload F.1 F.2.1 dL_isTick_432 (lv_at hl 14 rfl) ?_
                            refine lv_iload F.1 F.2.1 dL_isTick_434 (lv_at hl 0 rfl) ?_
                            refine lv_dup2_11 F.1 F.2.1 dL_isTick_436 rfl rfl ?_
                            refine jiald F hT hW (cn (p_X3_numberOfTimer B (nI k2) 0)) (o13 5 (k := 12) (by omega)) (Nat.lt_of_le_of_lt (hti k2 (by omega)).2 (by decide)) (by decide) ((hti k2 (by omega)).1) rfl dL_isTick_437 ?_
                            refine lv_iconst (v := 1) F.1 F.2.1 dL_isTick_438 (by decide) ?_
                            refine lv_iadd F.1 F.2.1 dL_isTick_439 ?_
                            refine jiast F hT hW (cn (p_X3_numberOfTimer B (nI k2) 0)) (o13 5 (k := 12) (by omega)) (by decide) (Nat.lt_of_le_of_lt (hti k2 (by omega)).2 (by decide)) (by decide) ((hti k2 (by omega)).1) rfl dL_isTick_440 (fun S20 H locs eS20 hW => ?_)
                            refine lv_goto (tgt := 454) F.1 F.2.1 dL_isTick_441 (by decide) ?_
                            subst eS20
                            exact hJ22 _ _ _ _ ((if_neg h12).trans ((if_pos h14).trans (if_pos h17))).symm hW (lv_sub hl [0, 1, 2, 3, 4, 5, 6, 7, 8, 9, 10, 11, 12, 13, 14, 15, 16, 17, 18, 19, 20, 21, 22, 23] rfl)
              exact hL8 t 0 S4 _ _ _ (by omega) rfl hW (lv_sub hl [0, 1, 2, 3, 4, 5, 6, 7, 8, 9, 10, 11, 12, 13, 14, 15, 16, 17, 18, 19, 20, 21, 22] rfl)
            · exact absurd (c_le hd rfl (by omega) (by omega)) h6
          | succ fu ih =>
            intro k S4 H locs ls hj hs  hW hl
            refine lv_iload F.1 F.2.1 dL_isTick_271 (lv_at hl 0 rfl) ?_
            refine lv_iload F.1 F.2.1 dL_isTick_273 (lv_at hl 1 rfl) ?_
            refine lv_icmp_ge (tgt := 320) F.1 F.2.1 dL_isTick_275 (by decide) (fun h5 => ?_) (fun h5 => ?_)
            · exact absurd h5 (c_nle hd rfl (by omega) (by omega))
            · refine lv_aload F.1 F.2.1 dL_isTick_278 (lv_at hl 15 rfl) ?_
              refine lv_iload F.1 F.2.1 dL_isTick_280 (lv_at hl 0 rfl) ?_
              refine lv_aload_n F.1 F.2.1 dL_isTick_282 rfl (lv_at hl 2 rfl) ?_
              refine lv_iload F.1 F.2.1 dL_isTick_283 (lv_at hl 0 rfl) ?_
              refine lv_iconst (v := 0) F.1 F.2.1 dL_isTick_285 (by decide) ?_
              refine jcir (jrunV (As := [.int (nI k), .int 0]) (rest := [.int (nI k), .ref (ea E 13 11)]) F hT hW yc_X6_ofNest yv_X6_ofNest ml_L_24 oH0 (by decide) rfl (r_ofNest l E (fo μ 13 S4) (hB13 hB) (wc13 hc) (nI k) 0) rfl hl.1 ⟨Nat.le_of_ble_eq_true rfl, Nat.le_of_ble_eq_true rfl⟩ rfl (Nat.le_of_ble_eq_true rfl) ⟨by decide, by decide⟩ dL_isTick_286) hW (fun H locs hW => ?_)
              refine jiast F hT hW k (o13 11 (k := 9) (by omega)) (by decide) (by omega) (by decide) rfl rfl dL_isTick_289 (fun S6 H locs eS6 hW => ?_)
              refine lv_aload F.1 F.2.1 dL_isTick_290 (lv_at hl 16 rfl) ?_
              refine lv_iload F.1 F.2.1 dL_isTick_292 (lv_at hl 0 rfl) ?_
              refine lv_aload_n F.1 F.2.1 dL_isTick_294 rfl (lv_at hl 2 rfl) ?_
              refine lv_iload F.1 F.2.1 dL_isTick_295 (lv_at hl 0 rfl) ?_
              refine lv_iconst (v := 1) F.1 F.2.1 dL_isTick_297 (by decide) ?_
              refine jcir (jrunV (As := [.int (nI k), .int 1]) (rest := [.int (nI k), .ref (ea E 13 12)]) F hT hW yc_X6_ofNest yv_X6_ofNest ml_L_24 oH0 (by decide) rfl (r_ofNest l E (fo μ 13 S6) (hB13 hB) (wc13 hc) (nI k) 1) rfl hl.1 ⟨Nat.le_of_ble_eq_true rfl, Nat.le_of_ble_eq_true rfl⟩ rfl (Nat.le_of_ble_eq_true rfl) ⟨by decide, by decide⟩ dL_isTick_298) hW (fun H locs hW => ?_)
              refine jiast F hT hW k (o13 12 (k := 9) (by omega)) (by decide) (by omega) (by decide) rfl rfl dL_isTick_301 (fun S7 H locs eS7 hW => ?_)
              refine lv_aload F.1 F.2.1 dL_isTick_302 (lv_at hl 17 rfl) ?_
              refine lv_iload F.1 F.2.1 dL_isTick_304 (lv_at hl 0 rfl) ?_
              refine lv_aload_n F.1 F.2.1 dL_isTick_306 rfl (lv_at hl 2 rfl) ?_
              refine lv_iload F.1 F.2.1 dL_isTick_307 (lv_at hl 0 rfl) ?_
              refine lv_iconst (v := 2) F.1 F.2.1 dL_isTick_309 (by decide) ?_
              refine jcir (jrunV (As := [.int (nI k), .int 2]) (rest := [.int (nI k), .ref (ea E 13 13)]) F hT hW yc_X6_ofNest yv_X6_ofNest ml_L_24 oH0 (by decide) rfl (r_ofNest l E (fo μ 13 S7) (hB13 hB) (wc13 hc) (nI k) 2) rfl hl.1 ⟨Nat.le_of_ble_eq_true rfl, Nat.le_of_ble_eq_true rfl⟩ rfl (Nat.le_of_ble_eq_true rfl) ⟨by decide, by decide⟩ dL_isTick_310) hW (fun H locs hW => ?_)
              refine jiast F hT hW k (o13 13 (k := 9) (by omega)) (by decide) (by omega) (by decide) rfl rfl dL_isTick_313 (fun S8 H locs eS8 hW => ?_)
              refine lv_iinc (v := nI (k + 1)) (lv' := [(18, .int (nI (k + 1))), (17, .int (p_X3_numberOfAll B 3)), (0, .ref (ea E 11 0)), (1, .int (nI n)), (2, .ref (ea E 13 0)), (3, .ref (ea E 13 1)), (4, .ref (ea E 13 2)), (5, .ref (ea E 13 3)), (6, .ref (ea E 13 4)), (7, .ref (ea E 13 5)), (8, .ref (ea E 13 6)), (9, .ref (ea E 13 7)), (10, .ref (ea E 13 8)), (11, .ref (ea E 13 9)), (12, .ref (ea E 13 10)), (13, .ref (ea E 13 11)), (14, .ref (ea E 13 12)), (15, .ref (ea E 13 13)), (16, .ref (ea E 13 14))]) F.1 F.2.1 dL_isTick_314 hl (k := 0) rfl (ia rfl rfl) (by decide) rfl (fun ls hl => ?_)
              refine lv_goto (tgt := 271) F.1 F.2.1 dL_isTick_317 (by decide) ?_
              subst eS8
              subst eS7
              subst eS6
              exact ih (k + 1) _ _ _ _ (by omega) (by rw [itN_s, ← hs]; exact (rfl).symm) hW (lv_sub hl [0, 1, 2, 3, 4, 5, 6, 7, 8, 9, 10, 11, 12, 13, 14, 15, 16, 17, 18] rfl)
        exact hL5 d 0 S1 _ _ _ (by omega) rfl hW (lv_sub hl [0, 1, 2, 3, 4, 5, 6, 7, 8, 9, 10, 11, 12, 13, 14, 15, 16, 17, 18] rfl)
      · exact absurd (c_le rfl rfl (by omega) (by omega)) h3
    | succ fu ih =>
      intro j S1 H locs ls hj hs  hW hl
      refine lv_iload F.1 F.2.1 dL_isTick_97 (lv_at hl 0 rfl) ?_
      refine lv_iload_n F.1 F.2.1 dL_isTick_99 rfl (lv_at hl 2 rfl) ?_
      refine lv_icmp_ge (tgt := 261) F.1 F.2.1 dL_isTick_100 (by decide) (fun h2 => ?_) (fun h2 => ?_)
      · exact absurd h2 (c_nle rfl rfl (by omega) (by omega))
      · refine lv_aload_n F.1 F.2.1 dL_isTick_103 rfl (lv_at hl 3 rfl) ?_
        refine lv_iload F.1 F.2.1 dL_isTick_104 (lv_at hl 0 rfl) ?_
        refine lv_aload_n F.1 F.2.1 dL_isTick_106 rfl (lv_at hl 1 rfl) ?_
        refine lv_iload F.1 F.2.1 dL_isTick_107 (lv_at hl 0 rfl) ?_
        refine lv_iconst (v := 5) F.1 F.2.1 dL_isTick_109 (by decide) ?_
        refine jcir (jrunV (As := [.int (nI j), .int 5]) (rest := [.int (nI j), .ref (ea E 13 0)]) F hT hW yc_X6_ofLine yv_X6_ofLine ml_L_8 oH0 (by decide) rfl (r_ofLine l E (fo μ 13 S1) (hB13 hB) (wc13 hc) (nI j) 5) rfl hl.1 ⟨Nat.le_of_ble_eq_true rfl, Nat.le_of_ble_eq_true rfl⟩ rfl (Nat.le_of_ble_eq_true rfl) ⟨by decide, by decide⟩ dL_isTick_110) hW (fun H locs hW => ?_)
        refine jiast F hT hW j (o13 0 (k := 12) (by omega)) (by decide) (by omega) (by decide) rfl rfl dL_isTick_113 (fun S3 H locs eS3 hW => ?_)
        refine lv_aload_n F.1 F.2.1 dL_isTick_114 rfl (lv_at hl 4 rfl) ?_
        refine lv_iload F.1 F.2.1 dL_isTick_115 (lv_at hl 0 rfl) ?_
        refine lv_aload_n F.1 F.2.1 dL_isTick_117 rfl (lv_at hl 3 rfl) ?_
        refine lv_iload F.1 F.2.1 dL_isTick_118 (lv_at hl 0 rfl) ?_
        refine jiald F hT hW j (o13 0 (k := 12) (by omega)) (by omega) (by decide) rfl rfl dL_isTick_120 ?_
        refine lv_iconst (v := 1) F.1 F.2.1 dL_isTick_121 (by decide) ?_
        have hJ6 : ∀ (v5 : Int32) (H : Heap) (locs : List Loc) (ls : Array Slot), v5 = (if (S3 0 j) = 1 then p_X3_numberOfLine B (nI j) 6 else 0) → Wd E s H locs (fo μ 13 S3) → lv_has ls 27 [(17, .int (nI j)), (0, .ref (ea E 11 0)), (1, .int (nI n)), (2, .ref (ea E 13 0)), (3, .ref (ea E 13 1)), (4, .ref (ea E 13 2)), (5, .ref (ea E 13 3)), (6, .ref (ea E 13 4)), (7, .ref (ea E 13 5)), (8, .ref (ea E 13 6)), (9, .ref (ea E 13 7)), (10, .ref (ea E 13 8)), (11, .ref (ea E 13 9)), (12, .ref (ea E 13 10)), (13, .ref (ea E 13 11)), (14, .ref (ea E 13 12)), (15, .ref (ea E 13 13)), (16, .ref (ea E 13 14))] → W p l e (rmC 6 136 16 177) s m args below meth c H locs 15 165 Q (F0 m 137 ls [.int v5, .int (nI j), .ref (ea E 13 1)]) := by
          intro v5 H locs ls ev5 hW hl
          refine jiast F hT hW j (o13 1 (k := 12) (by omega)) (by decide) (by omega) (by decide) rfl rfl dL_isTick_137 (fun S7 H locs eS7 hW => ?_)
          refine lv_aload F.1 F.2.1 dL_isTick_138 (lv_at hl 6 rfl) ?_
          refine lv_iload F.1 F.2.1 dL_isTick_140 (lv_at hl 0 rfl) ?_
          refine lv_aload_n F.1 F.2.1 dL_isTick_142 rfl (lv_at hl 1 rfl) ?_
          refine lv_iload F.1 F.2.1 dL_isTick_143 (lv_at hl 0 rfl) ?_
          refine lv_bipush (v := 8) F.1 F.2.1 dL_isTick_145 (by decide) ?_
          refine jcir (jrunV (As := [.int (nI j), .int 8]) (rest := [.int (nI j), .ref (ea E 13 3)]) F hT hW yc_X6_ofLine yv_X6_ofLine ml_L_8 oH0 (by decide) rfl (r_ofLine l E (fo μ 13 S7) (hB13 hB) (wc13 hc) (nI j) 8) rfl hl.1 ⟨Nat.le_of_ble_eq_true rfl, Nat.le_of_ble_eq_true rfl⟩ rfl (Nat.le_of_ble_eq_true rfl) ⟨by decide, by decide⟩ dL_isTick_147) hW (fun H locs hW => ?_)
          refine jiast F hT hW j (o13 3 (k := 12) (by omega)) (by decide) (by omega) (by decide) rfl rfl dL_isTick_150 (fun S8 H locs eS8 hW => ?_)
          refine lv_aload F.1 F.2.1 dL_isTick_151 (lv_at hl 5 rfl) ?_
          refine lv_iload F.1 F.2.1 dL_isTick_153 (lv_at hl 0 rfl) ?_
          refine lv_aload_n F.1 F.2.1 dL_isTick_155 rfl (lv_at hl 1 rfl) ?_
          refine lv_iload F.1 F.2.1 dL_isTick_156 (lv_at hl 0 rfl) ?_
          refine lv_bipush (v := 9) F.1 F.2.1 dL_isTick_158 (by decide) ?_
          refine jcir (jrunV (As := [.int (nI j), .int 9]) (rest := [.int (nI j), .ref (ea E 13 2)]) F hT hW yc_X6_ofLine yv_X6_ofLine ml_L_8 oH0 (by decide) rfl (r_ofLine l E (fo μ 13 S8) (hB13 hB) (wc13 hc) (nI j) 9) rfl hl.1 ⟨Nat.le_of_ble_eq_true rfl, Nat.le_of_ble_eq_true rfl⟩ rfl (Nat.le_of_ble_eq_true rfl) ⟨by decide, by decide⟩ dL_isTick_160) hW (fun H locs hW => ?_)
          refine jiast F hT hW j (o13 2 (k := 12) (by omega)) (by decide) (by omega) (by decide) rfl rfl dL_isTick_163 (fun S9 H locs eS9 hW => ?_)
          refine lv_aload F.1 F.2.1 dL_isTick_164 (lv_at hl 7 rfl) ?_
          refine lv_iload F.1 F.2.1 dL_isTick_166 (lv_at hl 0 rfl) ?_
          refine lv_aload_n F.1 F.2.1 dL_isTick_168 rfl (lv_at hl 1 rfl) ?_
          refine lv_iload F.1 F.2.1 dL_isTick_169 (lv_at hl 0 rfl) ?_
          refine lv_bipush (v := 10) F.1 F.2.1 dL_isTick_171 (by decide) ?_
          refine jcir (jrunV (As := [.int (nI j), .int 10]) (rest := [.int (nI j), .ref (ea E 13 4)]) F hT hW yc_X6_ofLine yv_X6_ofLine ml_L_8 oH0 (by decide) rfl (r_ofLine l E (fo μ 13 S9) (hB13 hB) (wc13 hc) (nI j) 10) rfl hl.1 ⟨Nat.le_of_ble_eq_true rfl, Nat.le_of_ble_eq_true rfl⟩ rfl (Nat.le_of_ble_eq_true rfl) ⟨by decide, by decide⟩ dL_isTick_173) hW (fun H locs hW => ?_)
          refine jiast F hT hW j (o13 4 (k := 12) (by omega)) (by decide) (by omega) (by decide) rfl rfl dL_isTick_176 (fun S10 H locs eS10 hW => ?_)
          refine lv_aload F.1 F.2.1 dL_isTick_177 (lv_at hl 8 rfl) ?_
          refine lv_iload F.1 F.2.1 dL_isTick_179 (lv_at hl 0 rfl) ?_
          refine lv_aload_n F.1 F.2.1 dL_isTick_181 rfl (lv_at hl 1 rfl) ?_
          refine lv_iload F.1 F.2.1 dL_isTick_182 (lv_at hl 0 rfl) ?_
          refine lv_bipush (v := 11) F.1 F.2.1 dL_isTick_184 (by decide) ?_
          refine jcir (jrunV (As := [.int (nI j), .int 11]) (rest := [.int (nI j), .ref (ea E 13 5)]) F hT hW yc_X6_ofLine yv_X6_ofLine ml_L_8 oH0 (by decide) rfl (r_ofLine l E (fo μ 13 S10) (hB13 hB) (wc13 hc) (nI j) 11) rfl hl.1 ⟨Nat.le_of_ble_eq_true rfl, Nat.le_of_ble_eq_true rfl⟩ rfl (Nat.le_of_ble_eq_true rfl) ⟨by decide, by decide⟩ dL_isTick_186) hW (fun H locs hW => ?_)
          refine jiast F hT hW j (o13 5 (k := 12) (by omega)) (by decide) (by omega) (by decide) rfl rfl dL_isTick_189 (fun S11 H locs eS11 hW => ?_)
          refine lv_aload F.1 F.2.1 dL_isTick_190 (lv_at hl 9 rfl) ?_
          refine lv_iload F.1 F.2.1 dL_isTick_192 (lv_at hl 0 rfl) ?_
          refine lv_aload_n F.1 F.2.1 dL_isTick_194 rfl (lv_at hl 1 rfl) ?_
          refine lv_iload F.1 F.2.1 dL_isTick_195 (lv_at hl 0 rfl) ?_
          refine lv_bipush (v := 12) F.1 F.2.1 dL_isTick_197 (by decide) ?_
          refine jcir (jrunV (As := [.int (nI j), .int 12]) (rest := [.int (nI j), .ref (ea E 13 6)]) F hT hW yc_X6_ofLine yv_X6_ofLine ml_L_8 oH0 (by decide) rfl (r_ofLine l E (fo μ 13 S11) (hB13 hB) (wc13 hc) (nI j) 12) rfl hl.1 ⟨Nat.le_of_ble_eq_true rfl, Nat.le_of_ble_eq_true rfl⟩ rfl (Nat.le_of_ble_eq_true rfl) ⟨by decide, by decide⟩ dL_isTick_199) hW (fun H locs hW => ?_)
          refine jiast F hT hW j (o13 6 (k := 12) (by omega)) (by decide) (by omega) (by decide) rfl rfl dL_isTick_202 (fun S12 H locs eS12 hW => ?_)
          refine lv_aload F.1 F.2.1 dL_isTick_203 (lv_at hl 10 rfl) ?_
          refine lv_iload F.1 F.2.1 dL_isTick_205 (lv_at hl 0 rfl) ?_
          refine lv_aload_n F.1 F.2.1 dL_isTick_207 rfl (lv_at hl 1 rfl) ?_
          refine lv_iload F.1 F.2.1 dL_isTick_208 (lv_at hl 0 rfl) ?_
          refine lv_bipush (v := 13) F.1 F.2.1 dL_isTick_210 (by decide) ?_
          refine jcir (jrunV (As := [.int (nI j), .int 13]) (rest := [.int (nI j), .ref (ea E 13 7)]) F hT hW yc_X6_ofLine yv_X6_ofLine ml_L_8 oH0 (by decide) rfl (r_ofLine l E (fo μ 13 S12) (hB13 hB) (wc13 hc) (nI j) 13) rfl hl.1 ⟨Nat.le_of_ble_eq_true rfl, Nat.le_of_ble_eq_true rfl⟩ rfl (Nat.le_of_ble_eq_true rfl) ⟨by decide, by decide⟩ dL_isTick_212) hW (fun H locs hW => ?_)
          refine jiast F hT hW j (o13 7 (k := 12) (by omega)) (by decide) (by omega) (by decide) rfl rfl dL_isTick_215 (fun S13 H locs eS13 hW => ?_)
          refine lv_aload F.1 F.2.1 dL_isTick_216 (lv_at hl 11 rfl) ?_
          refine lv_iload F.1 F.2.1 dL_isTick_218 (lv_at hl 0 rfl) ?_
          refine lv_aload_n F.1 F.2.1 dL_isTick_220 rfl (lv_at hl 1 rfl) ?_
          refine lv_iload F.1 F.2.1 dL_isTick_221 (lv_at hl 0 rfl) ?_
          refine lv_bipush (v := 14) F.1 F.2.1 dL_isTick_223 (by decide) ?_
          refine jcir (jrunV (As := [.int (nI j), .int 14]) (rest := [.int (nI j), .ref (ea E 13 8)]) F hT hW yc_X6_ofLine yv_X6_ofLine ml_L_8 oH0 (by decide) rfl (r_ofLine l E (fo μ 13 S13) (hB13 hB) (wc13 hc) (nI j) 14) rfl hl.1 ⟨Nat.le_of_ble_eq_true rfl, Nat.le_of_ble_eq_true rfl⟩ rfl (Nat.le_of_ble_eq_true rfl) ⟨by decide, by decide⟩ dL_isTick_225) hW (fun H locs hW => ?_)
          refine jiast F hT hW j (o13 8 (k := 12) (by omega)) (by decide) (by omega) (by decide) rfl rfl dL_isTick_228 (fun S14 H locs eS14 hW => ?_)
          refine lv_aload F.1 F.2.1 dL_isTick_229 (lv_at hl 12 rfl) ?_
          refine lv_iload F.1 F.2.1 dL_isTick_231 (lv_at hl 0 rfl) ?_
          refine lv_aload_n F.1 F.2.1 dL_isTick_233 rfl (lv_at hl 1 rfl) ?_
          refine lv_iload F.1 F.2.1 dL_isTick_234 (lv_at hl 0 rfl) ?_
          refine lv_bipush (v := 15) F.1 F.2.1 dL_isTick_236 (by decide) ?_
          refine jcir (jrunV (As := [.int (nI j), .int 15]) (rest := [.int (nI j), .ref (ea E 13 9)]) F hT hW yc_X6_ofLine yv_X6_ofLine ml_L_8 oH0 (by decide) rfl (r_ofLine l E (fo μ 13 S14) (hB13 hB) (wc13 hc) (nI j) 15) rfl hl.1 ⟨Nat.le_of_ble_eq_true rfl, Nat.le_of_ble_eq_true rfl⟩ rfl (Nat.le_of_ble_eq_true rfl) ⟨by decide, by decide⟩ dL_isTick_238) hW (fun H locs hW => ?_)
          refine jiast F hT hW j (o13 9 (k := 12) (by omega)) (by decide) (by omega) (by decide) rfl rfl dL_isTick_241 (fun S15 H locs eS15 hW => ?_)
          refine lv_aload F.1 F.2.1 dL_isTick_242 (lv_at hl 13 rfl) ?_
          refine lv_iload F.1 F.2.1 dL_isTick_244 (lv_at hl 0 rfl) ?_
          refine lv_aload_n F.1 F.2.1 dL_isTick_246 rfl (lv_at hl 1 rfl) ?_
          refine lv_iload F.1 F.2.1 dL_isTick_247 (lv_at hl 0 rfl) ?_
          refine lv_bipush (v := 16) F.1 F.2.1 dL_isTick_249 (by decide) ?_
          refine jcir (jrunV (As := [.int (nI j), .int 16]) (rest := [.int (nI j), .ref (ea E 13 10)]) F hT hW yc_X6_ofLine yv_X6_ofLine ml_L_8 oH0 (by decide) rfl (r_ofLine l E (fo μ 13 S15) (hB13 hB) (wc13 hc) (nI j) 16) rfl hl.1 ⟨Nat.le_of_ble_eq_true rfl, Nat.le_of_ble_eq_true rfl⟩ rfl (Nat.le_of_ble_eq_true rfl) ⟨by decide, by decide⟩ dL_isTick_251) hW (fun H locs hW => ?_)
          refine jiast F hT hW j (o13 10 (k := 12) (by omega)) (by decide) (by omega) (by decide) rfl rfl dL_isTick_254 (fun S16 H locs eS16 hW => ?_)
          refine lv_iinc (v := nI (j + 1)) (lv' := [(17, .int (nI (j + 1))), (0, .ref (ea E 11 0)), (1, .int (nI n)), (2, .ref (ea E 13 0)), (3, .ref (ea E 13 1)), (4, .ref (ea E 13 2)), (5, .ref (ea E 13 3)), (6, .ref (ea E 13 4)), (7, .ref (ea E 13 5)), (8, .ref (ea E 13 6)), (9, .ref (ea E 13 7)), (10, .ref (ea E 13 8)), (11, .ref (ea E 13 9)), (12, .ref (ea E 13 10)), (13, .ref (ea E 13 11)), (14, .ref (ea E 13 12)), (15, .ref (ea E 13 13)), (16, .ref (ea E 13 14))]) F.1 F.2.1 dL_isTick_255 hl (k := 0) rfl (ia rfl rfl) (by decide) rfl (fun ls hl => ?_)
          refine lv_goto (tgt := 97) F.1 F.2.1 dL_isTick_258 (by decide) ?_
          subst eS16
          subst eS15
          subst eS14
          subst eS13
          subst eS12
          subst eS11
          subst eS10
          subst eS9
          subst eS8
          subst eS7
          subst ev5
          subst eS3
          exact ih (j + 1) _ _ _ _ (by omega) (by rw [itN_s, ← hs]; exact (rfl).symm) hW (lv_sub hl [0, 1, 2, 3, 4, 5, 6, 7, 8, 9, 10, 11, 12, 13, 14, 15, 16, 17] rfl)
        refine lv_icmp_ne (tgt := 136) F.1 F.2.1 dL_isTick_122 (by decide) (fun h4 => ?_) (fun h4 => ?_)
        · refine lv_iconst (v := 0) F.1 F.2.1 dL_isTick_136 (by decide) ?_
          exact hJ6 _ _ _ _ (if_neg h4).symm hW (lv_sub hl [0, 1, 2, 3, 4, 5, 6, 7, 8, 9, 10, 11, 12, 13, 14, 15, 16, 17] rfl)
        · refine lv_aload_n F.1 F.2.1 dL_isTick_125 rfl (lv_at hl 1 rfl) ?_
          refine lv_iload F.1 F.2.1 dL_isTick_126 (lv_at hl 0 rfl) ?_
          refine lv_bipush (v := 6) F.1 F.2.1 dL_isTick_128 (by decide) ?_
          refine jcir (jrunV (As := [.int (nI j), .int 6]) (rest := [.int (nI j), .ref (ea E 13 1)]) F hT hW yc_X6_ofLine yv_X6_ofLine ml_L_8 oH0 (by decide) rfl (r_ofLine l E (fo μ 13 S3) (hB13 hB) (wc13 hc) (nI j) 6) rfl hl.1 ⟨Nat.le_of_ble_eq_true rfl, Nat.le_of_ble_eq_true rfl⟩ rfl (Nat.le_of_ble_eq_true rfl) ⟨by decide, by decide⟩ dL_isTick_130) hW (fun H locs hW => ?_)
          refine lv_goto (tgt := 137) F.1 F.2.1 dL_isTick_133 (by decide) ?_
          exact hJ6 _ _ _ _ (if_pos h4).symm hW (lv_sub hl [0, 1, 2, 3, 4, 5, 6, 7, 8, 9, 10, 11, 12, 13, 14, 15, 16, 17] rfl)
  exact hL2 n 0 A _ _ _ (by omega) rfl hW (lv_sub hl [0, 1, 2, 3, 4, 5, 6, 7, 8, 9, 10, 11, 12, 13, 14, 15, 16, 17] rfl)
def q_T2_481 (B A : Sv) (n : Nat) (j : Nat) (σ : Int32) : Int32 :=
  let v1 : Int32 := σ
  let v15 : Int32 := (if (A 0 j) = 1 then (if 0 ≤ (A 3 j) then v1 else (if (p_X3_numberOfLine B (nI j) 4) = 0 then (if (p_L_present B (nI j) (A 0 j) (A 1 j)) < (p_X3_numberOfAll B 18) then v1 else (let v8 : Int32 := (if 0 ≤ v1 then p_L_present B v1 1 (A 1 (cn v1)) else (-1)); (let v13 : Int32 := (if v8 < (p_L_present B (nI j) (A 0 j) (A 1 j)) then nI j else (if (p_L_present B (nI j) (A 0 j) (A 1 j)) = v8 then (if (A 1 j) ≤ (A 1 (cn v1)) then v1 else nI j) else v1)); v13))) else v1)) else v1)
  v15
def g_T2 (B A : Sv) (n : Nat) : Int32 :=
  let v1 : Int32 := (itN (q_T2_481 B A n) n ((-1)))
  v1
set_option maxHeartbeats 4000000 in
set_option maxRecDepth 100000 in
theorem sg_T2 {p : Program} {l : Launch} {e : Env} {s : State} {m : MethodId} {args : Array Value} {below : List Frame} {meth : Method} {c : Code} {Q : State → Prop} {E : mE} {μ : Mu} {H : Heap} {locs : List Loc} {ls : Array Slot} (F : CallFix p m c cL_isTick 27 s args TB RL) (hT : Stat E s) (B A : Sv) (n : Nat) {u17 u18 u19 u20 u21 : Int32} (hE : nlc E = 15) (hB : μ 0 = B) (hc : Wc μ) (hn12 : n ≤ 12) (hpr : ∀ j, j < n → 0 ≤ p_L_present B (nI j) (A 0 j) (A 1 j)) (hW : Wd E s H locs (fo μ 13 A)) (hl : lv_has ls 27 [(0, .ref (ea E 11 0)), (1, .int (nI n)), (2, .ref (ea E 13 0)), (3, .ref (ea E 13 1)), (4, .ref (ea E 13 2)), (5, .ref (ea E 13 3)), (6, .ref (ea E 13 4)), (7, .ref (ea E 13 5)), (8, .ref (ea E 13 6)), (9, .ref (ea E 13 7)), (10, .ref (ea E 13 8)), (11, .ref (ea E 13 9)), (12, .ref (ea E 13 10)), (13, .ref (ea E 13 11)), (14, .ref (ea E 13 12)), (15, .ref (ea E 13 13)), (16, .ref (ea E 13 14)), (17, .int u17), (18, .int u18), (19, .int u19), (20, .int u20), (21, .int u21)])
    (kk : ∀ (w22 : Int32) (H : Heap) (locs : List Loc) (ls : Array Slot), w22 = g_T2 B A n → Wd E s H locs (fo μ 13 A) → lv_has ls 27 [(0, .ref (ea E 11 0)), (1, .int (nI n)), (2, .ref (ea E 13 0)), (3, .ref (ea E 13 1)), (4, .ref (ea E 13 2)), (5, .ref (ea E 13 3)), (6, .ref (ea E 13 4)), (7, .ref (ea E 13 5)), (8, .ref (ea E 13 6)), (9, .ref (ea E 13 7)), (10, .ref (ea E 13 8)), (11, .ref (ea E 13 9)), (12, .ref (ea E 13 10)), (13, .ref (ea E 13 11)), (14, .ref (ea E 13 12)), (15, .ref (ea E 13 13)), (16, .ref (ea E 13 14)), (17, .int u17), (18, .int u18), (19, .int u19), (20, .int u20), (21, .int u21), (22, .int w22)] → W p l e (rmC 6 136 16 177) s m args below meth c H locs 15 165 Q (F0 m 602 ls [])) : W p l e (rmC 6 136 16 177) s m args below meth c H locs 15 165 Q (F0 m 475 ls []) := by
  refine lv_iconst (v := (-1)) F.1 F.2.1 dL_isTick_475 (by decide) ?_
  refine lv_istore (lv' := [(22, .int (-1)), (0, .ref (ea E 11 0)), (1, .int (nI n)), (2, .ref (ea E 13 0)), (3, .ref (ea E 13 1)), (4, .ref (ea E 13 2)), (5, .ref (ea E 13 3)), (6, .ref (ea E 13 4)), (7, .ref (ea E 13 5)), (8, .ref (ea E 13 6)), (9, .ref (ea E 13 7)), (10, .ref (ea E 13 8)), (11, .ref (ea E 13 9)), (12, .ref (ea E 13 10)), (13, .ref (ea E 13 11)), (14, .ref (ea E 13 12)), (15, .ref (ea E 13 13)), (16, .ref (ea E 13 14)), (17, .int u17), (18, .int u18), (19, .int u19), (20, .int u20), (21, .int u21)]) F.1 F.2.1 dL_isTick_476 hl (by decide) rfl (fun ls hl => ?_)
  refine lv_iconst (v := 0) F.1 F.2.1 dL_isTick_478 (by decide) ?_
  refine lv_istore (lv' := [(23, .int 0), (22, .int (-1)), (0, .ref (ea E 11 0)), (1, .int (nI n)), (2, .ref (ea E 13 0)), (3, .ref (ea E 13 1)), (4, .ref (ea E 13 2)), (5, .ref (ea E 13 3)), (6, .ref (ea E 13 4)), (7, .ref (ea E 13 5)), (8, .ref (ea E 13 6)), (9, .ref (ea E 13 7)), (10, .ref (ea E 13 8)), (11, .ref (ea E 13 9)), (12, .ref (ea E 13 10)), (13, .ref (ea E 13 11)), (14, .ref (ea E 13 12)), (15, .ref (ea E 13 13)), (16, .ref (ea E 13 14)), (17, .int u17), (18, .int u18), (19, .int u19), (20, .int u20), (21, .int u21)]) F.1 F.2.1 dL_isTick_479 hl (by decide) rfl (fun ls hl => ?_)
  have hL2 : ∀ (fu j : Nat) (v1 : Int32) (H : Heap) (locs : List Loc) (ls : Array Slot), j + fu = n → (v1) = itN (q_T2_481 B A n) j ((-1)) → v1 = (-1) ∨ Bn v1 11 → Wd E s H locs (fo μ 13 A) → lv_has ls 27 [(23, .int (nI j)), (22, .int v1), (0, .ref (ea E 11 0)), (1, .int (nI n)), (2, .ref (ea E 13 0)), (3, .ref (ea E 13 1)), (4, .ref (ea E 13 2)), (5, .ref (ea E 13 3)), (6, .ref (ea E 13 4)), (7, .ref (ea E 13 5)), (8, .ref (ea E 13 6)), (9, .ref (ea E 13 7)), (10, .ref (ea E 13 8)), (11, .ref (ea E 13 9)), (12, .ref (ea E 13 10)), (13, .ref (ea E 13 11)), (14, .ref (ea E 13 12)), (15, .ref (ea E 13 13)), (16, .ref (ea E 13 14)), (17, .int u17), (18, .int u18), (19, .int u19), (20, .int u20), (21, .int u21)] → W p l e (rmC 6 136 16 177) s m args below meth c H locs 15 165 Q (F0 m 481 ls []) := by
    intro fu
    induction fu with
    | zero =>
      intro j v1 H locs ls hj hs hb hW hl
      obtain rfl : n = j := by omega
      have ev1 := hs
      refine lv_iload F.1 F.2.1 dL_isTick_481 (lv_at hl 0 rfl) ?_
      refine lv_iload_n F.1 F.2.1 dL_isTick_483 rfl (lv_at hl 3 rfl) ?_
      refine lv_icmp_ge (tgt := 602) F.1 F.2.1 dL_isTick_484 (by decide) (fun h3 => ?_) (fun h3 => ?_)
      · have hq : v1 = g_T2 B A n := by
          subst ev1
          exact (rfl).symm
        exact kk _ _ _ _ hq hW (lv_sub hl [2, 3, 4, 5, 6, 7, 8, 9, 10, 11, 12, 13, 14, 15, 16, 17, 18, 19, 20, 21, 22, 23, 1] rfl)
      · exact absurd (c_le rfl rfl (by omega) (by omega)) h3
    | succ fu ih =>
      intro j v1 H locs ls hj hs hb hW hl
      refine lv_iload F.1 F.2.1 dL_isTick_481 (lv_at hl 0 rfl) ?_
      refine lv_iload_n F.1 F.2.1 dL_isTick_483 rfl (lv_at hl 3 rfl) ?_
      refine lv_icmp_ge (tgt := 602) F.1 F.2.1 dL_isTick_484 (by decide) (fun h2 => ?_) (fun h2 => ?_)
      · exact absurd h2 (c_nle rfl rfl (by omega) (by omega))
      · refine lv_aload_n F.1 F.2.1 dL_isTick_487 rfl (lv_at hl 2 rfl) ?_
        refine lv_iload F.1 F.2.1 dL_isTick_488 (lv_at hl 0 rfl) ?_
        refine lv_aload_n F.1 F.2.1 dL_isTick_490 rfl (lv_at hl 4 rfl) ?_
        refine lv_iload F.1 F.2.1 dL_isTick_491 (lv_at hl 0 rfl) ?_
        refine jiald F hT hW j (o13 0 (k := 12) (by omega)) (by omega) (by decide) rfl rfl dL_isTick_493 ?_
        refine lv_aload_n F.1 F.2.1 dL_isTick_494 rfl (lv_at hl 5 rfl) ?_
        refine lv_iload F.1 F.2.1 dL_isTick_495 (lv_at hl 0 rfl) ?_
        refine jiald F hT hW j (o13 1 (k := 12) (by omega)) (by omega) (by decide) rfl rfl dL_isTick_497 ?_
        refine jcir (jrunS (As := [.ref (ea E 11 0), .int (nI j), .int (A 0 j), .int (A 1 j)]) (rest := []) F hT hW yc_L_present ys_L_present ml_L_18 (r_present l E (fo μ 13 A) (hB13 hB) (wc13 hc) (nI j) (A 0 j) (A 1 j)) rfl hl.1 ⟨Nat.le_of_ble_eq_true rfl, Nat.le_of_ble_eq_true rfl⟩ rfl (Nat.le_of_ble_eq_true rfl) ⟨by decide, by decide⟩ dL_isTick_498) hW (fun H locs hW => ?_)
        refine lv_istore (lv' := [(24, .int (p_L_present B (nI j) (A 0 j) (A 1 j))), (23, .int (nI j)), (22, .int v1), (0, .ref (ea E 11 0)), (1, .int (nI n)), (2, .ref (ea E 13 0)), (3, .ref (ea E 13 1)), (4, .ref (ea E 13 2)), (5, .ref (ea E 13 3)), (6, .ref (ea E 13 4)), (7, .ref (ea E 13 5)), (8, .ref (ea E 13 6)), (9, .ref (ea E 13 7)), (10, .ref (ea E 13 8)), (11, .ref (ea E 13 9)), (12, .ref (ea E 13 10)), (13, .ref (ea E 13 11)), (14, .ref (ea E 13 12)), (15, .ref (ea E 13 13)), (16, .ref (ea E 13 14)), (17, .int u17), (18, .int u18), (19, .int u19), (20, .int u20), (21, .int u21)]) F.1 F.2.1 dL_isTick_501 hl (by decide) rfl (fun ls hl => ?_)
        refine lv_aload_n F.1 F.2.1 dL_isTick_503 rfl (lv_at hl 5 rfl) ?_
        refine lv_iload F.1 F.2.1 dL_isTick_504 (lv_at hl 1 rfl) ?_
        refine jiald F hT hW j (o13 0 (k := 12) (by omega)) (by omega) (by decide) rfl rfl dL_isTick_506 ?_
        refine lv_iconst (v := 1) F.1 F.2.1 dL_isTick_507 (by decide) ?_
        have hJ16 : ∀ (v15 : Int32) (H : Heap) (locs : List Loc) (ls : Array Slot), v15 = (if (A 0 j) = 1 then (if 0 ≤ (A 3 j) then v1 else (if (p_X3_numberOfLine B (nI j) 4) = 0 then (if (p_L_present B (nI j) (A 0 j) (A 1 j)) < (p_X3_numberOfAll B 18) then v1 else (let v8 : Int32 := (if 0 ≤ v1 then p_L_present B v1 1 (A 1 (cn v1)) else (-1)); (let v13 : Int32 := (if v8 < (p_L_present B (nI j) (A 0 j) (A 1 j)) then nI j else (if (p_L_present B (nI j) (A 0 j) (A 1 j)) = v8 then (if (A 1 j) ≤ (A 1 (cn v1)) then v1 else nI j) else v1)); v13))) else v1)) else v1) → Wd E s H locs (fo μ 13 A) → lv_has ls 27 [(24, .int (p_L_present B (nI j) (A 0 j) (A 1 j))), (23, .int (nI j)), (22, .int v15), (0, .ref (ea E 11 0)), (1, .int (nI n)), (2, .ref (ea E 13 0)), (3, .ref (ea E 13 1)), (4, .ref (ea E 13 2)), (5, .ref (ea E 13 3)), (6, .ref (ea E 13 4)), (7, .ref (ea E 13 5)), (8, .ref (ea E 13 6)), (9, .ref (ea E 13 7)), (10, .ref (ea E 13 8)), (11, .ref (ea E 13 9)), (12, .ref (ea E 13 10)), (13, .ref (ea E 13 11)), (14, .ref (ea E 13 12)), (15, .ref (ea E 13 13)), (16, .ref (ea E 13 14)), (17, .int u17), (18, .int u18), (19, .int u19), (20, .int u20), (21, .int u21)] → W p l e (rmC 6 136 16 177) s m args below meth c H locs 15 165 Q (F0 m 596 ls []) := by
          intro v15 H locs ls ev15 hW hl
          refine lv_iinc (v := nI (j + 1)) (lv' := [(23, .int (nI (j + 1))), (24, .int (p_L_present B (nI j) (A 0 j) (A 1 j))), (22, .int v15), (0, .ref (ea E 11 0)), (1, .int (nI n)), (2, .ref (ea E 13 0)), (3, .ref (ea E 13 1)), (4, .ref (ea E 13 2)), (5, .ref (ea E 13 3)), (6, .ref (ea E 13 4)), (7, .ref (ea E 13 5)), (8, .ref (ea E 13 6)), (9, .ref (ea E 13 7)), (10, .ref (ea E 13 8)), (11, .ref (ea E 13 9)), (12, .ref (ea E 13 10)), (13, .ref (ea E 13 11)), (14, .ref (ea E 13 12)), (15, .ref (ea E 13 13)), (16, .ref (ea E 13 14)), (17, .int u17), (18, .int u18), (19, .int u19), (20, .int u20), (21, .int u21)]) F.1 F.2.1 dL_isTick_596 hl (k := 1) rfl (ia rfl rfl) (by decide) rfl (fun ls hl => ?_)
          refine lv_goto (tgt := 481) F.1 F.2.1 dL_isTick_599 (by decide) ?_
          subst ev15
          exact ih (j + 1) _ _ _ _ (by omega) (by rw [itN_s, ← hs]; exact (rfl).symm) (by repeat' (first | exact hb | exact Or.inr (bnI (by omega) (by omega)) | refine iteP (P := fun z => z = (-1) ∨ Bn z 11) ?_ ?_)) hW (lv_sub hl [0, 2, 3, 4, 5, 6, 7, 8, 9, 10, 11, 12, 13, 14, 15, 16, 17, 18, 19, 20, 21, 22, 23, 24] rfl)
        refine lv_icmp_ne (tgt := 596) F.1 F.2.1 dL_isTick_508 (by decide) (fun h3 => ?_) (fun h3 => ?_)
        · exact hJ16 _ _ _ _ (if_neg h3).symm hW (lv_sub hl [0, 1, 2, 3, 4, 5, 6, 7, 8, 9, 10, 11, 12, 13, 14, 15, 16, 17, 18, 19, 20, 21, 22, 23, 24] rfl)
        · refine lv_aload F.1 F.2.1 dL_isTick_511 (lv_at hl 8 rfl) ?_
          refine lv_iload F.1 F.2.1 dL_isTick_513 (lv_at hl 1 rfl) ?_
          refine jiald F hT hW j (o13 3 (k := 12) (by omega)) (by omega) (by decide) rfl rfl dL_isTick_515 ?_
          refine lv_if_ge (tgt := 596) F.1 F.2.1 dL_isTick_516 (by decide) (fun h4 => ?_) (fun h4 => ?_)
          · exact hJ16 _ _ _ _ ((if_pos h3).trans (if_pos h4)).symm hW (lv_sub hl [0, 1, 2, 3, 4, 5, 6, 7, 8, 9, 10, 11, 12, 13, 14, 15, 16, 17, 18, 19, 20, 21, 22, 23, 24] rfl)
          · refine lv_aload_n F.1 F.2.1 dL_isTick_519 rfl (lv_at hl 3 rfl) ?_
            refine lv_iload F.1 F.2.1 dL_isTick_520 (lv_at hl 1 rfl) ?_
            refine lv_iconst (v := 4) F.1 F.2.1 dL_isTick_522 (by decide) ?_
            refine jcir (jrunV (As := [.int (nI j), .int 4]) (rest := []) F hT hW yc_X6_ofLine yv_X6_ofLine ml_L_8 oH0 (by decide) rfl (r_ofLine l E (fo μ 13 A) (hB13 hB) (wc13 hc) (nI j) 4) rfl hl.1 ⟨Nat.le_of_ble_eq_true rfl, Nat.le_of_ble_eq_true rfl⟩ rfl (Nat.le_of_ble_eq_true rfl) ⟨by decide, by decide⟩ dL_isTick_523) hW (fun H locs hW => ?_)
            refine lv_if_ne (tgt := 596) F.1 F.2.1 dL_isTick_526 (by decide) (fun h5 => ?_) (fun h5 => ?_)
            · exact hJ16 _ _ _ _ ((if_pos h3).trans ((if_neg h4).trans (if_neg h5))).symm hW (lv_sub hl [0, 1, 2, 3, 4, 5, 6, 7, 8, 9, 10, 11, 12, 13, 14, 15, 16, 17, 18, 19, 20, 21, 22, 23, 24] rfl)
            · refine lv_iload F.1 F.2.1 dL_isTick_529 (lv_at hl 0 rfl) ?_
              refine lv_aload_n F.1 F.2.1 dL_isTick_531 rfl (lv_at hl 3 rfl) ?_
              refine lv_bipush (v := 18) F.1 F.2.1 dL_isTick_532 (by decide) ?_
              refine jcir (jrunV (As := [.int 18]) (rest := [.int (p_L_present B (nI j) (A 0 j) (A 1 j))]) F hT hW yc_X6_count yv_X6_count ml_L_14 oH0 (by decide) rfl (r_count l E (fo μ 13 A) (hB13 hB) (wc13 hc) 18 (by decide) (by decide)) rfl hl.1 ⟨Nat.le_of_ble_eq_true rfl, Nat.le_of_ble_eq_true rfl⟩ rfl (Nat.le_of_ble_eq_true rfl) ⟨by decide, by decide⟩ dL_isTick_534) hW (fun H locs hW => ?_)
              refine lv_icmp_lt (tgt := 596) F.1 F.2.1 dL_isTick_537 (by decide) (fun h6 => ?_) (fun h6 => ?_)
              · exact hJ16 _ _ _ _ ((if_pos h3).trans ((if_neg h4).trans ((if_pos h5).trans (if_pos h6)))).symm hW (lv_sub hl [0, 1, 2, 3, 4, 5, 6, 7, 8, 9, 10, 11, 12, 13, 14, 15, 16, 17, 18, 19, 20, 21, 22, 23, 24] rfl)
              · refine lv_iload F.1 F.2.1 dL_isTick_540 (lv_at hl 2 rfl) ?_
                have hJ9 : ∀ (v8 : Int32) (H : Heap) (locs : List Loc) (ls : Array Slot), v8 = (if 0 ≤ v1 then p_L_present B v1 1 (A 1 (cn v1)) else (-1)) → Wd E s H locs (fo μ 13 A) → lv_has ls 27 [(24, .int (p_L_present B (nI j) (A 0 j) (A 1 j))), (23, .int (nI j)), (22, .int v1), (0, .ref (ea E 11 0)), (1, .int (nI n)), (2, .ref (ea E 13 0)), (3, .ref (ea E 13 1)), (4, .ref (ea E 13 2)), (5, .ref (ea E 13 3)), (6, .ref (ea E 13 4)), (7, .ref (ea E 13 5)), (8, .ref (ea E 13 6)), (9, .ref (ea E 13 7)), (10, .ref (ea E 13 8)), (11, .ref (ea E 13 9)), (12, .ref (ea E 13 10)), (13, .ref (ea E 13 11)), (14, .ref (ea E 13 12)), (15, .ref (ea E 13 13)), (16, .ref (ea E 13 14)), (17, .int u17), (18, .int u18), (19, .int u19), (20, .int u20), (21, .int u21)] → W p l e (rmC 6 136 16 177) s m args below meth c H locs 15 165 Q (F0 m 560 ls [.int v8]) := by
                  intro v8 H locs ls ev8 hW hl
                  refine lv_istore (lv' := [(25, .int v8), (24, .int (p_L_present B (nI j) (A 0 j) (A 1 j))), (23, .int (nI j)), (22, .int v1), (0, .ref (ea E 11 0)), (1, .int (nI n)), (2, .ref (ea E 13 0)), (3, .ref (ea E 13 1)), (4, .ref (ea E 13 2)), (5, .ref (ea E 13 3)), (6, .ref (ea E 13 4)), (7, .ref (ea E 13 5)), (8, .ref (ea E 13 6)), (9, .ref (ea E 13 7)), (10, .ref (ea E 13 8)), (11, .ref (ea E 13 9)), (12, .ref (ea E 13 10)), (13, .ref (ea E 13 11)), (14, .ref (ea E 13 12)), (15, .ref (ea E 13 13)), (16, .ref (ea E 13 14)), (17, .int u17), (18, .int u18), (19, .int u19), (20, .int u20), (21, .int u21)]) F.1 F.2.1 dL_isTick_560 hl (by decide) rfl (fun ls hl => ?_)
                  refine lv_iload F.1 F.2.1 dL_isTick_562 (lv_at hl 1 rfl) ?_
                  refine lv_iload F.1 F.2.1 dL_isTick_564 (lv_at hl 0 rfl) ?_
                  have hJ14 : ∀ (v13 : Int32) (H : Heap) (locs : List Loc) (ls : Array Slot), v13 = (if v8 < (p_L_present B (nI j) (A 0 j) (A 1 j)) then nI j else (if (p_L_present B (nI j) (A 0 j) (A 1 j)) = v8 then (if (A 1 j) ≤ (A 1 (cn v1)) then v1 else nI j) else v1)) → Wd E s H locs (fo μ 13 A) → lv_has ls 27 [(25, .int v8), (24, .int (p_L_present B (nI j) (A 0 j) (A 1 j))), (23, .int (nI j)), (22, .int v1), (0, .ref (ea E 11 0)), (1, .int (nI n)), (2, .ref (ea E 13 0)), (3, .ref (ea E 13 1)), (4, .ref (ea E 13 2)), (5, .ref (ea E 13 3)), (6, .ref (ea E 13 4)), (7, .ref (ea E 13 5)), (8, .ref (ea E 13 6)), (9, .ref (ea E 13 7)), (10, .ref (ea E 13 8)), (11, .ref (ea E 13 9)), (12, .ref (ea E 13 10)), (13, .ref (ea E 13 11)), (14, .ref (ea E 13 12)), (15, .ref (ea E 13 13)), (16, .ref (ea E 13 14)), (17, .int u17), (18, .int u18), (19, .int u19), (20, .int u20), (21, .int u21)] → W p l e (rmC 6 136 16 177) s m args below meth c H locs 15 165 Q (F0 m 594 ls [.int v13]) := by
                    intro v13 H locs ls ev13 hW hl
                    refine lv_istore (lv' := [(22, .int v13), (25, .int v8), (24, .int (p_L_present B (nI j) (A 0 j) (A 1 j))), (23, .int (nI j)), (0, .ref (ea E 11 0)), (1, .int (nI n)), (2, .ref (ea E 13 0)), (3, .ref (ea E 13 1)), (4, .ref (ea E 13 2)), (5, .ref (ea E 13 3)), (6, .ref (ea E 13 4)), (7, .ref (ea E 13 5)), (8, .ref (ea E 13 6)), (9, .ref (ea E 13 7)), (10, .ref (ea E 13 8)), (11, .ref (ea E 13 9)), (12, .ref (ea E 13 10)), (13, .ref (ea E 13 11)), (14, .ref (ea E 13 12)), (15, .ref (ea E 13 13)), (16, .ref (ea E 13 14)), (17, .int u17), (18, .int u18), (19, .int u19), (20, .int u20), (21, .int u21)]) F.1 F.2.1 dL_isTick_594 hl (by decide) rfl (fun ls hl => ?_)
                    subst ev13
                    subst ev8
                    exact hJ16 _ _ _ _ ((if_pos h3).trans ((if_neg h4).trans ((if_pos h5).trans (if_neg h6)))).symm hW (lv_sub hl [2, 3, 0, 4, 5, 6, 7, 8, 9, 10, 11, 12, 13, 14, 15, 16, 17, 18, 19, 20, 21, 22, 23, 24, 25] rfl)
                  refine lv_icmp_gt (tgt := 587) F.1 F.2.1 dL_isTick_566 (by decide) (fun h10 => ?_) (fun h10 => ?_)
                  · refine lv_iload F.1 F.2.1 dL_isTick_587 (lv_at hl 2 rfl) ?_
                    refine lv_goto (tgt := 594) F.1 F.2.1 dL_isTick_589 (by decide) ?_
                    exact hJ14 _ _ _ _ (if_pos h10).symm hW (lv_sub hl [0, 1, 2, 3, 4, 5, 6, 7, 8, 9, 10, 11, 12, 13, 14, 15, 16, 17, 18, 19, 20, 21, 22, 23, 24, 25] rfl)
                  · refine lv_iload F.1 F.2.1 dL_isTick_569 (lv_at hl 1 rfl) ?_
                    refine lv_iload F.1 F.2.1 dL_isTick_571 (lv_at hl 0 rfl) ?_
                    refine lv_icmp_ne (tgt := 592) F.1 F.2.1 dL_isTick_573 (by decide) (fun h11 => ?_) (fun h11 => ?_)
                    · refine lv_iload F.1 F.2.1 dL_isTick_592 (lv_at hl 3 rfl) ?_
                      exact hJ14 _ _ _ _ ((if_neg h10).trans (if_neg h11)).symm hW (lv_sub hl [0, 1, 2, 3, 4, 5, 6, 7, 8, 9, 10, 11, 12, 13, 14, 15, 16, 17, 18, 19, 20, 21, 22, 23, 24, 25] rfl)
                    · refine lv_aload_n F.1 F.2.1 dL_isTick_576 rfl (lv_at hl 7 rfl) ?_
                      refine lv_iload F.1 F.2.1 dL_isTick_577 (lv_at hl 2 rfl) ?_
                      have h22 : 0 ≤ v1 := fb_0 (hpr j (by omega)) ev8 (by assumption)
                      refine jiald F hT hW j (o13 1 (k := 12) (by omega)) (by omega) (by decide) rfl rfl dL_isTick_579 ?_
                      refine lv_aload_n F.1 F.2.1 dL_isTick_580 rfl (lv_at hl 7 rfl) ?_
                      refine lv_iload F.1 F.2.1 dL_isTick_581 (lv_at hl 3 rfl) ?_
                      refine jiald F hT hW (cn v1) (o13 1 (k := 12) (by omega)) (by first | exact fb_b hb (by assumption) (by decide) | exact fb_b2 hb (by assumption) (by decide)) (by decide) (by first | exact fb_n hb (by assumption) | exact fb_n2 hb (by assumption)) rfl dL_isTick_583 ?_
                      refine lv_icmp_le (tgt := 592) F.1 F.2.1 dL_isTick_584 (by decide) (fun h12 => ?_) (fun h12 => ?_)
                      · refine lv_iload F.1 F.2.1 dL_isTick_592 (lv_at hl 3 rfl) ?_
                        exact hJ14 _ _ _ _ ((if_neg h10).trans ((if_pos h11).trans (if_pos h12))).symm hW (lv_sub hl [0, 1, 2, 3, 4, 5, 6, 7, 8, 9, 10, 11, 12, 13, 14, 15, 16, 17, 18, 19, 20, 21, 22, 23, 24, 25] rfl)
                      · refine lv_iload F.1 F.2.1 dL_isTick_587 (lv_at hl 2 rfl) ?_
                        refine lv_goto (tgt := 594) F.1 F.2.1 dL_isTick_589 (by decide) ?_
                        exact hJ14 _ _ _ _ ((if_neg h10).trans ((if_pos h11).trans (if_neg h12))).symm hW (lv_sub hl [0, 1, 2, 3, 4, 5, 6, 7, 8, 9, 10, 11, 12, 13, 14, 15, 16, 17, 18, 19, 20, 21, 22, 23, 24, 25] rfl)
                refine lv_if_ge (tgt := 549) F.1 F.2.1 dL_isTick_542 (by decide) (fun h7 => ?_) (fun h7 => ?_)
                · refine lv_aload_n F.1 F.2.1 dL_isTick_549 rfl (lv_at hl 3 rfl) ?_
                  refine lv_iload F.1 F.2.1 dL_isTick_550 (lv_at hl 2 rfl) ?_
                  refine lv_iconst (v := 1) F.1 F.2.1 dL_isTick_552 (by decide) ?_
                  refine lv_aload_n F.1 F.2.1 dL_isTick_553 rfl (lv_at hl 6 rfl) ?_
                  refine lv_iload F.1 F.2.1 dL_isTick_554 (lv_at hl 2 rfl) ?_
                  refine jiald F hT hW (cn v1) (o13 1 (k := 12) (by omega)) (by first | exact fb_b hb (by assumption) (by decide) | exact fb_b2 hb (by assumption) (by decide)) (by decide) (by first | exact fb_n hb (by assumption) | exact fb_n2 hb (by assumption)) rfl dL_isTick_556 ?_
                  refine jcir (jrunS (As := [.ref (ea E 11 0), .int v1, .int 1, .int (A 1 (cn v1))]) (rest := []) F hT hW yc_L_present ys_L_present ml_L_18 (r_present l E (fo μ 13 A) (hB13 hB) (wc13 hc) v1 1 (A 1 (cn v1))) rfl hl.1 ⟨Nat.le_of_ble_eq_true rfl, Nat.le_of_ble_eq_true rfl⟩ rfl (Nat.le_of_ble_eq_true rfl) ⟨by decide, by decide⟩ dL_isTick_557) hW (fun H locs hW => ?_)
                  exact hJ9 _ _ _ _ (if_pos h7).symm hW (lv_sub hl [0, 1, 2, 3, 4, 5, 6, 7, 8, 9, 10, 11, 12, 13, 14, 15, 16, 17, 18, 19, 20, 21, 22, 23, 24] rfl)
                · refine lv_iconst (v := (-1)) F.1 F.2.1 dL_isTick_545 (by decide) ?_
                  refine lv_goto (tgt := 560) F.1 F.2.1 dL_isTick_546 (by decide) ?_
                  exact hJ9 _ _ _ _ (if_neg h7).symm hW (lv_sub hl [0, 1, 2, 3, 4, 5, 6, 7, 8, 9, 10, 11, 12, 13, 14, 15, 16, 17, 18, 19, 20, 21, 22, 23, 24] rfl)
  exact hL2 n 0 (-1) _ _ _ (by omega) rfl (Or.inl rfl) hW (lv_sub hl [0, 1, 2, 3, 4, 5, 6, 7, 8, 9, 10, 11, 12, 13, 14, 15, 16, 17, 18, 19, 20, 21, 22, 23] rfl)
def g_T3 (B A : Sv) (d : Nat) (u20 u21 u22 : Int32) : Sv × Int32 × Int32 × Int32 :=
  if u22 < 0 then
    (A, nI d, u20, u21)
  else
    if (p_X3_numberOfAll B 15) ≤ (nI d) then
      (A, nI d, u20, u21)
    else
      if (nI d) = 0 then
        let S4 : Sv := us A 11 d u22
        let S5 : Sv := us S4 12 d (p_L_present B u22 1 (S4 1 (cn u22)))
        let S6 : Sv := us S5 13 d ((p_X3_numberOfLine B u22 1) + (p_X3_numberOfAll B 16))
        let v8 : Int32 := (if (nI d) ≤ 0 then 0 else 1)
        let S10 : Sv := us S6 3 (cn u22) (nI d)
        let v12 : Int32 := (if (nI (d + 1)) ≤ u20 then u20 else nI (d + 1))
        let S14 : Sv := us S10 6 (cn u22) ((S10 6 (cn u22)) + 1)
        let S15 : Sv := us S14 9 (cn u22) ((S14 9 (cn u22)) + (S14 1 (cn u22)))
        let v17 : Int32 := (if (S15 1 (cn u22)) ≤ (S15 8 (cn u22)) then S15 8 (cn u22) else S15 1 (cn u22))
        let S19 : Sv := us S15 8 (cn u22) v17
        let v22 : Int32 := (if (p_X3_numberOfLine B u22 2) ≤ 0 then 0 else (if (S19 1 (cn u22)) ≤ (p_X3_numberOfLine B u22 2) then 0 else 1))
        let S24 : Sv := us S19 10 (cn u22) ((S19 10 (cn u22)) + v22)
        let S25 : Sv := us S24 0 (cn u22) 0
        (S25, nI (d + 1), v12, u21 + v8)
      else
        if (p_L_present B u22 1 (A 1 (cn u22))) < ((A 12 (d - 1)) + (p_X3_numberOfAll B 14)) then
          (A, nI d, u20, u21)
        else
          let S27 : Sv := us A 11 d u22
          let S28 : Sv := us S27 12 d (p_L_present B u22 1 (S27 1 (cn u22)))
          let S29 : Sv := us S28 13 d ((p_X3_numberOfLine B u22 1) + (p_X3_numberOfAll B 16))
          let v31 : Int32 := (if (nI d) ≤ 0 then 0 else 1)
          let S33 : Sv := us S29 3 (cn u22) (nI d)
          let v35 : Int32 := (if (nI (d + 1)) ≤ u20 then u20 else nI (d + 1))
          let S37 : Sv := us S33 6 (cn u22) ((S33 6 (cn u22)) + 1)
          let S38 : Sv := us S37 9 (cn u22) ((S37 9 (cn u22)) + (S37 1 (cn u22)))
          let v40 : Int32 := (if (S38 1 (cn u22)) ≤ (S38 8 (cn u22)) then S38 8 (cn u22) else S38 1 (cn u22))
          let S42 : Sv := us S38 8 (cn u22) v40
          let v45 : Int32 := (if (p_X3_numberOfLine B u22 2) ≤ 0 then 0 else (if (S42 1 (cn u22)) ≤ (p_X3_numberOfLine B u22 2) then 0 else 1))
          let S47 : Sv := us S42 10 (cn u22) ((S42 10 (cn u22)) + v45)
          let S48 : Sv := us S47 0 (cn u22) 0
          (S48, nI (d + 1), v35, u21 + v31)
set_option maxHeartbeats 4000000 in
set_option maxRecDepth 100000 in
theorem sg_T3 {p : Program} {l : Launch} {e : Env} {s : State} {m : MethodId} {args : Array Value} {below : List Frame} {meth : Method} {c : Code} {Q : State → Prop} {E : mE} {μ : Mu} {H : Heap} {locs : List Loc} {ls : Array Slot} (F : CallFix p m c cL_isTick 27 s args TB RL) (hT : Stat E s) (B A : Sv) (d : Nat) (u20 u21 u22 : Int32) {n : Nat} {u18 u19 : Int32} (hE : nlc E = 15) (hB : μ 0 = B) (hc : Wc μ) (hd8 : d ≤ 8) (hb : u22 = (-1) ∨ Bn u22 11) (hW : Wd E s H locs (fo μ 13 A)) (hl : lv_has ls 27 [(0, .ref (ea E 11 0)), (1, .int (nI n)), (2, .ref (ea E 13 0)), (3, .ref (ea E 13 1)), (4, .ref (ea E 13 2)), (5, .ref (ea E 13 3)), (6, .ref (ea E 13 4)), (7, .ref (ea E 13 5)), (8, .ref (ea E 13 6)), (9, .ref (ea E 13 7)), (10, .ref (ea E 13 8)), (11, .ref (ea E 13 9)), (12, .ref (ea E 13 10)), (13, .ref (ea E 13 11)), (14, .ref (ea E 13 12)), (15, .ref (ea E 13 13)), (16, .ref (ea E 13 14)), (17, .int (nI d)), (18, .int u18), (19, .int u19), (20, .int u20), (21, .int u21), (22, .int u22)])
    (kk : ∀ (S' : Sv) (w17 : Int32) (w20 : Int32) (w21 : Int32) (H : Heap) (locs : List Loc) (ls : Array Slot), (S', w17, w20, w21) = g_T3 B A d u20 u21 u22 → Wd E s H locs (fo μ 13 S') → lv_has ls 27 [(0, .ref (ea E 11 0)), (1, .int (nI n)), (2, .ref (ea E 13 0)), (3, .ref (ea E 13 1)), (4, .ref (ea E 13 2)), (5, .ref (ea E 13 3)), (6, .ref (ea E 13 4)), (7, .ref (ea E 13 5)), (8, .ref (ea E 13 6)), (9, .ref (ea E 13 7)), (10, .ref (ea E 13 8)), (11, .ref (ea E 13 9)), (12, .ref (ea E 13 10)), (13, .ref (ea E 13 11)), (14, .ref (ea E 13 12)), (15, .ref (ea E 13 13)), (16, .ref (ea E 13 14)), (17, .int w17), (18, .int u18), (19, .int u19), (20, .int w20), (21, .int w21), (22, .int u22)] → W p l e (rmC 6 136 16 177) s m args below meth c H locs 15 165 Q (F0 m 826 ls [])) : W p l e (rmC 6 136 16 177) s m args below meth c H locs 15 165 Q (F0 m 602 ls []) := by
  refine lv_iload F.1 F.2.1 dL_isTick_602 (lv_at hl 22 rfl) ?_
  refine lv_if_lt (tgt := 826) F.1 F.2.1 dL_isTick_604 (by decide) (fun h1 => ?_) (fun h1 => ?_)
  · have hq : (A, nI d, u20, u21) = g_T3 B A d u20 u21 u22 := by
      exact (if_pos h1).symm
    exact kk _ _ _ _ _ _ _ hq hW (lv_sub hl [0, 1, 2, 3, 4, 5, 6, 7, 8, 9, 10, 11, 12, 13, 14, 15, 16, 17, 18, 19, 20, 21, 22] rfl)
  · refine lv_iload F.1 F.2.1 dL_isTick_607 (lv_at hl 17 rfl) ?_
    refine lv_aload_n F.1 F.2.1 dL_isTick_609 rfl (lv_at hl 0 rfl) ?_
    refine lv_bipush (v := 15) F.1 F.2.1 dL_isTick_610 (by decide) ?_
    refine jcir (jrunV (As := [.int 15]) (rest := [.int (nI d)]) F hT hW yc_X6_count yv_X6_count ml_L_14 oH0 (by decide) rfl (r_count l E (fo μ 13 A) (hB13 hB) (wc13 hc) 15 (by decide) (by decide)) rfl hl.1 ⟨Nat.le_of_ble_eq_true rfl, Nat.le_of_ble_eq_true rfl⟩ rfl (Nat.le_of_ble_eq_true rfl) ⟨by decide, by decide⟩ dL_isTick_612) hW (fun H locs hW => ?_)
    refine lv_icmp_ge (tgt := 826) F.1 F.2.1 dL_isTick_615 (by decide) (fun h2 => ?_) (fun h2 => ?_)
    · have hq : (A, nI d, u20, u21) = g_T3 B A d u20 u21 u22 := by
        exact ((if_neg h1).trans (if_pos h2)).symm
      exact kk _ _ _ _ _ _ _ hq hW (lv_sub hl [0, 1, 2, 3, 4, 5, 6, 7, 8, 9, 10, 11, 12, 13, 14, 15, 16, 17, 18, 19, 20, 21, 22] rfl)
    · refine lv_iload F.1 F.2.1 dL_isTick_618 (lv_at hl 17 rfl) ?_
      refine lv_if_eq (tgt := 651) F.1 F.2.1 dL_isTick_620 (by decide) (fun h3 => ?_) (fun h3 => ?_)
      · refine lv_aload F.1 F.2.1 dL_isTick_651 (lv_at hl 13 rfl) ?_
        refine lv_iload F.1 F.2.1 dL_isTick_653 (lv_at hl 17 rfl) ?_
        refine lv_iload F.1 F.2.1 dL_isTick_655 (lv_at hl 22 rfl) ?_
        refine jiast F hT hW d (o13 11 (k := 9) (by omega)) (by decide) (by omega) (by decide) rfl rfl dL_isTick_657 (fun S4 H locs eS4 hW => ?_)
        refine lv_aload F.1 F.2.1 dL_isTick_658 (lv_at hl 14 rfl) ?_
        refine lv_iload F.1 F.2.1 dL_isTick_660 (lv_at hl 17 rfl) ?_
        refine lv_aload_n F.1 F.2.1 dL_isTick_662 rfl (lv_at hl 0 rfl) ?_
        refine lv_iload F.1 F.2.1 dL_isTick_663 (lv_at hl 22 rfl) ?_
        refine lv_iconst (v := 1) F.1 F.2.1 dL_isTick_665 (by decide) ?_
        refine lv_aload_n F.1 F.2.1 dL_isTick_666 rfl (lv_at hl 3 rfl) ?_
        refine lv_iload F.1 F.2.1 dL_isTick_667 (lv_at hl 22 rfl) ?_
        refine jiald F hT hW (cn u22) (o13 1 (k := 12) (by omega)) (by first | exact fb_b hb (by assumption) (by decide) | exact fb_b2 hb (by assumption) (by decide)) (by decide) (by first | exact fb_n hb (by assumption) | exact fb_n2 hb (by assumption)) rfl dL_isTick_669 ?_
        refine jcir (jrunS (As := [.ref (ea E 11 0), .int u22, .int 1, .int (S4 1 (cn u22))]) (rest := [.int (nI d), .ref (ea E 13 12)]) F hT hW yc_L_present ys_L_present ml_L_18 (r_present l E (fo μ 13 S4) (hB13 hB) (wc13 hc) u22 1 (S4 1 (cn u22))) rfl hl.1 ⟨Nat.le_of_ble_eq_true rfl, Nat.le_of_ble_eq_true rfl⟩ rfl (Nat.le_of_ble_eq_true rfl) ⟨by decide, by decide⟩ dL_isTick_670) hW (fun H locs hW => ?_)
        refine jiast F hT hW d (o13 12 (k := 9) (by omega)) (by decide) (by omega) (by decide) rfl rfl dL_isTick_673 (fun S5 H locs eS5 hW => ?_)
        refine lv_aload F.1 F.2.1 dL_isTick_674 (lv_at hl 15 rfl) ?_
        refine lv_iload F.1 F.2.1 dL_isTick_676 (lv_at hl 17 rfl) ?_
        refine lv_aload_n F.1 F.2.1 dL_isTick_678 rfl (lv_at hl 0 rfl) ?_
        refine lv_iload F.1 F.2.1 dL_isTick_679 (lv_at hl 22 rfl) ?_
        refine lv_iconst (v := 1) F.1 F.2.1 dL_isTick_681 (by decide) ?_
        refine jcir (jrunV (As := [.int u22, .int 1]) (rest := [.int (nI d), .ref (ea E 13 13)]) F hT hW yc_X6_ofLine yv_X6_ofLine ml_L_8 oH0 (by decide) rfl (r_ofLine l E (fo μ 13 S5) (hB13 hB) (wc13 hc) u22 1) rfl hl.1 ⟨Nat.le_of_ble_eq_true rfl, Nat.le_of_ble_eq_true rfl⟩ rfl (Nat.le_of_ble_eq_true rfl) ⟨by decide, by decide⟩ dL_isTick_682) hW (fun H locs hW => ?_)
        refine lv_aload_n F.1 F.2.1 dL_isTick_685 rfl (lv_at hl 0 rfl) ?_
        refine lv_bipush (v := 16) F.1 F.2.1 dL_isTick_686 (by decide) ?_
        refine jcir (jrunV (As := [.int 16]) (rest := [.int (p_X3_numberOfLine B u22 1), .int (nI d), .ref (ea E 13 13)]) F hT hW yc_X6_count yv_X6_count ml_L_14 oH0 (by decide) rfl (r_count l E (fo μ 13 S5) (hB13 hB) (wc13 hc) 16 (by decide) (by decide)) rfl hl.1 ⟨Nat.le_of_ble_eq_true rfl, Nat.le_of_ble_eq_true rfl⟩ rfl (Nat.le_of_ble_eq_true rfl) ⟨by decide, by decide⟩ dL_isTick_688) hW (fun H locs hW => ?_)
        refine lv_iadd F.1 F.2.1 dL_isTick_691 ?_
        refine jiast F hT hW d (o13 13 (k := 9) (by omega)) (by decide) (by omega) (by decide) rfl rfl dL_isTick_692 (fun S6 H locs eS6 hW => ?_)
        refine lv_iload F.1 F.2.1 dL_isTick_693 (lv_at hl 21 rfl) ?_
        refine lv_iload F.1 F.2.1 dL_isTick_695 (lv_at hl 17 rfl) ?_
        have hJ9 : ∀ (v8 : Int32) (H : Heap) (locs : List Loc) (ls : Array Slot), v8 = (if (nI d) ≤ 0 then 0 else 1) → Wd E s H locs (fo μ 13 S6) → lv_has ls 27 [(0, .ref (ea E 11 0)), (1, .int (nI n)), (2, .ref (ea E 13 0)), (3, .ref (ea E 13 1)), (4, .ref (ea E 13 2)), (5, .ref (ea E 13 3)), (6, .ref (ea E 13 4)), (7, .ref (ea E 13 5)), (8, .ref (ea E 13 6)), (9, .ref (ea E 13 7)), (10, .ref (ea E 13 8)), (11, .ref (ea E 13 9)), (12, .ref (ea E 13 10)), (13, .ref (ea E 13 11)), (14, .ref (ea E 13 12)), (15, .ref (ea E 13 13)), (16, .ref (ea E 13 14)), (17, .int (nI d)), (18, .int u18), (19, .int u19), (20, .int u20), (21, .int u21), (22, .int u22)] → W p l e (rmC 6 136 16 177) s m args below meth c H locs 15 165 Q (F0 m 705 ls [.int v8, .int u21]) := by
          intro v8 H locs ls ev8 hW hl
          refine lv_iadd F.1 F.2.1 dL_isTick_705 ?_
          refine lv_istore (lv' := [(21, .int (u21 + v8)), (0, .ref (ea E 11 0)), (1, .int (nI n)), (2, .ref (ea E 13 0)), (3, .ref (ea E 13 1)), (4, .ref (ea E 13 2)), (5, .ref (ea E 13 3)), (6, .ref (ea E 13 4)), (7, .ref (ea E 13 5)), (8, .ref (ea E 13 6)), (9, .ref (ea E 13 7)), (10, .ref (ea E 13 8)), (11, .ref (ea E 13 9)), (12, .ref (ea E 13 10)), (13, .ref (ea E 13 11)), (14, .ref (ea E 13 12)), (15, .ref (ea E 13 13)), (16, .ref (ea E 13 14)), (17, .int (nI d)), (18, .int u18), (19, .int u19), (20, .int u20), (22, .int u22)]) F.1 F.2.1 dL_isTick_706 hl (by decide) rfl (fun ls hl => ?_)
          refine lv_aload F.1 F.2.1 dL_isTick_708 (lv_at hl 6 rfl) ?_
          refine lv_iload F.1 F.2.1 dL_isTick_710 (lv_at hl 22 rfl) ?_
          refine lv_iload F.1 F.2.1 dL_isTick_712 (lv_at hl 18 rfl) ?_
          refine jiast F hT hW (cn u22) (o13 3 (k := 12) (by omega)) (by decide) (by first | exact fb_b hb (by assumption) (by decide) | exact fb_b2 hb (by assumption) (by decide)) (by decide) (by first | exact fb_n hb (by assumption) | exact fb_n2 hb (by assumption)) rfl dL_isTick_714 (fun S10 H locs eS10 hW => ?_)
          refine lv_iinc (v := nI (d + 1)) (lv' := [(17, .int (nI (d + 1))), (21, .int (u21 + v8)), (0, .ref (ea E 11 0)), (1, .int (nI n)), (2, .ref (ea E 13 0)), (3, .ref (ea E 13 1)), (4, .ref (ea E 13 2)), (5, .ref (ea E 13 3)), (6, .ref (ea E 13 4)), (7, .ref (ea E 13 5)), (8, .ref (ea E 13 6)), (9, .ref (ea E 13 7)), (10, .ref (ea E 13 8)), (11, .ref (ea E 13 9)), (12, .ref (ea E 13 10)), (13, .ref (ea E 13 11)), (14, .ref (ea E 13 12)), (15, .ref (ea E 13 13)), (16, .ref (ea E 13 14)), (18, .int u18), (19, .int u19), (20, .int u20), (22, .int u22)]) F.1 F.2.1 dL_isTick_715 hl (k := 18) rfl (ia rfl rfl) (by decide) rfl (fun ls hl => ?_)
          refine lv_iload F.1 F.2.1 dL_isTick_718 (lv_at hl 0 rfl) ?_
          refine lv_iload F.1 F.2.1 dL_isTick_720 (lv_at hl 21 rfl) ?_
          have hJ13 : ∀ (v12 : Int32) (H : Heap) (locs : List Loc) (ls : Array Slot), v12 = (if (nI (d + 1)) ≤ u20 then u20 else nI (d + 1)) → Wd E s H locs (fo μ 13 S10) → lv_has ls 27 [(17, .int (nI (d + 1))), (21, .int (u21 + v8)), (0, .ref (ea E 11 0)), (1, .int (nI n)), (2, .ref (ea E 13 0)), (3, .ref (ea E 13 1)), (4, .ref (ea E 13 2)), (5, .ref (ea E 13 3)), (6, .ref (ea E 13 4)), (7, .ref (ea E 13 5)), (8, .ref (ea E 13 6)), (9, .ref (ea E 13 7)), (10, .ref (ea E 13 8)), (11, .ref (ea E 13 9)), (12, .ref (ea E 13 10)), (13, .ref (ea E 13 11)), (14, .ref (ea E 13 12)), (15, .ref (ea E 13 13)), (16, .ref (ea E 13 14)), (18, .int u18), (19, .int u19), (20, .int u20), (22, .int u22)] → W p l e (rmC 6 136 16 177) s m args below meth c H locs 15 165 Q (F0 m 732 ls [.int v12]) := by
            intro v12 H locs ls ev12 hW hl
            refine lv_istore (lv' := [(20, .int v12), (17, .int (nI (d + 1))), (21, .int (u21 + v8)), (0, .ref (ea E 11 0)), (1, .int (nI n)), (2, .ref (ea E 13 0)), (3, .ref (ea E 13 1)), (4, .ref (ea E 13 2)), (5, .ref (ea E 13 3)), (6, .ref (ea E 13 4)), (7, .ref (ea E 13 5)), (8, .ref (ea E 13 6)), (9, .ref (ea E 13 7)), (10, .ref (ea E 13 8)), (11, .ref (ea E 13 9)), (12, .ref (ea E 13 10)), (13, .ref (ea E 13 11)), (14, .ref (ea E 13 12)), (15, .ref (ea E 13 13)), (16, .ref (ea E 13 14)), (18, .int u18), (19, .int u19), (22, .int u22)]) F.1 F.2.1 dL_isTick_732 hl (by decide) rfl (fun ls hl => ?_)
            refine lv_aload F.1 F.2.1 dL_isTick_734 (lv_at hl 11 rfl) ?_
            refine lv_iload F.1 F.2.1 dL_isTick_736 (lv_at hl 22 rfl) ?_
            refine lv_dup2_11 F.1 F.2.1 dL_isTick_738 rfl rfl ?_
            refine jiald F hT hW (cn u22) (o13 6 (k := 12) (by omega)) (by first | exact fb_b hb (by assumption) (by decide) | exact fb_b2 hb (by assumption) (by decide)) (by decide) (by first | exact fb_n hb (by assumption) | exact fb_n2 hb (by assumption)) rfl dL_isTick_739 ?_
            refine lv_iconst (v := 1) F.1 F.2.1 dL_isTick_740 (by decide) ?_
            refine lv_iadd F.1 F.2.1 dL_isTick_741 ?_
            refine jiast F hT hW (cn u22) (o13 6 (k := 12) (by omega)) (by decide) (by first | exact fb_b hb (by assumption) (by decide) | exact fb_b2 hb (by assumption) (by decide)) (by decide) (by first | exact fb_n hb (by assumption) | exact fb_n2 hb (by assumption)) rfl dL_isTick_742 (fun S14 H locs eS14 hW => ?_)
            refine lv_aload F.1 F.2.1 dL_isTick_743 (lv_at hl 14 rfl) ?_
            refine lv_iload F.1 F.2.1 dL_isTick_745 (lv_at hl 22 rfl) ?_
            refine lv_dup2_11 F.1 F.2.1 dL_isTick_747 rfl rfl ?_
            refine jiald F hT hW (cn u22) (o13 9 (k := 12) (by omega)) (by first | exact fb_b hb (by assumption) (by decide) | exact fb_b2 hb (by assumption) (by decide)) (by decide) (by first | exact fb_n hb (by assumption) | exact fb_n2 hb (by assumption)) rfl dL_isTick_748 ?_
            refine lv_aload_n F.1 F.2.1 dL_isTick_749 rfl (lv_at hl 6 rfl) ?_
            refine lv_iload F.1 F.2.1 dL_isTick_750 (lv_at hl 22 rfl) ?_
            refine jiald F hT hW (cn u22) (o13 1 (k := 12) (by omega)) (by first | exact fb_b hb (by assumption) (by decide) | exact fb_b2 hb (by assumption) (by decide)) (by decide) (by first | exact fb_n hb (by assumption) | exact fb_n2 hb (by assumption)) rfl dL_isTick_752 ?_
            refine lv_iadd F.1 F.2.1 dL_isTick_753 ?_
            refine jiast F hT hW (cn u22) (o13 9 (k := 12) (by omega)) (by decide) (by first | exact fb_b hb (by assumption) (by decide) | exact fb_b2 hb (by assumption) (by decide)) (by decide) (by first | exact fb_n hb (by assumption) | exact fb_n2 hb (by assumption)) rfl dL_isTick_754 (fun S15 H locs eS15 hW => ?_)
            refine lv_aload F.1 F.2.1 dL_isTick_755 (lv_at hl 13 rfl) ?_
            refine lv_iload F.1 F.2.1 dL_isTick_757 (lv_at hl 22 rfl) ?_
            refine lv_aload_n F.1 F.2.1 dL_isTick_759 rfl (lv_at hl 6 rfl) ?_
            refine lv_iload F.1 F.2.1 dL_isTick_760 (lv_at hl 22 rfl) ?_
            refine jiald F hT hW (cn u22) (o13 1 (k := 12) (by omega)) (by first | exact fb_b hb (by assumption) (by decide) | exact fb_b2 hb (by assumption) (by decide)) (by decide) (by first | exact fb_n hb (by assumption) | exact fb_n2 hb (by assumption)) rfl dL_isTick_762 ?_
            refine lv_aload F.1 F.2.1 dL_isTick_763 (lv_at hl 13 rfl) ?_
            refine lv_iload F.1 F.2.1 dL_isTick_765 (lv_at hl 22 rfl) ?_
            refine jiald F hT hW (cn u22) (o13 8 (k := 12) (by omega)) (by first | exact fb_b hb (by assumption) (by decide) | exact fb_b2 hb (by assumption) (by decide)) (by decide) (by first | exact fb_n hb (by assumption) | exact fb_n2 hb (by assumption)) rfl dL_isTick_767 ?_
            have hJ18 : ∀ (v17 : Int32) (H : Heap) (locs : List Loc) (ls : Array Slot), v17 = (if (S15 1 (cn u22)) ≤ (S15 8 (cn u22)) then S15 8 (cn u22) else S15 1 (cn u22)) → Wd E s H locs (fo μ 13 S15) → lv_has ls 27 [(20, .int v12), (17, .int (nI (d + 1))), (21, .int (u21 + v8)), (0, .ref (ea E 11 0)), (1, .int (nI n)), (2, .ref (ea E 13 0)), (3, .ref (ea E 13 1)), (4, .ref (ea E 13 2)), (5, .ref (ea E 13 3)), (6, .ref (ea E 13 4)), (7, .ref (ea E 13 5)), (8, .ref (ea E 13 6)), (9, .ref (ea E 13 7)), (10, .ref (ea E 13 8)), (11, .ref (ea E 13 9)), (12, .ref (ea E 13 10)), (13, .ref (ea E 13 11)), (14, .ref (ea E 13 12)), (15, .ref (ea E 13 13)), (16, .ref (ea E 13 14)), (18, .int u18), (19, .int u19), (22, .int u22)] → W p l e (rmC 6 136 16 177) s m args below meth c H locs 15 165 Q (F0 m 783 ls [.int v17, .int u22, .ref (ea E 13 8)]) := by
              intro v17 H locs ls ev17 hW hl
              refine jiast F hT hW (cn u22) (o13 8 (k := 12) (by omega)) (by decide) (by first | exact fb_b hb (by assumption) (by decide) | exact fb_b2 hb (by assumption) (by decide)) (by decide) (by first | exact fb_n hb (by assumption) | exact fb_n2 hb (by assumption)) rfl dL_isTick_783 (fun S19 H locs eS19 hW => ?_)
              refine lv_aload F.1 F.2.1 dL_isTick_784 (lv_at hl 15 rfl) ?_
              refine lv_iload F.1 F.2.1 dL_isTick_786 (lv_at hl 22 rfl) ?_
              refine lv_dup2_11 F.1 F.2.1 dL_isTick_788 rfl rfl ?_
              refine jiald F hT hW (cn u22) (o13 10 (k := 12) (by omega)) (by first | exact fb_b hb (by assumption) (by decide) | exact fb_b2 hb (by assumption) (by decide)) (by decide) (by first | exact fb_n hb (by assumption) | exact fb_n2 hb (by assumption)) rfl dL_isTick_789 ?_
              refine lv_aload_n F.1 F.2.1 dL_isTick_790 rfl (lv_at hl 3 rfl) ?_
              refine lv_iload F.1 F.2.1 dL_isTick_791 (lv_at hl 22 rfl) ?_
              refine lv_iconst (v := 2) F.1 F.2.1 dL_isTick_793 (by decide) ?_
              refine jcir (jrunV (As := [.int u22, .int 2]) (rest := [.int (S19 10 (cn u22)), .int u22, .ref (ea E 13 10)]) F hT hW yc_X6_ofLine yv_X6_ofLine ml_L_8 oH0 (by decide) rfl (r_ofLine l E (fo μ 13 S19) (hB13 hB) (wc13 hc) u22 2) rfl hl.1 ⟨Nat.le_of_ble_eq_true rfl, Nat.le_of_ble_eq_true rfl⟩ rfl (Nat.le_of_ble_eq_true rfl) ⟨by decide, by decide⟩ dL_isTick_794) hW (fun H locs hW => ?_)
              have hJ23 : ∀ (v22 : Int32) (H : Heap) (locs : List Loc) (ls : Array Slot), v22 = (if (p_X3_numberOfLine B u22 2) ≤ 0 then 0 else (if (S19 1 (cn u22)) ≤ (p_X3_numberOfLine B u22 2) then 0 else 1)) → Wd E s H locs (fo μ 13 S19) → lv_has ls 27 [(20, .int v12), (17, .int (nI (d + 1))), (21, .int (u21 + v8)), (0, .ref (ea E 11 0)), (1, .int (nI n)), (2, .ref (ea E 13 0)), (3, .ref (ea E 13 1)), (4, .ref (ea E 13 2)), (5, .ref (ea E 13 3)), (6, .ref (ea E 13 4)), (7, .ref (ea E 13 5)), (8, .ref (ea E 13 6)), (9, .ref (ea E 13 7)), (10, .ref (ea E 13 8)), (11, .ref (ea E 13 9)), (12, .ref (ea E 13 10)), (13, .ref (ea E 13 11)), (14, .ref (ea E 13 12)), (15, .ref (ea E 13 13)), (16, .ref (ea E 13 14)), (18, .int u18), (19, .int u19), (22, .int u22)] → W p l e (rmC 6 136 16 177) s m args below meth c H locs 15 165 Q (F0 m 819 ls [.int v22, .int (S19 10 (cn u22)), .int u22, .ref (ea E 13 10)]) := by
                intro v22 H locs ls ev22 hW hl
                refine lv_iadd F.1 F.2.1 dL_isTick_819 ?_
                refine jiast F hT hW (cn u22) (o13 10 (k := 12) (by omega)) (by decide) (by first | exact fb_b hb (by assumption) (by decide) | exact fb_b2 hb (by assumption) (by decide)) (by decide) (by first | exact fb_n hb (by assumption) | exact fb_n2 hb (by assumption)) rfl dL_isTick_820 (fun S24 H locs eS24 hW => ?_)
                refine lv_aload_n F.1 F.2.1 dL_isTick_821 rfl (lv_at hl 5 rfl) ?_
                refine lv_iload F.1 F.2.1 dL_isTick_822 (lv_at hl 22 rfl) ?_
                refine lv_iconst (v := 0) F.1 F.2.1 dL_isTick_824 (by decide) ?_
                refine jiast F hT hW (cn u22) (o13 0 (k := 12) (by omega)) (by decide) (by first | exact fb_b hb (by assumption) (by decide) | exact fb_b2 hb (by assumption) (by decide)) (by decide) (by first | exact fb_n hb (by assumption) | exact fb_n2 hb (by assumption)) rfl dL_isTick_825 (fun S25 H locs eS25 hW => ?_)
                have hq : (S25, nI (d + 1), v12, u21 + v8) = g_T3 B A d u20 u21 u22 := by
                  subst eS25
                  subst eS24
                  subst ev22
                  subst eS19
                  subst ev17
                  subst eS15
                  subst eS14
                  subst ev12
                  subst eS10
                  subst ev8
                  subst eS6
                  subst eS5
                  subst eS4
                  exact ((if_neg h1).trans ((if_neg h2).trans (if_pos h3))).symm
                exact kk _ _ _ _ _ _ _ hq hW (lv_sub hl [3, 4, 5, 6, 7, 8, 9, 10, 11, 12, 13, 14, 15, 16, 17, 18, 19, 1, 20, 21, 0, 2, 22] rfl)
              refine lv_if_le (tgt := 818) F.1 F.2.1 dL_isTick_797 (by decide) (fun h20 => ?_) (fun h20 => ?_)
              · refine lv_iconst (v := 0) F.1 F.2.1 dL_isTick_818 (by decide) ?_
                exact hJ23 _ _ _ _ (if_pos h20).symm hW (lv_sub hl [0, 1, 2, 3, 4, 5, 6, 7, 8, 9, 10, 11, 12, 13, 14, 15, 16, 17, 18, 19, 20, 21, 22] rfl)
              · refine lv_aload_n F.1 F.2.1 dL_isTick_800 rfl (lv_at hl 6 rfl) ?_
                refine lv_iload F.1 F.2.1 dL_isTick_801 (lv_at hl 22 rfl) ?_
                refine jiald F hT hW (cn u22) (o13 1 (k := 12) (by omega)) (by first | exact fb_b hb (by assumption) (by decide) | exact fb_b2 hb (by assumption) (by decide)) (by decide) (by first | exact fb_n hb (by assumption) | exact fb_n2 hb (by assumption)) rfl dL_isTick_803 ?_
                refine lv_aload_n F.1 F.2.1 dL_isTick_804 rfl (lv_at hl 3 rfl) ?_
                refine lv_iload F.1 F.2.1 dL_isTick_805 (lv_at hl 22 rfl) ?_
                refine lv_iconst (v := 2) F.1 F.2.1 dL_isTick_807 (by decide) ?_
                refine jcir (jrunV (As := [.int u22, .int 2]) (rest := [.int (S19 1 (cn u22)), .int (S19 10 (cn u22)), .int u22, .ref (ea E 13 10)]) F hT hW yc_X6_ofLine yv_X6_ofLine ml_L_8 oH0 (by decide) rfl (r_ofLine l E (fo μ 13 S19) (hB13 hB) (wc13 hc) u22 2) rfl hl.1 ⟨Nat.le_of_ble_eq_true rfl, Nat.le_of_ble_eq_true rfl⟩ rfl (Nat.le_of_ble_eq_true rfl) ⟨by decide, by decide⟩ dL_isTick_808) hW (fun H locs hW => ?_)
                refine lv_icmp_le (tgt := 818) F.1 F.2.1 dL_isTick_811 (by decide) (fun h21 => ?_) (fun h21 => ?_)
                · refine lv_iconst (v := 0) F.1 F.2.1 dL_isTick_818 (by decide) ?_
                  exact hJ23 _ _ _ _ ((if_neg h20).trans (if_pos h21)).symm hW (lv_sub hl [0, 1, 2, 3, 4, 5, 6, 7, 8, 9, 10, 11, 12, 13, 14, 15, 16, 17, 18, 19, 20, 21, 22] rfl)
                · refine lv_iconst (v := 1) F.1 F.2.1 dL_isTick_814 (by decide) ?_
                  refine lv_goto (tgt := 819) F.1 F.2.1 dL_isTick_815 (by decide) ?_
                  exact hJ23 _ _ _ _ ((if_neg h20).trans (if_neg h21)).symm hW (lv_sub hl [0, 1, 2, 3, 4, 5, 6, 7, 8, 9, 10, 11, 12, 13, 14, 15, 16, 17, 18, 19, 20, 21, 22] rfl)
            refine lv_icmp_le (tgt := 778) F.1 F.2.1 dL_isTick_768 (by decide) (fun h16 => ?_) (fun h16 => ?_)
            · refine lv_aload F.1 F.2.1 dL_isTick_778 (lv_at hl 13 rfl) ?_
              refine lv_iload F.1 F.2.1 dL_isTick_780 (lv_at hl 22 rfl) ?_
              refine jiald F hT hW (cn u22) (o13 8 (k := 12) (by omega)) (by first | exact fb_b hb (by assumption) (by decide) | exact fb_b2 hb (by assumption) (by decide)) (by decide) (by first | exact fb_n hb (by assumption) | exact fb_n2 hb (by assumption)) rfl dL_isTick_782 ?_
              exact hJ18 _ _ _ _ (if_pos h16).symm hW (lv_sub hl [0, 1, 2, 3, 4, 5, 6, 7, 8, 9, 10, 11, 12, 13, 14, 15, 16, 17, 18, 19, 20, 21, 22] rfl)
            · refine lv_aload_n F.1 F.2.1 dL_isTick_771 rfl (lv_at hl 6 rfl) ?_
              refine lv_iload F.1 F.2.1 dL_isTick_772 (lv_at hl 22 rfl) ?_
              refine jiald F hT hW (cn u22) (o13 1 (k := 12) (by omega)) (by first | exact fb_b hb (by assumption) (by decide) | exact fb_b2 hb (by assumption) (by decide)) (by decide) (by first | exact fb_n hb (by assumption) | exact fb_n2 hb (by assumption)) rfl dL_isTick_774 ?_
              refine lv_goto (tgt := 783) F.1 F.2.1 dL_isTick_775 (by decide) ?_
              exact hJ18 _ _ _ _ (if_neg h16).symm hW (lv_sub hl [0, 1, 2, 3, 4, 5, 6, 7, 8, 9, 10, 11, 12, 13, 14, 15, 16, 17, 18, 19, 20, 21, 22] rfl)
          refine lv_icmp_le (tgt := 730) F.1 F.2.1 dL_isTick_722 (by decide) (fun h11 => ?_) (fun h11 => ?_)
          · refine lv_iload F.1 F.2.1 dL_isTick_730 (lv_at hl 21 rfl) ?_
            exact hJ13 _ _ _ _ (if_pos h11).symm hW (lv_sub hl [0, 1, 2, 3, 4, 5, 6, 7, 8, 9, 10, 11, 12, 13, 14, 15, 16, 17, 18, 19, 20, 21, 22] rfl)
          · refine lv_iload F.1 F.2.1 dL_isTick_725 (lv_at hl 0 rfl) ?_
            refine lv_goto (tgt := 732) F.1 F.2.1 dL_isTick_727 (by decide) ?_
            exact hJ13 _ _ _ _ (if_neg h11).symm hW (lv_sub hl [0, 1, 2, 3, 4, 5, 6, 7, 8, 9, 10, 11, 12, 13, 14, 15, 16, 17, 18, 19, 20, 21, 22] rfl)
        refine lv_if_le (tgt := 704) F.1 F.2.1 dL_isTick_697 (by decide) (fun h7 => ?_) (fun h7 => ?_)
        · refine lv_iconst (v := 0) F.1 F.2.1 dL_isTick_704 (by decide) ?_
          exact hJ9 _ _ _ _ (if_pos h7).symm hW (lv_sub hl [0, 1, 2, 3, 4, 5, 6, 7, 8, 9, 10, 11, 12, 13, 14, 15, 16, 17, 18, 19, 20, 21, 22] rfl)
        · refine lv_iconst (v := 1) F.1 F.2.1 dL_isTick_700 (by decide) ?_
          refine lv_goto (tgt := 705) F.1 F.2.1 dL_isTick_701 (by decide) ?_
          exact hJ9 _ _ _ _ (if_neg h7).symm hW (lv_sub hl [0, 1, 2, 3, 4, 5, 6, 7, 8, 9, 10, 11, 12, 13, 14, 15, 16, 17, 18, 19, 20, 21, 22] rfl)
      · refine lv_aload_n F.1 F.2.1 dL_isTick_623 rfl (lv_at hl 0 rfl) ?_
        refine lv_iload F.1 F.2.1 dL_isTick_624 (lv_at hl 22 rfl) ?_
        refine lv_iconst (v := 1) F.1 F.2.1 dL_isTick_626 (by decide) ?_
        refine lv_aload_n F.1 F.2.1 dL_isTick_627 rfl (lv_at hl 3 rfl) ?_
        refine lv_iload F.1 F.2.1 dL_isTick_628 (lv_at hl 22 rfl) ?_
        refine jiald F hT hW (cn u22) (o13 1 (k := 12) (by omega)) (by first | exact fb_b hb (by assumption) (by decide) | exact fb_b2 hb (by assumption) (by decide)) (by decide) (by first | exact fb_n hb (by assumption) | exact fb_n2 hb (by assumption)) rfl dL_isTick_630 ?_
        refine jcir (jrunS (As := [.ref (ea E 11 0), .int u22, .int 1, .int (A 1 (cn u22))]) (rest := []) F hT hW yc_L_present ys_L_present ml_L_18 (r_present l E (fo μ 13 A) (hB13 hB) (wc13 hc) u22 1 (A 1 (cn u22))) rfl hl.1 ⟨Nat.le_of_ble_eq_true rfl, Nat.le_of_ble_eq_true rfl⟩ rfl (Nat.le_of_ble_eq_true rfl) ⟨by decide, by decide⟩ dL_isTick_631) hW (fun H locs hW => ?_)
        have hd0 : 0 < d := nI_z0 (by assumption)
        refine lv_aload F.1 F.2.1 dL_isTick_634 (lv_at hl 14 rfl) ?_
        refine lv_iload F.1 F.2.1 dL_isTick_636 (lv_at hl 17 rfl) ?_
        refine lv_iconst (v := 1) F.1 F.2.1 dL_isTick_638 (by decide) ?_
        refine lv_isub F.1 F.2.1 dL_isTick_639 ?_
        refine jiald F hT hW (d - 1) (o13 12 (k := 9) (by omega)) (by omega) (by decide) (isb rfl (lI 1) (by omega)) rfl dL_isTick_640 ?_
        refine lv_aload_n F.1 F.2.1 dL_isTick_641 rfl (lv_at hl 0 rfl) ?_
        refine lv_bipush (v := 14) F.1 F.2.1 dL_isTick_642 (by decide) ?_
        refine jcir (jrunV (As := [.int 14]) (rest := [.int (A 12 (d - 1)), .int (p_L_present B u22 1 (A 1 (cn u22)))]) F hT hW yc_X6_count yv_X6_count ml_L_14 oH0 (by decide) rfl (r_count l E (fo μ 13 A) (hB13 hB) (wc13 hc) 14 (by decide) (by decide)) rfl hl.1 ⟨Nat.le_of_ble_eq_true rfl, Nat.le_of_ble_eq_true rfl⟩ rfl (Nat.le_of_ble_eq_true rfl) ⟨by decide, by decide⟩ dL_isTick_644) hW (fun H locs hW => ?_)
        refine lv_iadd F.1 F.2.1 dL_isTick_647 ?_
        refine lv_icmp_lt (tgt := 826) F.1 F.2.1 dL_isTick_648 (by decide) (fun h26 => ?_) (fun h26 => ?_)
        · have hq : (A, nI d, u20, u21) = g_T3 B A d u20 u21 u22 := by
            exact ((if_neg h1).trans ((if_neg h2).trans ((if_neg h3).trans (if_pos h26)))).symm
          exact kk _ _ _ _ _ _ _ hq hW (lv_sub hl [0, 1, 2, 3, 4, 5, 6, 7, 8, 9, 10, 11, 12, 13, 14, 15, 16, 17, 18, 19, 20, 21, 22] rfl)
        · refine lv_aload F.1 F.2.1 dL_isTick_651 (lv_at hl 13 rfl) ?_
          refine lv_iload F.1 F.2.1 dL_isTick_653 (lv_at hl 17 rfl) ?_
          refine lv_iload F.1 F.2.1 dL_isTick_655 (lv_at hl 22 rfl) ?_
          refine jiast F hT hW d (o13 11 (k := 9) (by omega)) (by decide) (by omega) (by decide) rfl rfl dL_isTick_657 (fun S27 H locs eS27 hW => ?_)
          refine lv_aload F.1 F.2.1 dL_isTick_658 (lv_at hl 14 rfl) ?_
          refine lv_iload F.1 F.2.1 dL_isTick_660 (lv_at hl 17 rfl) ?_
          refine lv_aload_n F.1 F.2.1 dL_isTick_662 rfl (lv_at hl 0 rfl) ?_
          refine lv_iload F.1 F.2.1 dL_isTick_663 (lv_at hl 22 rfl) ?_
          refine lv_iconst (v := 1) F.1 F.2.1 dL_isTick_665 (by decide) ?_
          refine lv_aload_n F.1 F.2.1 dL_isTick_666 rfl (lv_at hl 3 rfl) ?_
          refine lv_iload F.1 F.2.1 dL_isTick_667 (lv_at hl 22 rfl) ?_
          refine jiald F hT hW (cn u22) (o13 1 (k := 12) (by omega)) (by first | exact fb_b hb (by assumption) (by decide) | exact fb_b2 hb (by assumption) (by decide)) (by decide) (by first | exact fb_n hb (by assumption) | exact fb_n2 hb (by assumption)) rfl dL_isTick_669 ?_
          refine jcir (jrunS (As := [.ref (ea E 11 0), .int u22, .int 1, .int (S27 1 (cn u22))]) (rest := [.int (nI d), .ref (ea E 13 12)]) F hT hW yc_L_present ys_L_present ml_L_18 (r_present l E (fo μ 13 S27) (hB13 hB) (wc13 hc) u22 1 (S27 1 (cn u22))) rfl hl.1 ⟨Nat.le_of_ble_eq_true rfl, Nat.le_of_ble_eq_true rfl⟩ rfl (Nat.le_of_ble_eq_true rfl) ⟨by decide, by decide⟩ dL_isTick_670) hW (fun H locs hW => ?_)
          refine jiast F hT hW d (o13 12 (k := 9) (by omega)) (by decide) (by omega) (by decide) rfl rfl dL_isTick_673 (fun S28 H locs eS28 hW => ?_)
          refine lv_aload F.1 F.2.1 dL_isTick_674 (lv_at hl 15 rfl) ?_
          refine lv_iload F.1 F.2.1 dL_isTick_676 (lv_at hl 17 rfl) ?_
          refine lv_aload_n F.1 F.2.1 dL_isTick_678 rfl (lv_at hl 0 rfl) ?_
          refine lv_iload F.1 F.2.1 dL_isTick_679 (lv_at hl 22 rfl) ?_
          refine lv_iconst (v := 1) F.1 F.2.1 dL_isTick_681 (by decide) ?_
          refine jcir (jrunV (As := [.int u22, .int 1]) (rest := [.int (nI d), .ref (ea E 13 13)]) F hT hW yc_X6_ofLine yv_X6_ofLine ml_L_8 oH0 (by decide) rfl (r_ofLine l E (fo μ 13 S28) (hB13 hB) (wc13 hc) u22 1) rfl hl.1 ⟨Nat.le_of_ble_eq_true rfl, Nat.le_of_ble_eq_true rfl⟩ rfl (Nat.le_of_ble_eq_true rfl) ⟨by decide, by decide⟩ dL_isTick_682) hW (fun H locs hW => ?_)
          refine lv_aload_n F.1 F.2.1 dL_isTick_685 rfl (lv_at hl 0 rfl) ?_
          refine lv_bipush (v := 16) F.1 F.2.1 dL_isTick_686 (by decide) ?_
          refine jcir (jrunV (As := [.int 16]) (rest := [.int (p_X3_numberOfLine B u22 1), .int (nI d), .ref (ea E 13 13)]) F hT hW yc_X6_count yv_X6_count ml_L_14 oH0 (by decide) rfl (r_count l E (fo μ 13 S28) (hB13 hB) (wc13 hc) 16 (by decide) (by decide)) rfl hl.1 ⟨Nat.le_of_ble_eq_true rfl, Nat.le_of_ble_eq_true rfl⟩ rfl (Nat.le_of_ble_eq_true rfl) ⟨by decide, by decide⟩ dL_isTick_688) hW (fun H locs hW => ?_)
          refine lv_iadd F.1 F.2.1 dL_isTick_691 ?_
          refine jiast F hT hW d (o13 13 (k := 9) (by omega)) (by decide) (by omega) (by decide) rfl rfl dL_isTick_692 (fun S29 H locs eS29 hW => ?_)
          refine lv_iload F.1 F.2.1 dL_isTick_693 (lv_at hl 21 rfl) ?_
          refine lv_iload F.1 F.2.1 dL_isTick_695 (lv_at hl 17 rfl) ?_
          have hJ32 : ∀ (v31 : Int32) (H : Heap) (locs : List Loc) (ls : Array Slot), v31 = (if (nI d) ≤ 0 then 0 else 1) → Wd E s H locs (fo μ 13 S29) → lv_has ls 27 [(0, .ref (ea E 11 0)), (1, .int (nI n)), (2, .ref (ea E 13 0)), (3, .ref (ea E 13 1)), (4, .ref (ea E 13 2)), (5, .ref (ea E 13 3)), (6, .ref (ea E 13 4)), (7, .ref (ea E 13 5)), (8, .ref (ea E 13 6)), (9, .ref (ea E 13 7)), (10, .ref (ea E 13 8)), (11, .ref (ea E 13 9)), (12, .ref (ea E 13 10)), (13, .ref (ea E 13 11)), (14, .ref (ea E 13 12)), (15, .ref (ea E 13 13)), (16, .ref (ea E 13 14)), (17, .int (nI d)), (18, .int u18), (19, .int u19), (20, .int u20), (21, .int u21), (22, .int u22)] → W p l e (rmC 6 136 16 177) s m args below meth c H locs 15 165 Q (F0 m 705 ls [.int v31, .int u21]) := by
            intro v31 H locs ls ev31 hW hl
            refine lv_iadd F.1 F.2.1 dL_isTick_705 ?_
            refine lv_istore (lv' := [(21, .int (u21 + v31)), (0, .ref (ea E 11 0)), (1, .int (nI n)), (2, .ref (ea E 13 0)), (3, .ref (ea E 13 1)), (4, .ref (ea E 13 2)), (5, .ref (ea E 13 3)), (6, .ref (ea E 13 4)), (7, .ref (ea E 13 5)), (8, .ref (ea E 13 6)), (9, .ref (ea E 13 7)), (10, .ref (ea E 13 8)), (11, .ref (ea E 13 9)), (12, .ref (ea E 13 10)), (13, .ref (ea E 13 11)), (14, .ref (ea E 13 12)), (15, .ref (ea E 13 13)), (16, .ref (ea E 13 14)), (17, .int (nI d)), (18, .int u18), (19, .int u19), (20, .int u20), (22, .int u22)]) F.1 F.2.1 dL_isTick_706 hl (by decide) rfl (fun ls hl => ?_)
            refine lv_aload F.1 F.2.1 dL_isTick_708 (lv_at hl 6 rfl) ?_
            refine lv_iload F.1 F.2.1 dL_isTick_710 (lv_at hl 22 rfl) ?_
            refine lv_iload F.1 F.2.1 dL_isTick_712 (lv_at hl 18 rfl) ?_
            refine jiast F hT hW (cn u22) (o13 3 (k := 12) (by omega)) (by decide) (by first | exact fb_b hb (by assumption) (by decide) | exact fb_b2 hb (by assumption) (by decide)) (by decide) (by first | exact fb_n hb (by assumption) | exact fb_n2 hb (by assumption)) rfl dL_isTick_714 (fun S33 H locs eS33 hW => ?_)
            refine lv_iinc (v := nI (d + 1)) (lv' := [(17, .int (nI (d + 1))), (21, .int (u21 + v31)), (0, .ref (ea E 11 0)), (1, .int (nI n)), (2, .ref (ea E 13 0)), (3, .ref (ea E 13 1)), (4, .ref (ea E 13 2)), (5, .ref (ea E 13 3)), (6, .ref (ea E 13 4)), (7, .ref (ea E 13 5)), (8, .ref (ea E 13 6)), (9, .ref (ea E 13 7)), (10, .ref (ea E 13 8)), (11, .ref (ea E 13 9)), (12, .ref (ea E 13 10)), (13, .ref (ea E 13 11)), (14, .ref (ea E 13 12)), (15, .ref (ea E 13 13)), (16, .ref (ea E 13 14)), (18, .int u18), (19, .int u19), (20, .int u20), (22, .int u22)]) F.1 F.2.1 dL_isTick_715 hl (k := 18) rfl (ia rfl rfl) (by decide) rfl (fun ls hl => ?_)
            refine lv_iload F.1 F.2.1 dL_isTick_718 (lv_at hl 0 rfl) ?_
            refine lv_iload F.1 F.2.1 dL_isTick_720 (lv_at hl 21 rfl) ?_
            have hJ36 : ∀ (v35 : Int32) (H : Heap) (locs : List Loc) (ls : Array Slot), v35 = (if (nI (d + 1)) ≤ u20 then u20 else nI (d + 1)) → Wd E s H locs (fo μ 13 S33) → lv_has ls 27 [(17, .int (nI (d + 1))), (21, .int (u21 + v31)), (0, .ref (ea E 11 0)), (1, .int (nI n)), (2, .ref (ea E 13 0)), (3, .ref (ea E 13 1)), (4, .ref (ea E 13 2)), (5, .ref (ea E 13 3)), (6, .ref (ea E 13 4)), (7, .ref (ea E 13 5)), (8, .ref (ea E 13 6)), (9, .ref (ea E 13 7)), (10, .ref (ea E 13 8)), (11, .ref (ea E 13 9)), (12, .ref (ea E 13 10)), (13, .ref (ea E 13 11)), (14, .ref (ea E 13 12)), (15, .ref (ea E 13 13)), (16, .ref (ea E 13 14)), (18, .int u18), (19, .int u19), (20, .int u20), (22, .int u22)] → W p l e (rmC 6 136 16 177) s m args below meth c H locs 15 165 Q (F0 m 732 ls [.int v35]) := by
              intro v35 H locs ls ev35 hW hl
              refine lv_istore (lv' := [(20, .int v35), (17, .int (nI (d + 1))), (21, .int (u21 + v31)), (0, .ref (ea E 11 0)), (1, .int (nI n)), (2, .ref (ea E 13 0)), (3, .ref (ea E 13 1)), (4, .ref (ea E 13 2)), (5, .ref (ea E 13 3)), (6, .ref (ea E 13 4)), (7, .ref (ea E 13 5)), (8, .ref (ea E 13 6)), (9, .ref (ea E 13 7)), (10, .ref (ea E 13 8)), (11, .ref (ea E 13 9)), (12, .ref (ea E 13 10)), (13, .ref (ea E 13 11)), (14, .ref (ea E 13 12)), (15, .ref (ea E 13 13)), (16, .ref (ea E 13 14)), (18, .int u18), (19, .int u19), (22, .int u22)]) F.1 F.2.1 dL_isTick_732 hl (by decide) rfl (fun ls hl => ?_)
              refine lv_aload F.1 F.2.1 dL_isTick_734 (lv_at hl 11 rfl) ?_
              refine lv_iload F.1 F.2.1 dL_isTick_736 (lv_at hl 22 rfl) ?_
              refine lv_dup2_11 F.1 F.2.1 dL_isTick_738 rfl rfl ?_
              refine jiald F hT hW (cn u22) (o13 6 (k := 12) (by omega)) (by first | exact fb_b hb (by assumption) (by decide) | exact fb_b2 hb (by assumption) (by decide)) (by decide) (by first | exact fb_n hb (by assumption) | exact fb_n2 hb (by assumption)) rfl dL_isTick_739 ?_
              refine lv_iconst (v := 1) F.1 F.2.1 dL_isTick_740 (by decide) ?_
              refine lv_iadd F.1 F.2.1 dL_isTick_741 ?_
              refine jiast F hT hW (cn u22) (o13 6 (k := 12) (by omega)) (by decide) (by first | exact fb_b hb (by assumption) (by decide) | exact fb_b2 hb (by assumption) (by decide)) (by decide) (by first | exact fb_n hb (by assumption) | exact fb_n2 hb (by assumption)) rfl dL_isTick_742 (fun S37 H locs eS37 hW => ?_)
              refine lv_aload F.1 F.2.1 dL_isTick_743 (lv_at hl 14 rfl) ?_
              refine lv_iload F.1 F.2.1 dL_isTick_745 (lv_at hl 22 rfl) ?_
              refine lv_dup2_11 F.1 F.2.1 dL_isTick_747 rfl rfl ?_
              refine jiald F hT hW (cn u22) (o13 9 (k := 12) (by omega)) (by first | exact fb_b hb (by assumption) (by decide) | exact fb_b2 hb (by assumption) (by decide)) (by decide) (by first | exact fb_n hb (by assumption) | exact fb_n2 hb (by assumption)) rfl dL_isTick_748 ?_
              refine lv_aload_n F.1 F.2.1 dL_isTick_749 rfl (lv_at hl 6 rfl) ?_
              refine lv_iload F.1 F.2.1 dL_isTick_750 (lv_at hl 22 rfl) ?_
              refine jiald F hT hW (cn u22) (o13 1 (k := 12) (by omega)) (by first | exact fb_b hb (by assumption) (by decide) | exact fb_b2 hb (by assumption) (by decide)) (by decide) (by first | exact fb_n hb (by assumption) | exact fb_n2 hb (by assumption)) rfl dL_isTick_752 ?_
              refine lv_iadd F.1 F.2.1 dL_isTick_753 ?_
              refine jiast F hT hW (cn u22) (o13 9 (k := 12) (by omega)) (by decide) (by first | exact fb_b hb (by assumption) (by decide) | exact fb_b2 hb (by assumption) (by decide)) (by decide) (by first | exact fb_n hb (by assumption) | exact fb_n2 hb (by assumption)) rfl dL_isTick_754 (fun S38 H locs eS38 hW => ?_)
              refine lv_aload F.1 F.2.1 dL_isTick_755 (lv_at hl 13 rfl) ?_
              refine lv_iload F.1 F.2.1 dL_isTick_757 (lv_at hl 22 rfl) ?_
              refine lv_aload_n F.1 F.2.1 dL_isTick_759 rfl (lv_at hl 6 rfl) ?_
              refine lv_iload F.1 F.2.1 dL_isTick_760 (lv_at hl 22 rfl) ?_
              refine jiald F hT hW (cn u22) (o13 1 (k := 12) (by omega)) (by first | exact fb_b hb (by assumption) (by decide) | exact fb_b2 hb (by assumption) (by decide)) (by decide) (by first | exact fb_n hb (by assumption) | exact fb_n2 hb (by assumption)) rfl dL_isTick_762 ?_
              refine lv_aload F.1 F.2.1 dL_isTick_763 (lv_at hl 13 rfl) ?_
              refine lv_iload F.1 F.2.1 dL_isTick_765 (lv_at hl 22 rfl) ?_
              refine jiald F hT hW (cn u22) (o13 8 (k := 12) (by omega)) (by first | exact fb_b hb (by assumption) (by decide) | exact fb_b2 hb (by assumption) (by decide)) (by decide) (by first | exact fb_n hb (by assumption) | exact fb_n2 hb (by assumption)) rfl dL_isTick_767 ?_
              have hJ41 : ∀ (v40 : Int32) (H : Heap) (locs : List Loc) (ls : Array Slot), v40 = (if (S38 1 (cn u22)) ≤ (S38 8 (cn u22)) then S38 8 (cn u22) else S38 1 (cn u22)) → Wd E s H locs (fo μ 13 S38) → lv_has ls 27 [(20, .int v35), (17, .int (nI (d + 1))), (21, .int (u21 + v31)), (0, .ref (ea E 11 0)), (1, .int (nI n)), (2, .ref (ea E 13 0)), (3, .ref (ea E 13 1)), (4, .ref (ea E 13 2)), (5, .ref (ea E 13 3)), (6, .ref (ea E 13 4)), (7, .ref (ea E 13 5)), (8, .ref (ea E 13 6)), (9, .ref (ea E 13 7)), (10, .ref (ea E 13 8)), (11, .ref (ea E 13 9)), (12, .ref (ea E 13 10)), (13, .ref (ea E 13 11)), (14, .ref (ea E 13 12)), (15, .ref (ea E 13 13)), (16, .ref (ea E 13 14)), (18, .int u18), (19, .int u19), (22, .int u22)] → W p l e (rmC 6 136 16 177) s m args below meth c H locs 15 165 Q (F0 m 783 ls [.int v40, .int u22, .ref (ea E 13 8)]) := by
                intro v40 H locs ls ev40 hW hl
                refine jiast F hT hW (cn u22) (o13 8 (k := 12) (by omega)) (by decide) (by first | exact fb_b hb (by assumption) (by decide) | exact fb_b2 hb (by assumption) (by decide)) (by decide) (by first | exact fb_n hb (by assumption) | exact fb_n2 hb (by assumption)) rfl dL_isTick_783 (fun S42 H locs eS42 hW => ?_)
                refine lv_aload F.1 F.2.1 dL_isTick_784 (lv_at hl 15 rfl) ?_
                refine lv_iload F.1 F.2.1 dL_isTick_786 (lv_at hl 22 rfl) ?_
                refine lv_dup2_11 F.1 F.2.1 dL_isTick_788 rfl rfl ?_
                refine jiald F hT hW (cn u22) (o13 10 (k := 12) (by omega)) (by first | exact fb_b hb (by assumption) (by decide) | exact fb_b2 hb (by assumption) (by decide)) (by decide) (by first | exact fb_n hb (by assumption) | exact fb_n2 hb (by assumption)) rfl dL_isTick_789 ?_
                refine lv_aload_n F.1 F.2.1 dL_isTick_790 rfl (lv_at hl 3 rfl) ?_
                refine lv_iload F.1 F.2.1 dL_isTick_791 (lv_at hl 22 rfl) ?_
                refine lv_iconst (v := 2) F.1 F.2.1 dL_isTick_793 (by decide) ?_
                refine jcir (jrunV (As := [.int u22, .int 2]) (rest := [.int (S42 10 (cn u22)), .int u22, .ref (ea E 13 10)]) F hT hW yc_X6_ofLine yv_X6_ofLine ml_L_8 oH0 (by decide) rfl (r_ofLine l E (fo μ 13 S42) (hB13 hB) (wc13 hc) u22 2) rfl hl.1 ⟨Nat.le_of_ble_eq_true rfl, Nat.le_of_ble_eq_true rfl⟩ rfl (Nat.le_of_ble_eq_true rfl) ⟨by decide, by decide⟩ dL_isTick_794) hW (fun H locs hW => ?_)
                have hJ46 : ∀ (v45 : Int32) (H : Heap) (locs : List Loc) (ls : Array Slot), v45 = (if (p_X3_numberOfLine B u22 2) ≤ 0 then 0 else (if (S42 1 (cn u22)) ≤ (p_X3_numberOfLine B u22 2) then 0 else 1)) → Wd E s H locs (fo μ 13 S42) → lv_has ls 27 [(20, .int v35), (17, .int (nI (d + 1))), (21, .int (u21 + v31)), (0, .ref (ea E 11 0)), (1, .int (nI n)), (2, .ref (ea E 13 0)), (3, .ref (ea E 13 1)), (4, .ref (ea E 13 2)), (5, .ref (ea E 13 3)), (6, .ref (ea E 13 4)), (7, .ref (ea E 13 5)), (8, .ref (ea E 13 6)), (9, .ref (ea E 13 7)), (10, .ref (ea E 13 8)), (11, .ref (ea E 13 9)), (12, .ref (ea E 13 10)), (13, .ref (ea E 13 11)), (14, .ref (ea E 13 12)), (15, .ref (ea E 13 13)), (16, .ref (ea E 13 14)), (18, .int u18), (19, .int u19), (22, .int u22)] → W p l e (rmC 6 136 16 177) s m args below meth c H locs 15 165 Q (F0 m 819 ls [.int v45, .int (S42 10 (cn u22)), .int u22, .ref (ea E 13 10)]) := by
                  intro v45 H locs ls ev45 hW hl
                  refine lv_iadd F.1 F.2.1 dL_isTick_819 ?_
                  refine jiast F hT hW (cn u22) (o13 10 (k := 12) (by omega)) (by decide) (by first | exact fb_b hb (by assumption) (by decide) | exact fb_b2 hb (by assumption) (by decide)) (by decide) (by first | exact fb_n hb (by assumption) | exact fb_n2 hb (by assumption)) rfl dL_isTick_820 (fun S47 H locs eS47 hW => ?_)
                  refine lv_aload_n F.1 F.2.1 dL_isTick_821 rfl (lv_at hl 5 rfl) ?_
                  refine lv_iload F.1 F.2.1 dL_isTick_822 (lv_at hl 22 rfl) ?_
                  refine lv_iconst (v := 0) F.1 F.2.1 dL_isTick_824 (by decide) ?_
                  refine jiast F hT hW (cn u22) (o13 0 (k := 12) (by omega)) (by decide) (by first | exact fb_b hb (by assumption) (by decide) | exact fb_b2 hb (by assumption) (by decide)) (by decide) (by first | exact fb_n hb (by assumption) | exact fb_n2 hb (by assumption)) rfl dL_isTick_825 (fun S48 H locs eS48 hW => ?_)
                  have hq : (S48, nI (d + 1), v35, u21 + v31) = g_T3 B A d u20 u21 u22 := by
                    subst eS48
                    subst eS47
                    subst ev45
                    subst eS42
                    subst ev40
                    subst eS38
                    subst eS37
                    subst ev35
                    subst eS33
                    subst ev31
                    subst eS29
                    subst eS28
                    subst eS27
                    exact ((if_neg h1).trans ((if_neg h2).trans ((if_neg h3).trans (if_neg h26)))).symm
                  exact kk _ _ _ _ _ _ _ hq hW (lv_sub hl [3, 4, 5, 6, 7, 8, 9, 10, 11, 12, 13, 14, 15, 16, 17, 18, 19, 1, 20, 21, 0, 2, 22] rfl)
                refine lv_if_le (tgt := 818) F.1 F.2.1 dL_isTick_797 (by decide) (fun h43 => ?_) (fun h43 => ?_)
                · refine lv_iconst (v := 0) F.1 F.2.1 dL_isTick_818 (by decide) ?_
                  exact hJ46 _ _ _ _ (if_pos h43).symm hW (lv_sub hl [0, 1, 2, 3, 4, 5, 6, 7, 8, 9, 10, 11, 12, 13, 14, 15, 16, 17, 18, 19, 20, 21, 22] rfl)
                · refine lv_aload_n F.1 F.2.1 dL_isTick_800 rfl (lv_at hl 6 rfl) ?_
                  refine lv_iload F.1 F.2.1 dL_isTick_801 (lv_at hl 22 rfl) ?_
                  refine jiald F hT hW (cn u22) (o13 1 (k := 12) (by omega)) (by first | exact fb_b hb (by assumption) (by decide) | exact fb_b2 hb (by assumption) (by decide)) (by decide) (by first | exact fb_n hb (by assumption) | exact fb_n2 hb (by assumption)) rfl dL_isTick_803 ?_
                  refine lv_aload_n F.1 F.2.1 dL_isTick_804 rfl (lv_at hl 3 rfl) ?_
                  refine lv_iload F.1 F.2.1 dL_isTick_805 (lv_at hl 22 rfl) ?_
                  refine lv_iconst (v := 2) F.1 F.2.1 dL_isTick_807 (by decide) ?_
                  refine jcir (jrunV (As := [.int u22, .int 2]) (rest := [.int (S42 1 (cn u22)), .int (S42 10 (cn u22)), .int u22, .ref (ea E 13 10)]) F hT hW yc_X6_ofLine yv_X6_ofLine ml_L_8 oH0 (by decide) rfl (r_ofLine l E (fo μ 13 S42) (hB13 hB) (wc13 hc) u22 2) rfl hl.1 ⟨Nat.le_of_ble_eq_true rfl, Nat.le_of_ble_eq_true rfl⟩ rfl (Nat.le_of_ble_eq_true rfl) ⟨by decide, by decide⟩ dL_isTick_808) hW (fun H locs hW => ?_)
                  refine lv_icmp_le (tgt := 818) F.1 F.2.1 dL_isTick_811 (by decide) (fun h44 => ?_) (fun h44 => ?_)
                  · refine lv_iconst (v := 0) F.1 F.2.1 dL_isTick_818 (by decide) ?_
                    exact hJ46 _ _ _ _ ((if_neg h43).trans (if_pos h44)).symm hW (lv_sub hl [0, 1, 2, 3, 4, 5, 6, 7, 8, 9, 10, 11, 12, 13, 14, 15, 16, 17, 18, 19, 20, 21, 22] rfl)
                  · refine lv_iconst (v := 1) F.1 F.2.1 dL_isTick_814 (by decide) ?_
                    refine lv_goto (tgt := 819) F.1 F.2.1 dL_isTick_815 (by decide) ?_
                    exact hJ46 _ _ _ _ ((if_neg h43).trans (if_neg h44)).symm hW (lv_sub hl [0, 1, 2, 3, 4, 5, 6, 7, 8, 9, 10, 11, 12, 13, 14, 15, 16, 17, 18, 19, 20, 21, 22] rfl)
              refine lv_icmp_le (tgt := 778) F.1 F.2.1 dL_isTick_768 (by decide) (fun h39 => ?_) (fun h39 => ?_)
              · refine lv_aload F.1 F.2.1 dL_isTick_778 (lv_at hl 13 rfl) ?_
                refine lv_iload F.1 F.2.1 dL_isTick_780 (lv_at hl 22 rfl) ?_
                refine jiald F hT hW (cn u22) (o13 8 (k := 12) (by omega)) (by first | exact fb_b hb (by assumption) (by decide) | exact fb_b2 hb (by assumption) (by decide)) (by decide) (by first | exact fb_n hb (by assumption) | exact fb_n2 hb (by assumption)) rfl dL_isTick_782 ?_
                exact hJ41 _ _ _ _ (if_pos h39).symm hW (lv_sub hl [0, 1, 2, 3, 4, 5, 6, 7, 8, 9, 10, 11, 12, 13, 14, 15, 16, 17, 18, 19, 20, 21, 22] rfl)
              · refine lv_aload_n F.1 F.2.1 dL_isTick_771 rfl (lv_at hl 6 rfl) ?_
                refine lv_iload F.1 F.2.1 dL_isTick_772 (lv_at hl 22 rfl) ?_
                refine jiald F hT hW (cn u22) (o13 1 (k := 12) (by omega)) (by first | exact fb_b hb (by assumption) (by decide) | exact fb_b2 hb (by assumption) (by decide)) (by decide) (by first | exact fb_n hb (by assumption) | exact fb_n2 hb (by assumption)) rfl dL_isTick_774 ?_
                refine lv_goto (tgt := 783) F.1 F.2.1 dL_isTick_775 (by decide) ?_
                exact hJ41 _ _ _ _ (if_neg h39).symm hW (lv_sub hl [0, 1, 2, 3, 4, 5, 6, 7, 8, 9, 10, 11, 12, 13, 14, 15, 16, 17, 18, 19, 20, 21, 22] rfl)
            refine lv_icmp_le (tgt := 730) F.1 F.2.1 dL_isTick_722 (by decide) (fun h34 => ?_) (fun h34 => ?_)
            · refine lv_iload F.1 F.2.1 dL_isTick_730 (lv_at hl 21 rfl) ?_
              exact hJ36 _ _ _ _ (if_pos h34).symm hW (lv_sub hl [0, 1, 2, 3, 4, 5, 6, 7, 8, 9, 10, 11, 12, 13, 14, 15, 16, 17, 18, 19, 20, 21, 22] rfl)
            · refine lv_iload F.1 F.2.1 dL_isTick_725 (lv_at hl 0 rfl) ?_
              refine lv_goto (tgt := 732) F.1 F.2.1 dL_isTick_727 (by decide) ?_
              exact hJ36 _ _ _ _ (if_neg h34).symm hW (lv_sub hl [0, 1, 2, 3, 4, 5, 6, 7, 8, 9, 10, 11, 12, 13, 14, 15, 16, 17, 18, 19, 20, 21, 22] rfl)
          refine lv_if_le (tgt := 704) F.1 F.2.1 dL_isTick_697 (by decide) (fun h30 => ?_) (fun h30 => ?_)
          · refine lv_iconst (v := 0) F.1 F.2.1 dL_isTick_704 (by decide) ?_
            exact hJ32 _ _ _ _ (if_pos h30).symm hW (lv_sub hl [0, 1, 2, 3, 4, 5, 6, 7, 8, 9, 10, 11, 12, 13, 14, 15, 16, 17, 18, 19, 20, 21, 22] rfl)
          · refine lv_iconst (v := 1) F.1 F.2.1 dL_isTick_700 (by decide) ?_
            refine lv_goto (tgt := 705) F.1 F.2.1 dL_isTick_701 (by decide) ?_
            exact hJ32 _ _ _ _ (if_neg h30).symm hW (lv_sub hl [0, 1, 2, 3, 4, 5, 6, 7, 8, 9, 10, 11, 12, 13, 14, 15, 16, 17, 18, 19, 20, 21, 22] rfl)
def g_T4 (B A : Sv) (d : Nat) (u19 : Int32) : Sv × Int32 × Int32 :=
  if (nI d) ≤ 0 then
    (A, nI d, u19)
  else
    let S2 : Sv := us A 13 (d - 1) ((A 13 (d - 1)) - 1)
    if (S2 13 (d - 1)) = 0 then
      let S4 : Sv := us S2 7 (cn (S2 11 (d - 1))) ((S2 7 (cn (S2 11 (d - 1)))) + 1)
      let S5 : Sv := us S4 3 (cn (S2 11 (d - 1))) (-6)
      if (p_X3_numberOfLine B (S2 11 (d - 1)) 3) = 1 then
        let x8 : Int32 := p_L_has (S5 2 (cn (S2 11 (d - 1)))) 0
        if x8 = 0 then
          let x11 : Int32 := p_L_has (S5 2 (cn (S2 11 (d - 1)))) 1
          if x11 = 0 then
            let x14 : Int32 := p_L_has (S5 2 (cn (S2 11 (d - 1)))) 2
            if x14 = 0 then
              let x17 : Int32 := p_L_has (S5 2 (cn (S2 11 (d - 1)))) 3
              if x17 = 0 then
                let v21 : Int32 := (if (S5 2 (cn (S2 11 (d - 1)))) = 0 then 0 else 1)
                let S23 : Sv := us S5 0 (cn (S2 11 (d - 1))) v21
                let S24 : Sv := us S23 1 (cn (S2 11 (d - 1))) 0
                (S24, (nI d) + (-1), u19 + 1)
              else
                let S25 : Sv := us S5 2 (cn (S2 11 (d - 1))) ((S5 2 (cn (S2 11 (d - 1)))) ^^^ ((1 : Int32) <<< ((3 : Int32) &&& 31)))
                let v28 : Int32 := (if (S25 2 (cn (S2 11 (d - 1)))) = 0 then 0 else 1)
                let S30 : Sv := us S25 0 (cn (S2 11 (d - 1))) v28
                let S31 : Sv := us S30 1 (cn (S2 11 (d - 1))) 0
                (S31, (nI d) + (-1), u19 + 1)
            else
              let S32 : Sv := us S5 2 (cn (S2 11 (d - 1))) ((S5 2 (cn (S2 11 (d - 1)))) ^^^ ((1 : Int32) <<< ((2 : Int32) &&& 31)))
              let v35 : Int32 := (if (S32 2 (cn (S2 11 (d - 1)))) = 0 then 0 else 1)
              let S37 : Sv := us S32 0 (cn (S2 11 (d - 1))) v35
              let S38 : Sv := us S37 1 (cn (S2 11 (d - 1))) 0
              (S38, (nI d) + (-1), u19 + 1)
          else
            let S39 : Sv := us S5 2 (cn (S2 11 (d - 1))) ((S5 2 (cn (S2 11 (d - 1)))) ^^^ ((1 : Int32) <<< ((1 : Int32) &&& 31)))
            let v42 : Int32 := (if (S39 2 (cn (S2 11 (d - 1)))) = 0 then 0 else 1)
            let S44 : Sv := us S39 0 (cn (S2 11 (d - 1))) v42
            let S45 : Sv := us S44 1 (cn (S2 11 (d - 1))) 0
            (S45, (nI d) + (-1), u19 + 1)
        else
          let S46 : Sv := us S5 2 (cn (S2 11 (d - 1))) ((S5 2 (cn (S2 11 (d - 1)))) ^^^ ((1 : Int32) <<< ((0 : Int32) &&& 31)))
          let v49 : Int32 := (if (S46 2 (cn (S2 11 (d - 1)))) = 0 then 0 else 1)
          let S51 : Sv := us S46 0 (cn (S2 11 (d - 1))) v49
          let S52 : Sv := us S51 1 (cn (S2 11 (d - 1))) 0
          (S52, (nI d) + (-1), u19 + 1)
      else
        (S5, (nI d) + (-1), u19 + 1)
    else
      (S2, nI d, u19 + 1)
set_option maxHeartbeats 4000000 in
set_option maxRecDepth 100000 in
theorem sg_T4 {p : Program} {l : Launch} {e : Env} {s : State} {m : MethodId} {args : Array Value} {below : List Frame} {meth : Method} {c : Code} {Q : State → Prop} {E : mE} {μ : Mu} {H : Heap} {locs : List Loc} {ls : Array Slot} (F : CallFix p m c cL_isTick 27 s args TB RL) (hT : Stat E s) (B A : Sv) (d : Nat) (u19 : Int32) {n : Nat} {u18 u20 u21 : Int32} (hE : nlc E = 15) (hB : μ 0 = B) (hc : Wc μ) (hd9 : d ≤ 9) (hln : ∀ k, k < d → Bn (A 11 k) 11) (hW : Wd E s H locs (fo μ 13 A)) (hl : lv_has ls 27 [(0, .ref (ea E 11 0)), (1, .int (nI n)), (2, .ref (ea E 13 0)), (3, .ref (ea E 13 1)), (4, .ref (ea E 13 2)), (5, .ref (ea E 13 3)), (6, .ref (ea E 13 4)), (7, .ref (ea E 13 5)), (8, .ref (ea E 13 6)), (9, .ref (ea E 13 7)), (10, .ref (ea E 13 8)), (11, .ref (ea E 13 9)), (12, .ref (ea E 13 10)), (13, .ref (ea E 13 11)), (14, .ref (ea E 13 12)), (15, .ref (ea E 13 13)), (16, .ref (ea E 13 14)), (17, .int (nI d)), (18, .int u18), (19, .int u19), (20, .int u20), (21, .int u21)])
    (kk : ∀ (S' : Sv) (w17 : Int32) (w19 : Int32) (H : Heap) (locs : List Loc) (ls : Array Slot), (S', w17, w19) = g_T4 B A d u19 → Wd E s H locs (fo μ 13 S') → lv_has ls 27 [(0, .ref (ea E 11 0)), (1, .int (nI n)), (2, .ref (ea E 13 0)), (3, .ref (ea E 13 1)), (4, .ref (ea E 13 2)), (5, .ref (ea E 13 3)), (6, .ref (ea E 13 4)), (7, .ref (ea E 13 5)), (8, .ref (ea E 13 6)), (9, .ref (ea E 13 7)), (10, .ref (ea E 13 8)), (11, .ref (ea E 13 9)), (12, .ref (ea E 13 10)), (13, .ref (ea E 13 11)), (14, .ref (ea E 13 12)), (15, .ref (ea E 13 13)), (16, .ref (ea E 13 14)), (17, .int w17), (18, .int u18), (19, .int w19), (20, .int u20), (21, .int u21)] → W p l e (rmC 6 136 16 177) s m args below meth c H locs 15 165 Q (F0 m 957 ls [])) : W p l e (rmC 6 136 16 177) s m args below meth c H locs 15 165 Q (F0 m 826 ls []) := by
  refine lv_iload F.1 F.2.1 dL_isTick_826 (lv_at hl 17 rfl) ?_
  refine lv_if_le (tgt := 957) F.1 F.2.1 dL_isTick_828 (by decide) (fun h1 => ?_) (fun h1 => ?_)
  · have hq : (A, nI d, u19) = g_T4 B A d u19 := by
      exact (if_pos h1).symm
    exact kk _ _ _ _ _ _ hq hW (lv_sub hl [0, 1, 2, 3, 4, 5, 6, 7, 8, 9, 10, 11, 12, 13, 14, 15, 16, 17, 18, 19, 20, 21] rfl)
  · have hd0 : 0 < d := nI_nle0 (by assumption)
    refine lv_iinc (v := u19 + 1) (lv' := [(19, .int (u19 + 1)), (0, .ref (ea E 11 0)), (1, .int (nI n)), (2, .ref (ea E 13 0)), (3, .ref (ea E 13 1)), (4, .ref (ea E 13 2)), (5, .ref (ea E 13 3)), (6, .ref (ea E 13 4)), (7, .ref (ea E 13 5)), (8, .ref (ea E 13 6)), (9, .ref (ea E 13 7)), (10, .ref (ea E 13 8)), (11, .ref (ea E 13 9)), (12, .ref (ea E 13 10)), (13, .ref (ea E 13 11)), (14, .ref (ea E 13 12)), (15, .ref (ea E 13 13)), (16, .ref (ea E 13 14)), (17, .int (nI d)), (18, .int u18), (20, .int u20), (21, .int u21)]) F.1 F.2.1 dL_isTick_831 hl (k := 19) rfl rfl (by decide) rfl (fun ls hl => ?_)
    refine lv_aload F.1 F.2.1 dL_isTick_834 (lv_at hl 16 rfl) ?_
    refine lv_iload F.1 F.2.1 dL_isTick_836 (lv_at hl 18 rfl) ?_
    refine lv_iconst (v := 1) F.1 F.2.1 dL_isTick_838 (by decide) ?_
    refine lv_isub F.1 F.2.1 dL_isTick_839 ?_
    refine lv_dup2_11 F.1 F.2.1 dL_isTick_840 rfl rfl ?_
    refine jiald F hT hW (d - 1) (o13 13 (k := 9) (by omega)) (by omega) (by decide) (isb rfl (lI 1) (by omega)) rfl dL_isTick_841 ?_
    refine lv_iconst (v := 1) F.1 F.2.1 dL_isTick_842 (by decide) ?_
    refine lv_isub F.1 F.2.1 dL_isTick_843 ?_
    refine jiast F hT hW (d - 1) (o13 13 (k := 9) (by omega)) (by decide) (by omega) (by decide) (isb rfl (lI 1) (by omega)) rfl dL_isTick_844 (fun S2 H locs eS2 hW => ?_)
    refine lv_aload F.1 F.2.1 dL_isTick_845 (lv_at hl 16 rfl) ?_
    refine lv_iload F.1 F.2.1 dL_isTick_847 (lv_at hl 18 rfl) ?_
    refine lv_iconst (v := 1) F.1 F.2.1 dL_isTick_849 (by decide) ?_
    refine lv_isub F.1 F.2.1 dL_isTick_850 ?_
    refine jiald F hT hW (d - 1) (o13 13 (k := 9) (by omega)) (by omega) (by decide) (isb rfl (lI 1) (by omega)) rfl dL_isTick_851 ?_
    refine lv_if_ne (tgt := 957) F.1 F.2.1 dL_isTick_852 (by decide) (fun h3 => ?_) (fun h3 => ?_)
    · have hq : (S2, nI d, u19 + 1) = g_T4 B A d u19 := by
        subst eS2
        exact ((if_neg h1).trans (if_neg h3)).symm
      exact kk _ _ _ _ _ _ hq hW (lv_sub hl [1, 2, 3, 4, 5, 6, 7, 8, 9, 10, 11, 12, 13, 14, 15, 16, 17, 18, 19, 0, 20, 21] rfl)
    · refine lv_iinc (v := (nI d) + (-1)) (lv' := [(17, .int ((nI d) + (-1))), (19, .int (u19 + 1)), (0, .ref (ea E 11 0)), (1, .int (nI n)), (2, .ref (ea E 13 0)), (3, .ref (ea E 13 1)), (4, .ref (ea E 13 2)), (5, .ref (ea E 13 3)), (6, .ref (ea E 13 4)), (7, .ref (ea E 13 5)), (8, .ref (ea E 13 6)), (9, .ref (ea E 13 7)), (10, .ref (ea E 13 8)), (11, .ref (ea E 13 9)), (12, .ref (ea E 13 10)), (13, .ref (ea E 13 11)), (14, .ref (ea E 13 12)), (15, .ref (ea E 13 13)), (16, .ref (ea E 13 14)), (18, .int u18), (20, .int u20), (21, .int u21)]) F.1 F.2.1 dL_isTick_855 hl (k := 18) rfl rfl (by decide) rfl (fun ls hl => ?_)
      refine lv_aload F.1 F.2.1 dL_isTick_858 (lv_at hl 15 rfl) ?_
      refine lv_iload F.1 F.2.1 dL_isTick_860 (lv_at hl 0 rfl) ?_
      refine jiald F hT hW (d - 1) (o13 11 (k := 9) (by omega)) (by omega) (by decide) (dm1 (by omega) (by omega)) rfl dL_isTick_862 ?_
      have hl4 : Bn (S2 11 (d - 1)) 11 := by rw [eS2, us_ne _ _ (by omega)]; exact hln _ (by omega)
      refine lv_istore (lv' := [(23, .int (S2 11 (d - 1))), (17, .int ((nI d) + (-1))), (19, .int (u19 + 1)), (0, .ref (ea E 11 0)), (1, .int (nI n)), (2, .ref (ea E 13 0)), (3, .ref (ea E 13 1)), (4, .ref (ea E 13 2)), (5, .ref (ea E 13 3)), (6, .ref (ea E 13 4)), (7, .ref (ea E 13 5)), (8, .ref (ea E 13 6)), (9, .ref (ea E 13 7)), (10, .ref (ea E 13 8)), (11, .ref (ea E 13 9)), (12, .ref (ea E 13 10)), (13, .ref (ea E 13 11)), (14, .ref (ea E 13 12)), (15, .ref (ea E 13 13)), (16, .ref (ea E 13 14)), (18, .int u18), (20, .int u20), (21, .int u21)]) F.1 F.2.1 dL_isTick_863 hl (by decide) rfl (fun ls hl => ?_)
      refine lv_aload F.1 F.2.1 dL_isTick_865 (lv_at hl 12 rfl) ?_
      refine lv_iload F.1 F.2.1 dL_isTick_867 (lv_at hl 0 rfl) ?_
      refine lv_dup2_11 F.1 F.2.1 dL_isTick_869 rfl rfl ?_
      refine jiald F hT hW (cn (S2 11 (d - 1))) (o13 7 (k := 12) (by omega)) (Nat.lt_of_le_of_lt hl4.2 (by decide)) (by decide) hl4.1 rfl dL_isTick_870 ?_
      refine lv_iconst (v := 1) F.1 F.2.1 dL_isTick_871 (by decide) ?_
      refine lv_iadd F.1 F.2.1 dL_isTick_872 ?_
      refine jiast F hT hW (cn (S2 11 (d - 1))) (o13 7 (k := 12) (by omega)) (by decide) (Nat.lt_of_le_of_lt hl4.2 (by decide)) (by decide) hl4.1 rfl dL_isTick_873 (fun S4 H locs eS4 hW => ?_)
      refine lv_aload F.1 F.2.1 dL_isTick_874 (lv_at hl 8 rfl) ?_
      refine lv_iload F.1 F.2.1 dL_isTick_876 (lv_at hl 0 rfl) ?_
      refine lv_bipush (v := (-6)) F.1 F.2.1 dL_isTick_878 (by decide) ?_
      refine jiast F hT hW (cn (S2 11 (d - 1))) (o13 3 (k := 12) (by omega)) (by decide) (Nat.lt_of_le_of_lt hl4.2 (by decide)) (by decide) hl4.1 rfl dL_isTick_880 (fun S5 H locs eS5 hW => ?_)
      refine lv_aload_n F.1 F.2.1 dL_isTick_881 rfl (lv_at hl 3 rfl) ?_
      refine lv_iload F.1 F.2.1 dL_isTick_882 (lv_at hl 0 rfl) ?_
      refine lv_iconst (v := 3) F.1 F.2.1 dL_isTick_884 (by decide) ?_
      refine jcir (jrunV (As := [.int (S2 11 (d - 1)), .int 3]) (rest := []) F hT hW yc_X6_ofLine yv_X6_ofLine ml_L_8 oH0 (by decide) rfl (r_ofLine l E (fo μ 13 S5) (hB13 hB) (wc13 hc) (S2 11 (d - 1)) 3) rfl hl.1 ⟨Nat.le_of_ble_eq_true rfl, Nat.le_of_ble_eq_true rfl⟩ rfl (Nat.le_of_ble_eq_true rfl) ⟨by decide, by decide⟩ dL_isTick_885) hW (fun H locs hW => ?_)
      refine lv_iconst (v := 1) F.1 F.2.1 dL_isTick_888 (by decide) ?_
      refine lv_icmp_ne (tgt := 957) F.1 F.2.1 dL_isTick_889 (by decide) (fun h6 => ?_) (fun h6 => ?_)
      · have hq : (S5, (nI d) + (-1), u19 + 1) = g_T4 B A d u19 := by
          subst eS5
          subst eS4
          subst eS2
          exact ((if_neg h1).trans ((if_pos h3).trans (if_neg h6))).symm
        exact kk _ _ _ _ _ _ hq hW (lv_sub hl [3, 4, 5, 6, 7, 8, 9, 10, 11, 12, 13, 14, 15, 16, 17, 18, 19, 1, 20, 2, 21, 22] rfl)
      · refine lv_iconst (v := 0) F.1 F.2.1 dL_isTick_892 (by decide) ?_
        refine lv_istore (lv' := [(24, .int 0), (23, .int (S2 11 (d - 1))), (17, .int ((nI d) + (-1))), (19, .int (u19 + 1)), (0, .ref (ea E 11 0)), (1, .int (nI n)), (2, .ref (ea E 13 0)), (3, .ref (ea E 13 1)), (4, .ref (ea E 13 2)), (5, .ref (ea E 13 3)), (6, .ref (ea E 13 4)), (7, .ref (ea E 13 5)), (8, .ref (ea E 13 6)), (9, .ref (ea E 13 7)), (10, .ref (ea E 13 8)), (11, .ref (ea E 13 9)), (12, .ref (ea E 13 10)), (13, .ref (ea E 13 11)), (14, .ref (ea E 13 12)), (15, .ref (ea E 13 13)), (16, .ref (ea E 13 14)), (18, .int u18), (20, .int u20), (21, .int u21)]) F.1 F.2.1 dL_isTick_893 hl (by decide) rfl (fun ls hl => ?_)
        refine lv_iload F.1 F.2.1 dL_isTick_895 (lv_at hl 0 rfl) ?_
        refine lv_iconst (v := 4) F.1 F.2.1 dL_isTick_897 (by decide) ?_
        refine lv_icmp_ge (tgt := 935) F.1 F.2.1 dL_isTick_898 (by decide) (fun h7 => ?_) (fun h7 => ?_)
        · exact absurd h7 (by decide)
        · refine lv_aload F.1 F.2.1 dL_isTick_901 (lv_at hl 8 rfl) ?_
          refine lv_iload F.1 F.2.1 dL_isTick_903 (lv_at hl 1 rfl) ?_
          refine jiald F hT hW (cn (S2 11 (d - 1))) (o13 2 (k := 12) (by omega)) (Nat.lt_of_le_of_lt hl4.2 (by decide)) (by decide) hl4.1 rfl dL_isTick_905 ?_
          refine lv_iload F.1 F.2.1 dL_isTick_906 (lv_at hl 0 rfl) ?_
          refine jcip (jrunS (As := [.int (S5 2 (cn (S2 11 (d - 1)))), .int 0]) (rest := []) F hT hW yc_L_has ys_L_has ml_L_30 (c_L_has l E (fo μ 13 S5) (S5 2 (cn (S2 11 (d - 1)))) 0) rfl hl.1 ⟨Nat.le_of_ble_eq_true rfl, Nat.le_of_ble_eq_true rfl⟩ rfl (Nat.le_of_ble_eq_true rfl) ⟨by decide, by decide⟩ dL_isTick_908) hW (fun x8 H locs ex8 hW => ?_)
          refine lv_if_eq (tgt := 929) F.1 F.2.1 dL_isTick_911 (by decide) (fun h9 => ?_) (fun h9 => ?_)
          · refine lv_iinc (v := 1) (lv' := [(24, .int 1), (23, .int (S2 11 (d - 1))), (17, .int ((nI d) + (-1))), (19, .int (u19 + 1)), (0, .ref (ea E 11 0)), (1, .int (nI n)), (2, .ref (ea E 13 0)), (3, .ref (ea E 13 1)), (4, .ref (ea E 13 2)), (5, .ref (ea E 13 3)), (6, .ref (ea E 13 4)), (7, .ref (ea E 13 5)), (8, .ref (ea E 13 6)), (9, .ref (ea E 13 7)), (10, .ref (ea E 13 8)), (11, .ref (ea E 13 9)), (12, .ref (ea E 13 10)), (13, .ref (ea E 13 11)), (14, .ref (ea E 13 12)), (15, .ref (ea E 13 13)), (16, .ref (ea E 13 14)), (18, .int u18), (20, .int u20), (21, .int u21)]) F.1 F.2.1 dL_isTick_929 hl (k := 0) rfl (by decide) (by decide) rfl (fun ls hl => ?_)
            refine lv_goto (tgt := 895) F.1 F.2.1 dL_isTick_932 (by decide) ?_
            refine lv_iload F.1 F.2.1 dL_isTick_895 (lv_at hl 0 rfl) ?_
            refine lv_iconst (v := 4) F.1 F.2.1 dL_isTick_897 (by decide) ?_
            refine lv_icmp_ge (tgt := 935) F.1 F.2.1 dL_isTick_898 (by decide) (fun h10 => ?_) (fun h10 => ?_)
            · exact absurd h10 (by decide)
            · refine lv_aload F.1 F.2.1 dL_isTick_901 (lv_at hl 8 rfl) ?_
              refine lv_iload F.1 F.2.1 dL_isTick_903 (lv_at hl 1 rfl) ?_
              refine jiald F hT hW (cn (S2 11 (d - 1))) (o13 2 (k := 12) (by omega)) (Nat.lt_of_le_of_lt hl4.2 (by decide)) (by decide) hl4.1 rfl dL_isTick_905 ?_
              refine lv_iload F.1 F.2.1 dL_isTick_906 (lv_at hl 0 rfl) ?_
              refine jcip (jrunS (As := [.int (S5 2 (cn (S2 11 (d - 1)))), .int 1]) (rest := []) F hT hW yc_L_has ys_L_has ml_L_30 (c_L_has l E (fo μ 13 S5) (S5 2 (cn (S2 11 (d - 1)))) 1) rfl hl.1 ⟨Nat.le_of_ble_eq_true rfl, Nat.le_of_ble_eq_true rfl⟩ rfl (Nat.le_of_ble_eq_true rfl) ⟨by decide, by decide⟩ dL_isTick_908) hW (fun x11 H locs ex11 hW => ?_)
              refine lv_if_eq (tgt := 929) F.1 F.2.1 dL_isTick_911 (by decide) (fun h12 => ?_) (fun h12 => ?_)
              · refine lv_iinc (v := 2) (lv' := [(24, .int 2), (23, .int (S2 11 (d - 1))), (17, .int ((nI d) + (-1))), (19, .int (u19 + 1)), (0, .ref (ea E 11 0)), (1, .int (nI n)), (2, .ref (ea E 13 0)), (3, .ref (ea E 13 1)), (4, .ref (ea E 13 2)), (5, .ref (ea E 13 3)), (6, .ref (ea E 13 4)), (7, .ref (ea E 13 5)), (8, .ref (ea E 13 6)), (9, .ref (ea E 13 7)), (10, .ref (ea E 13 8)), (11, .ref (ea E 13 9)), (12, .ref (ea E 13 10)), (13, .ref (ea E 13 11)), (14, .ref (ea E 13 12)), (15, .ref (ea E 13 13)), (16, .ref (ea E 13 14)), (18, .int u18), (20, .int u20), (21, .int u21)]) F.1 F.2.1 dL_isTick_929 hl (k := 0) rfl (by decide) (by decide) rfl (fun ls hl => ?_)
                refine lv_goto (tgt := 895) F.1 F.2.1 dL_isTick_932 (by decide) ?_
                refine lv_iload F.1 F.2.1 dL_isTick_895 (lv_at hl 0 rfl) ?_
                refine lv_iconst (v := 4) F.1 F.2.1 dL_isTick_897 (by decide) ?_
                refine lv_icmp_ge (tgt := 935) F.1 F.2.1 dL_isTick_898 (by decide) (fun h13 => ?_) (fun h13 => ?_)
                · exact absurd h13 (by decide)
                · refine lv_aload F.1 F.2.1 dL_isTick_901 (lv_at hl 8 rfl) ?_
                  refine lv_iload F.1 F.2.1 dL_isTick_903 (lv_at hl 1 rfl) ?_
                  refine jiald F hT hW (cn (S2 11 (d - 1))) (o13 2 (k := 12) (by omega)) (Nat.lt_of_le_of_lt hl4.2 (by decide)) (by decide) hl4.1 rfl dL_isTick_905 ?_
                  refine lv_iload F.1 F.2.1 dL_isTick_906 (lv_at hl 0 rfl) ?_
                  refine jcip (jrunS (As := [.int (S5 2 (cn (S2 11 (d - 1)))), .int 2]) (rest := []) F hT hW yc_L_has ys_L_has ml_L_30 (c_L_has l E (fo μ 13 S5) (S5 2 (cn (S2 11 (d - 1)))) 2) rfl hl.1 ⟨Nat.le_of_ble_eq_true rfl, Nat.le_of_ble_eq_true rfl⟩ rfl (Nat.le_of_ble_eq_true rfl) ⟨by decide, by decide⟩ dL_isTick_908) hW (fun x14 H locs ex14 hW => ?_)
                  refine lv_if_eq (tgt := 929) F.1 F.2.1 dL_isTick_911 (by decide) (fun h15 => ?_) (fun h15 => ?_)
                  · refine lv_iinc (v := 3) (lv' := [(24, .int 3), (23, .int (S2 11 (d - 1))), (17, .int ((nI d) + (-1))), (19, .int (u19 + 1)), (0, .ref (ea E 11 0)), (1, .int (nI n)), (2, .ref (ea E 13 0)), (3, .ref (ea E 13 1)), (4, .ref (ea E 13 2)), (5, .ref (ea E 13 3)), (6, .ref (ea E 13 4)), (7, .ref (ea E 13 5)), (8, .ref (ea E 13 6)), (9, .ref (ea E 13 7)), (10, .ref (ea E 13 8)), (11, .ref (ea E 13 9)), (12, .ref (ea E 13 10)), (13, .ref (ea E 13 11)), (14, .ref (ea E 13 12)), (15, .ref (ea E 13 13)), (16, .ref (ea E 13 14)), (18, .int u18), (20, .int u20), (21, .int u21)]) F.1 F.2.1 dL_isTick_929 hl (k := 0) rfl (by decide) (by decide) rfl (fun ls hl => ?_)
                    refine lv_goto (tgt := 895) F.1 F.2.1 dL_isTick_932 (by decide) ?_
                    refine lv_iload F.1 F.2.1 dL_isTick_895 (lv_at hl 0 rfl) ?_
                    refine lv_iconst (v := 4) F.1 F.2.1 dL_isTick_897 (by decide) ?_
                    refine lv_icmp_ge (tgt := 935) F.1 F.2.1 dL_isTick_898 (by decide) (fun h16 => ?_) (fun h16 => ?_)
                    · exact absurd h16 (by decide)
                    · refine lv_aload F.1 F.2.1 dL_isTick_901 (lv_at hl 8 rfl) ?_
                      refine lv_iload F.1 F.2.1 dL_isTick_903 (lv_at hl 1 rfl) ?_
                      refine jiald F hT hW (cn (S2 11 (d - 1))) (o13 2 (k := 12) (by omega)) (Nat.lt_of_le_of_lt hl4.2 (by decide)) (by decide) hl4.1 rfl dL_isTick_905 ?_
                      refine lv_iload F.1 F.2.1 dL_isTick_906 (lv_at hl 0 rfl) ?_
                      refine jcip (jrunS (As := [.int (S5 2 (cn (S2 11 (d - 1)))), .int 3]) (rest := []) F hT hW yc_L_has ys_L_has ml_L_30 (c_L_has l E (fo μ 13 S5) (S5 2 (cn (S2 11 (d - 1)))) 3) rfl hl.1 ⟨Nat.le_of_ble_eq_true rfl, Nat.le_of_ble_eq_true rfl⟩ rfl (Nat.le_of_ble_eq_true rfl) ⟨by decide, by decide⟩ dL_isTick_908) hW (fun x17 H locs ex17 hW => ?_)
                      refine lv_if_eq (tgt := 929) F.1 F.2.1 dL_isTick_911 (by decide) (fun h18 => ?_) (fun h18 => ?_)
                      · refine lv_iinc (v := 4) (lv' := [(24, .int 4), (23, .int (S2 11 (d - 1))), (17, .int ((nI d) + (-1))), (19, .int (u19 + 1)), (0, .ref (ea E 11 0)), (1, .int (nI n)), (2, .ref (ea E 13 0)), (3, .ref (ea E 13 1)), (4, .ref (ea E 13 2)), (5, .ref (ea E 13 3)), (6, .ref (ea E 13 4)), (7, .ref (ea E 13 5)), (8, .ref (ea E 13 6)), (9, .ref (ea E 13 7)), (10, .ref (ea E 13 8)), (11, .ref (ea E 13 9)), (12, .ref (ea E 13 10)), (13, .ref (ea E 13 11)), (14, .ref (ea E 13 12)), (15, .ref (ea E 13 13)), (16, .ref (ea E 13 14)), (18, .int u18), (20, .int u20), (21, .int u21)]) F.1 F.2.1 dL_isTick_929 hl (k := 0) rfl (by decide) (by decide) rfl (fun ls hl => ?_)
                        refine lv_goto (tgt := 895) F.1 F.2.1 dL_isTick_932 (by decide) ?_
                        refine lv_iload F.1 F.2.1 dL_isTick_895 (lv_at hl 0 rfl) ?_
                        refine lv_iconst (v := 4) F.1 F.2.1 dL_isTick_897 (by decide) ?_
                        refine lv_icmp_ge (tgt := 935) F.1 F.2.1 dL_isTick_898 (by decide) (fun h19 => ?_) (fun h19 => ?_)
                        · refine lv_aload_n F.1 F.2.1 dL_isTick_935 rfl (lv_at hl 6 rfl) ?_
                          refine lv_iload F.1 F.2.1 dL_isTick_936 (lv_at hl 1 rfl) ?_
                          refine lv_aload F.1 F.2.1 dL_isTick_938 (lv_at hl 8 rfl) ?_
                          refine lv_iload F.1 F.2.1 dL_isTick_940 (lv_at hl 1 rfl) ?_
                          refine jiald F hT hW (cn (S2 11 (d - 1))) (o13 2 (k := 12) (by omega)) (Nat.lt_of_le_of_lt hl4.2 (by decide)) (by decide) hl4.1 rfl dL_isTick_942 ?_
                          have hJ22 : ∀ (v21 : Int32) (H : Heap) (locs : List Loc) (ls : Array Slot), v21 = (if (S5 2 (cn (S2 11 (d - 1)))) = 0 then 0 else 1) → Wd E s H locs (fo μ 13 S5) → lv_has ls 27 [(24, .int 4), (23, .int (S2 11 (d - 1))), (17, .int ((nI d) + (-1))), (19, .int (u19 + 1)), (0, .ref (ea E 11 0)), (1, .int (nI n)), (2, .ref (ea E 13 0)), (3, .ref (ea E 13 1)), (4, .ref (ea E 13 2)), (5, .ref (ea E 13 3)), (6, .ref (ea E 13 4)), (7, .ref (ea E 13 5)), (8, .ref (ea E 13 6)), (9, .ref (ea E 13 7)), (10, .ref (ea E 13 8)), (11, .ref (ea E 13 9)), (12, .ref (ea E 13 10)), (13, .ref (ea E 13 11)), (14, .ref (ea E 13 12)), (15, .ref (ea E 13 13)), (16, .ref (ea E 13 14)), (18, .int u18), (20, .int u20), (21, .int u21)] → W p l e (rmC 6 136 16 177) s m args below meth c H locs 15 165 Q (F0 m 951 ls [.int v21, .int (S2 11 (d - 1)), .ref (ea E 13 0)]) := by
                            intro v21 H locs ls ev21 hW hl
                            refine jiast F hT hW (cn (S2 11 (d - 1))) (o13 0 (k := 12) (by omega)) (by decide) (Nat.lt_of_le_of_lt hl4.2 (by decide)) (by decide) hl4.1 rfl dL_isTick_951 (fun S23 H locs eS23 hW => ?_)
                            refine lv_aload_n F.1 F.2.1 dL_isTick_952 rfl (lv_at hl 7 rfl) ?_
                            refine lv_iload F.1 F.2.1 dL_isTick_953 (lv_at hl 1 rfl) ?_
                            refine lv_iconst (v := 0) F.1 F.2.1 dL_isTick_955 (by decide) ?_
                            refine jiast F hT hW (cn (S2 11 (d - 1))) (o13 1 (k := 12) (by omega)) (by decide) (Nat.lt_of_le_of_lt hl4.2 (by decide)) (by decide) hl4.1 rfl dL_isTick_956 (fun S24 H locs eS24 hW => ?_)
                            have hq : (S24, (nI d) + (-1), u19 + 1) = g_T4 B A d u19 := by
                              subst eS24
                              subst eS23
                              subst ev21
                              subst ex17
                              subst ex14
                              subst ex11
                              subst ex8
                              subst eS5
                              subst eS4
                              subst eS2
                              exact ((if_neg h1).trans ((if_pos h3).trans ((if_pos h6).trans ((if_pos h9).trans ((if_pos h12).trans ((if_pos h15).trans (if_pos h18))))))).symm
                            exact kk _ _ _ _ _ _ hq hW (lv_sub hl [4, 5, 6, 7, 8, 9, 10, 11, 12, 13, 14, 15, 16, 17, 18, 19, 20, 2, 21, 3, 22, 23] rfl)
                          refine lv_if_eq (tgt := 950) F.1 F.2.1 dL_isTick_943 (by decide) (fun h20 => ?_) (fun h20 => ?_)
                          · refine lv_iconst (v := 0) F.1 F.2.1 dL_isTick_950 (by decide) ?_
                            exact hJ22 _ _ _ _ (if_pos h20).symm hW (lv_sub hl [0, 1, 2, 3, 4, 5, 6, 7, 8, 9, 10, 11, 12, 13, 14, 15, 16, 17, 18, 19, 20, 21, 22, 23] rfl)
                          · refine lv_iconst (v := 1) F.1 F.2.1 dL_isTick_946 (by decide) ?_
                            refine lv_goto (tgt := 951) F.1 F.2.1 dL_isTick_947 (by decide) ?_
                            exact hJ22 _ _ _ _ (if_neg h20).symm hW (lv_sub hl [0, 1, 2, 3, 4, 5, 6, 7, 8, 9, 10, 11, 12, 13, 14, 15, 16, 17, 18, 19, 20, 21, 22, 23] rfl)
                        · exact absurd (by decide) h19
                      · refine lv_aload F.1 F.2.1 dL_isTick_914 (lv_at hl 8 rfl) ?_
                        refine lv_iload F.1 F.2.1 dL_isTick_916 (lv_at hl 1 rfl) ?_
                        refine lv_dup2_11 F.1 F.2.1 dL_isTick_918 rfl rfl ?_
                        refine jiald F hT hW (cn (S2 11 (d - 1))) (o13 2 (k := 12) (by omega)) (Nat.lt_of_le_of_lt hl4.2 (by decide)) (by decide) hl4.1 rfl dL_isTick_919 ?_
                        refine lv_iconst (v := 1) F.1 F.2.1 dL_isTick_920 (by decide) ?_
                        refine lv_iload F.1 F.2.1 dL_isTick_921 (lv_at hl 0 rfl) ?_
                        refine lv_ishl F.1 F.2.1 dL_isTick_923 ?_
                        refine lv_ixor F.1 F.2.1 dL_isTick_924 ?_
                        refine jiast F hT hW (cn (S2 11 (d - 1))) (o13 2 (k := 12) (by omega)) (by decide) (Nat.lt_of_le_of_lt hl4.2 (by decide)) (by decide) hl4.1 rfl dL_isTick_925 (fun S25 H locs eS25 hW => ?_)
                        refine lv_iconst (v := 4) F.1 F.2.1 dL_isTick_926 (by decide) ?_
                        refine lv_istore (lv' := [(24, .int 4), (23, .int (S2 11 (d - 1))), (17, .int ((nI d) + (-1))), (19, .int (u19 + 1)), (0, .ref (ea E 11 0)), (1, .int (nI n)), (2, .ref (ea E 13 0)), (3, .ref (ea E 13 1)), (4, .ref (ea E 13 2)), (5, .ref (ea E 13 3)), (6, .ref (ea E 13 4)), (7, .ref (ea E 13 5)), (8, .ref (ea E 13 6)), (9, .ref (ea E 13 7)), (10, .ref (ea E 13 8)), (11, .ref (ea E 13 9)), (12, .ref (ea E 13 10)), (13, .ref (ea E 13 11)), (14, .ref (ea E 13 12)), (15, .ref (ea E 13 13)), (16, .ref (ea E 13 14)), (18, .int u18), (20, .int u20), (21, .int u21)]) F.1 F.2.1 dL_isTick_927 hl (by decide) rfl (fun ls hl => ?_)
                        refine lv_iinc (v := 5) (lv' := [(24, .int 5), (23, .int (S2 11 (d - 1))), (17, .int ((nI d) + (-1))), (19, .int (u19 + 1)), (0, .ref (ea E 11 0)), (1, .int (nI n)), (2, .ref (ea E 13 0)), (3, .ref (ea E 13 1)), (4, .ref (ea E 13 2)), (5, .ref (ea E 13 3)), (6, .ref (ea E 13 4)), (7, .ref (ea E 13 5)), (8, .ref (ea E 13 6)), (9, .ref (ea E 13 7)), (10, .ref (ea E 13 8)), (11, .ref (ea E 13 9)), (12, .ref (ea E 13 10)), (13, .ref (ea E 13 11)), (14, .ref (ea E 13 12)), (15, .ref (ea E 13 13)), (16, .ref (ea E 13 14)), (18, .int u18), (20, .int u20), (21, .int u21)]) F.1 F.2.1 dL_isTick_929 hl (k := 0) rfl (by decide) (by decide) rfl (fun ls hl => ?_)
                        refine lv_goto (tgt := 895) F.1 F.2.1 dL_isTick_932 (by decide) ?_
                        refine lv_iload F.1 F.2.1 dL_isTick_895 (lv_at hl 0 rfl) ?_
                        refine lv_iconst (v := 4) F.1 F.2.1 dL_isTick_897 (by decide) ?_
                        refine lv_icmp_ge (tgt := 935) F.1 F.2.1 dL_isTick_898 (by decide) (fun h26 => ?_) (fun h26 => ?_)
                        · refine lv_aload_n F.1 F.2.1 dL_isTick_935 rfl (lv_at hl 6 rfl) ?_
                          refine lv_iload F.1 F.2.1 dL_isTick_936 (lv_at hl 1 rfl) ?_
                          refine lv_aload F.1 F.2.1 dL_isTick_938 (lv_at hl 8 rfl) ?_
                          refine lv_iload F.1 F.2.1 dL_isTick_940 (lv_at hl 1 rfl) ?_
                          refine jiald F hT hW (cn (S2 11 (d - 1))) (o13 2 (k := 12) (by omega)) (Nat.lt_of_le_of_lt hl4.2 (by decide)) (by decide) hl4.1 rfl dL_isTick_942 ?_
                          have hJ29 : ∀ (v28 : Int32) (H : Heap) (locs : List Loc) (ls : Array Slot), v28 = (if (S25 2 (cn (S2 11 (d - 1)))) = 0 then 0 else 1) → Wd E s H locs (fo μ 13 S25) → lv_has ls 27 [(24, .int 5), (23, .int (S2 11 (d - 1))), (17, .int ((nI d) + (-1))), (19, .int (u19 + 1)), (0, .ref (ea E 11 0)), (1, .int (nI n)), (2, .ref (ea E 13 0)), (3, .ref (ea E 13 1)), (4, .ref (ea E 13 2)), (5, .ref (ea E 13 3)), (6, .ref (ea E 13 4)), (7, .ref (ea E 13 5)), (8, .ref (ea E 13 6)), (9, .ref (ea E 13 7)), (10, .ref (ea E 13 8)), (11, .ref (ea E 13 9)), (12, .ref (ea E 13 10)), (13, .ref (ea E 13 11)), (14, .ref (ea E 13 12)), (15, .ref (ea E 13 13)), (16, .ref (ea E 13 14)), (18, .int u18), (20, .int u20), (21, .int u21)] → W p l e (rmC 6 136 16 177) s m args below meth c H locs 15 165 Q (F0 m 951 ls [.int v28, .int (S2 11 (d - 1)), .ref (ea E 13 0)]) := by
                            intro v28 H locs ls ev28 hW hl
                            refine jiast F hT hW (cn (S2 11 (d - 1))) (o13 0 (k := 12) (by omega)) (by decide) (Nat.lt_of_le_of_lt hl4.2 (by decide)) (by decide) hl4.1 rfl dL_isTick_951 (fun S30 H locs eS30 hW => ?_)
                            refine lv_aload_n F.1 F.2.1 dL_isTick_952 rfl (lv_at hl 7 rfl) ?_
                            refine lv_iload F.1 F.2.1 dL_isTick_953 (lv_at hl 1 rfl) ?_
                            refine lv_iconst (v := 0) F.1 F.2.1 dL_isTick_955 (by decide) ?_
                            refine jiast F hT hW (cn (S2 11 (d - 1))) (o13 1 (k := 12) (by omega)) (by decide) (Nat.lt_of_le_of_lt hl4.2 (by decide)) (by decide) hl4.1 rfl dL_isTick_956 (fun S31 H locs eS31 hW => ?_)
                            have hq : (S31, (nI d) + (-1), u19 + 1) = g_T4 B A d u19 := by
                              subst eS31
                              subst eS30
                              subst ev28
                              subst eS25
                              subst ex17
                              subst ex14
                              subst ex11
                              subst ex8
                              subst eS5
                              subst eS4
                              subst eS2
                              exact ((if_neg h1).trans ((if_pos h3).trans ((if_pos h6).trans ((if_pos h9).trans ((if_pos h12).trans ((if_pos h15).trans (if_neg h18))))))).symm
                            exact kk _ _ _ _ _ _ hq hW (lv_sub hl [4, 5, 6, 7, 8, 9, 10, 11, 12, 13, 14, 15, 16, 17, 18, 19, 20, 2, 21, 3, 22, 23] rfl)
                          refine lv_if_eq (tgt := 950) F.1 F.2.1 dL_isTick_943 (by decide) (fun h27 => ?_) (fun h27 => ?_)
                          · refine lv_iconst (v := 0) F.1 F.2.1 dL_isTick_950 (by decide) ?_
                            exact hJ29 _ _ _ _ (if_pos h27).symm hW (lv_sub hl [0, 1, 2, 3, 4, 5, 6, 7, 8, 9, 10, 11, 12, 13, 14, 15, 16, 17, 18, 19, 20, 21, 22, 23] rfl)
                          · refine lv_iconst (v := 1) F.1 F.2.1 dL_isTick_946 (by decide) ?_
                            refine lv_goto (tgt := 951) F.1 F.2.1 dL_isTick_947 (by decide) ?_
                            exact hJ29 _ _ _ _ (if_neg h27).symm hW (lv_sub hl [0, 1, 2, 3, 4, 5, 6, 7, 8, 9, 10, 11, 12, 13, 14, 15, 16, 17, 18, 19, 20, 21, 22, 23] rfl)
                        · exact absurd (by decide) h26
                  · refine lv_aload F.1 F.2.1 dL_isTick_914 (lv_at hl 8 rfl) ?_
                    refine lv_iload F.1 F.2.1 dL_isTick_916 (lv_at hl 1 rfl) ?_
                    refine lv_dup2_11 F.1 F.2.1 dL_isTick_918 rfl rfl ?_
                    refine jiald F hT hW (cn (S2 11 (d - 1))) (o13 2 (k := 12) (by omega)) (Nat.lt_of_le_of_lt hl4.2 (by decide)) (by decide) hl4.1 rfl dL_isTick_919 ?_
                    refine lv_iconst (v := 1) F.1 F.2.1 dL_isTick_920 (by decide) ?_
                    refine lv_iload F.1 F.2.1 dL_isTick_921 (lv_at hl 0 rfl) ?_
                    refine lv_ishl F.1 F.2.1 dL_isTick_923 ?_
                    refine lv_ixor F.1 F.2.1 dL_isTick_924 ?_
                    refine jiast F hT hW (cn (S2 11 (d - 1))) (o13 2 (k := 12) (by omega)) (by decide) (Nat.lt_of_le_of_lt hl4.2 (by decide)) (by decide) hl4.1 rfl dL_isTick_925 (fun S32 H locs eS32 hW => ?_)
                    refine lv_iconst (v := 4) F.1 F.2.1 dL_isTick_926 (by decide) ?_
                    refine lv_istore (lv' := [(24, .int 4), (23, .int (S2 11 (d - 1))), (17, .int ((nI d) + (-1))), (19, .int (u19 + 1)), (0, .ref (ea E 11 0)), (1, .int (nI n)), (2, .ref (ea E 13 0)), (3, .ref (ea E 13 1)), (4, .ref (ea E 13 2)), (5, .ref (ea E 13 3)), (6, .ref (ea E 13 4)), (7, .ref (ea E 13 5)), (8, .ref (ea E 13 6)), (9, .ref (ea E 13 7)), (10, .ref (ea E 13 8)), (11, .ref (ea E 13 9)), (12, .ref (ea E 13 10)), (13, .ref (ea E 13 11)), (14, .ref (ea E 13 12)), (15, .ref (ea E 13 13)), (16, .ref (ea E 13 14)), (18, .int u18), (20, .int u20), (21, .int u21)]) F.1 F.2.1 dL_isTick_927 hl (by decide) rfl (fun ls hl => ?_)
                    refine lv_iinc (v := 5) (lv' := [(24, .int 5), (23, .int (S2 11 (d - 1))), (17, .int ((nI d) + (-1))), (19, .int (u19 + 1)), (0, .ref (ea E 11 0)), (1, .int (nI n)), (2, .ref (ea E 13 0)), (3, .ref (ea E 13 1)), (4, .ref (ea E 13 2)), (5, .ref (ea E 13 3)), (6, .ref (ea E 13 4)), (7, .ref (ea E 13 5)), (8, .ref (ea E 13 6)), (9, .ref (ea E 13 7)), (10, .ref (ea E 13 8)), (11, .ref (ea E 13 9)), (12, .ref (ea E 13 10)), (13, .ref (ea E 13 11)), (14, .ref (ea E 13 12)), (15, .ref (ea E 13 13)), (16, .ref (ea E 13 14)), (18, .int u18), (20, .int u20), (21, .int u21)]) F.1 F.2.1 dL_isTick_929 hl (k := 0) rfl (by decide) (by decide) rfl (fun ls hl => ?_)
                    refine lv_goto (tgt := 895) F.1 F.2.1 dL_isTick_932 (by decide) ?_
                    refine lv_iload F.1 F.2.1 dL_isTick_895 (lv_at hl 0 rfl) ?_
                    refine lv_iconst (v := 4) F.1 F.2.1 dL_isTick_897 (by decide) ?_
                    refine lv_icmp_ge (tgt := 935) F.1 F.2.1 dL_isTick_898 (by decide) (fun h33 => ?_) (fun h33 => ?_)
                    · refine lv_aload_n F.1 F.2.1 dL_isTick_935 rfl (lv_at hl 6 rfl) ?_
                      refine lv_iload F.1 F.2.1 dL_isTick_936 (lv_at hl 1 rfl) ?_
                      refine lv_aload F.1 F.2.1 dL_isTick_938 (lv_at hl 8 rfl) ?_
                      refine lv_iload F.1 F.2.1 dL_isTick_940 (lv_at hl 1 rfl) ?_
                      refine jiald F hT hW (cn (S2 11 (d - 1))) (o13 2 (k := 12) (by omega)) (Nat.lt_of_le_of_lt hl4.2 (by decide)) (by decide) hl4.1 rfl dL_isTick_942 ?_
                      have hJ36 : ∀ (v35 : Int32) (H : Heap) (locs : List Loc) (ls : Array Slot), v35 = (if (S32 2 (cn (S2 11 (d - 1)))) = 0 then 0 else 1) → Wd E s H locs (fo μ 13 S32) → lv_has ls 27 [(24, .int 5), (23, .int (S2 11 (d - 1))), (17, .int ((nI d) + (-1))), (19, .int (u19 + 1)), (0, .ref (ea E 11 0)), (1, .int (nI n)), (2, .ref (ea E 13 0)), (3, .ref (ea E 13 1)), (4, .ref (ea E 13 2)), (5, .ref (ea E 13 3)), (6, .ref (ea E 13 4)), (7, .ref (ea E 13 5)), (8, .ref (ea E 13 6)), (9, .ref (ea E 13 7)), (10, .ref (ea E 13 8)), (11, .ref (ea E 13 9)), (12, .ref (ea E 13 10)), (13, .ref (ea E 13 11)), (14, .ref (ea E 13 12)), (15, .ref (ea E 13 13)), (16, .ref (ea E 13 14)), (18, .int u18), (20, .int u20), (21, .int u21)] → W p l e (rmC 6 136 16 177) s m args below meth c H locs 15 165 Q (F0 m 951 ls [.int v35, .int (S2 11 (d - 1)), .ref (ea E 13 0)]) := by
                        intro v35 H locs ls ev35 hW hl
                        refine jiast F hT hW (cn (S2 11 (d - 1))) (o13 0 (k := 12) (by omega)) (by decide) (Nat.lt_of_le_of_lt hl4.2 (by decide)) (by decide) hl4.1 rfl dL_isTick_951 (fun S37 H locs eS37 hW => ?_)
                        refine lv_aload_n F.1 F.2.1 dL_isTick_952 rfl (lv_at hl 7 rfl) ?_
                        refine lv_iload F.1 F.2.1 dL_isTick_953 (lv_at hl 1 rfl) ?_
                        refine lv_iconst (v := 0) F.1 F.2.1 dL_isTick_955 (by decide) ?_
                        refine jiast F hT hW (cn (S2 11 (d - 1))) (o13 1 (k := 12) (by omega)) (by decide) (Nat.lt_of_le_of_lt hl4.2 (by decide)) (by decide) hl4.1 rfl dL_isTick_956 (fun S38 H locs eS38 hW => ?_)
                        have hq : (S38, (nI d) + (-1), u19 + 1) = g_T4 B A d u19 := by
                          subst eS38
                          subst eS37
                          subst ev35
                          subst eS32
                          subst ex14
                          subst ex11
                          subst ex8
                          subst eS5
                          subst eS4
                          subst eS2
                          exact ((if_neg h1).trans ((if_pos h3).trans ((if_pos h6).trans ((if_pos h9).trans ((if_pos h12).trans (if_neg h15)))))).symm
                        exact kk _ _ _ _ _ _ hq hW (lv_sub hl [4, 5, 6, 7, 8, 9, 10, 11, 12, 13, 14, 15, 16, 17, 18, 19, 20, 2, 21, 3, 22, 23] rfl)
                      refine lv_if_eq (tgt := 950) F.1 F.2.1 dL_isTick_943 (by decide) (fun h34 => ?_) (fun h34 => ?_)
                      · refine lv_iconst (v := 0) F.1 F.2.1 dL_isTick_950 (by decide) ?_
                        exact hJ36 _ _ _ _ (if_pos h34).symm hW (lv_sub hl [0, 1, 2, 3, 4, 5, 6, 7, 8, 9, 10, 11, 12, 13, 14, 15, 16, 17, 18, 19, 20, 21, 22, 23] rfl)
                      · refine lv_iconst (v := 1) F.1 F.2.1 dL_isTick_946 (by decide) ?_
                        refine lv_goto (tgt := 951) F.1 F.2.1 dL_isTick_947 (by decide) ?_
                        exact hJ36 _ _ _ _ (if_neg h34).symm hW (lv_sub hl [0, 1, 2, 3, 4, 5, 6, 7, 8, 9, 10, 11, 12, 13, 14, 15, 16, 17, 18, 19, 20, 21, 22, 23] rfl)
                    · exact absurd (by decide) h33
              · refine lv_aload F.1 F.2.1 dL_isTick_914 (lv_at hl 8 rfl) ?_
                refine lv_iload F.1 F.2.1 dL_isTick_916 (lv_at hl 1 rfl) ?_
                refine lv_dup2_11 F.1 F.2.1 dL_isTick_918 rfl rfl ?_
                refine jiald F hT hW (cn (S2 11 (d - 1))) (o13 2 (k := 12) (by omega)) (Nat.lt_of_le_of_lt hl4.2 (by decide)) (by decide) hl4.1 rfl dL_isTick_919 ?_
                refine lv_iconst (v := 1) F.1 F.2.1 dL_isTick_920 (by decide) ?_
                refine lv_iload F.1 F.2.1 dL_isTick_921 (lv_at hl 0 rfl) ?_
                refine lv_ishl F.1 F.2.1 dL_isTick_923 ?_
                refine lv_ixor F.1 F.2.1 dL_isTick_924 ?_
                refine jiast F hT hW (cn (S2 11 (d - 1))) (o13 2 (k := 12) (by omega)) (by decide) (Nat.lt_of_le_of_lt hl4.2 (by decide)) (by decide) hl4.1 rfl dL_isTick_925 (fun S39 H locs eS39 hW => ?_)
                refine lv_iconst (v := 4) F.1 F.2.1 dL_isTick_926 (by decide) ?_
                refine lv_istore (lv' := [(24, .int 4), (23, .int (S2 11 (d - 1))), (17, .int ((nI d) + (-1))), (19, .int (u19 + 1)), (0, .ref (ea E 11 0)), (1, .int (nI n)), (2, .ref (ea E 13 0)), (3, .ref (ea E 13 1)), (4, .ref (ea E 13 2)), (5, .ref (ea E 13 3)), (6, .ref (ea E 13 4)), (7, .ref (ea E 13 5)), (8, .ref (ea E 13 6)), (9, .ref (ea E 13 7)), (10, .ref (ea E 13 8)), (11, .ref (ea E 13 9)), (12, .ref (ea E 13 10)), (13, .ref (ea E 13 11)), (14, .ref (ea E 13 12)), (15, .ref (ea E 13 13)), (16, .ref (ea E 13 14)), (18, .int u18), (20, .int u20), (21, .int u21)]) F.1 F.2.1 dL_isTick_927 hl (by decide) rfl (fun ls hl => ?_)
                refine lv_iinc (v := 5) (lv' := [(24, .int 5), (23, .int (S2 11 (d - 1))), (17, .int ((nI d) + (-1))), (19, .int (u19 + 1)), (0, .ref (ea E 11 0)), (1, .int (nI n)), (2, .ref (ea E 13 0)), (3, .ref (ea E 13 1)), (4, .ref (ea E 13 2)), (5, .ref (ea E 13 3)), (6, .ref (ea E 13 4)), (7, .ref (ea E 13 5)), (8, .ref (ea E 13 6)), (9, .ref (ea E 13 7)), (10, .ref (ea E 13 8)), (11, .ref (ea E 13 9)), (12, .ref (ea E 13 10)), (13, .ref (ea E 13 11)), (14, .ref (ea E 13 12)), (15, .ref (ea E 13 13)), (16, .ref (ea E 13 14)), (18, .int u18), (20, .int u20), (21, .int u21)]) F.1 F.2.1 dL_isTick_929 hl (k := 0) rfl (by decide) (by decide) rfl (fun ls hl => ?_)
                refine lv_goto (tgt := 895) F.1 F.2.1 dL_isTick_932 (by decide) ?_
                refine lv_iload F.1 F.2.1 dL_isTick_895 (lv_at hl 0 rfl) ?_
                refine lv_iconst (v := 4) F.1 F.2.1 dL_isTick_897 (by decide) ?_
                refine lv_icmp_ge (tgt := 935) F.1 F.2.1 dL_isTick_898 (by decide) (fun h40 => ?_) (fun h40 => ?_)
                · refine lv_aload_n F.1 F.2.1 dL_isTick_935 rfl (lv_at hl 6 rfl) ?_
                  refine lv_iload F.1 F.2.1 dL_isTick_936 (lv_at hl 1 rfl) ?_
                  refine lv_aload F.1 F.2.1 dL_isTick_938 (lv_at hl 8 rfl) ?_
                  refine lv_iload F.1 F.2.1 dL_isTick_940 (lv_at hl 1 rfl) ?_
                  refine jiald F hT hW (cn (S2 11 (d - 1))) (o13 2 (k := 12) (by omega)) (Nat.lt_of_le_of_lt hl4.2 (by decide)) (by decide) hl4.1 rfl dL_isTick_942 ?_
                  have hJ43 : ∀ (v42 : Int32) (H : Heap) (locs : List Loc) (ls : Array Slot), v42 = (if (S39 2 (cn (S2 11 (d - 1)))) = 0 then 0 else 1) → Wd E s H locs (fo μ 13 S39) → lv_has ls 27 [(24, .int 5), (23, .int (S2 11 (d - 1))), (17, .int ((nI d) + (-1))), (19, .int (u19 + 1)), (0, .ref (ea E 11 0)), (1, .int (nI n)), (2, .ref (ea E 13 0)), (3, .ref (ea E 13 1)), (4, .ref (ea E 13 2)), (5, .ref (ea E 13 3)), (6, .ref (ea E 13 4)), (7, .ref (ea E 13 5)), (8, .ref (ea E 13 6)), (9, .ref (ea E 13 7)), (10, .ref (ea E 13 8)), (11, .ref (ea E 13 9)), (12, .ref (ea E 13 10)), (13, .ref (ea E 13 11)), (14, .ref (ea E 13 12)), (15, .ref (ea E 13 13)), (16, .ref (ea E 13 14)), (18, .int u18), (20, .int u20), (21, .int u21)] → W p l e (rmC 6 136 16 177) s m args below meth c H locs 15 165 Q (F0 m 951 ls [.int v42, .int (S2 11 (d - 1)), .ref (ea E 13 0)]) := by
                    intro v42 H locs ls ev42 hW hl
                    refine jiast F hT hW (cn (S2 11 (d - 1))) (o13 0 (k := 12) (by omega)) (by decide) (Nat.lt_of_le_of_lt hl4.2 (by decide)) (by decide) hl4.1 rfl dL_isTick_951 (fun S44 H locs eS44 hW => ?_)
                    refine lv_aload_n F.1 F.2.1 dL_isTick_952 rfl (lv_at hl 7 rfl) ?_
                    refine lv_iload F.1 F.2.1 dL_isTick_953 (lv_at hl 1 rfl) ?_
                    refine lv_iconst (v := 0) F.1 F.2.1 dL_isTick_955 (by decide) ?_
                    refine jiast F hT hW (cn (S2 11 (d - 1))) (o13 1 (k := 12) (by omega)) (by decide) (Nat.lt_of_le_of_lt hl4.2 (by decide)) (by decide) hl4.1 rfl dL_isTick_956 (fun S45 H locs eS45 hW => ?_)
                    have hq : (S45, (nI d) + (-1), u19 + 1) = g_T4 B A d u19 := by
                      subst eS45
                      subst eS44
                      subst ev42
                      subst eS39
                      subst ex11
                      subst ex8
                      subst eS5
                      subst eS4
                      subst eS2
                      exact ((if_neg h1).trans ((if_pos h3).trans ((if_pos h6).trans ((if_pos h9).trans (if_neg h12))))).symm
                    exact kk _ _ _ _ _ _ hq hW (lv_sub hl [4, 5, 6, 7, 8, 9, 10, 11, 12, 13, 14, 15, 16, 17, 18, 19, 20, 2, 21, 3, 22, 23] rfl)
                  refine lv_if_eq (tgt := 950) F.1 F.2.1 dL_isTick_943 (by decide) (fun h41 => ?_) (fun h41 => ?_)
                  · refine lv_iconst (v := 0) F.1 F.2.1 dL_isTick_950 (by decide) ?_
                    exact hJ43 _ _ _ _ (if_pos h41).symm hW (lv_sub hl [0, 1, 2, 3, 4, 5, 6, 7, 8, 9, 10, 11, 12, 13, 14, 15, 16, 17, 18, 19, 20, 21, 22, 23] rfl)
                  · refine lv_iconst (v := 1) F.1 F.2.1 dL_isTick_946 (by decide) ?_
                    refine lv_goto (tgt := 951) F.1 F.2.1 dL_isTick_947 (by decide) ?_
                    exact hJ43 _ _ _ _ (if_neg h41).symm hW (lv_sub hl [0, 1, 2, 3, 4, 5, 6, 7, 8, 9, 10, 11, 12, 13, 14, 15, 16, 17, 18, 19, 20, 21, 22, 23] rfl)
                · exact absurd (by decide) h40
          · refine lv_aload F.1 F.2.1 dL_isTick_914 (lv_at hl 8 rfl) ?_
            refine lv_iload F.1 F.2.1 dL_isTick_916 (lv_at hl 1 rfl) ?_
            refine lv_dup2_11 F.1 F.2.1 dL_isTick_918 rfl rfl ?_
            refine jiald F hT hW (cn (S2 11 (d - 1))) (o13 2 (k := 12) (by omega)) (Nat.lt_of_le_of_lt hl4.2 (by decide)) (by decide) hl4.1 rfl dL_isTick_919 ?_
            refine lv_iconst (v := 1) F.1 F.2.1 dL_isTick_920 (by decide) ?_
            refine lv_iload F.1 F.2.1 dL_isTick_921 (lv_at hl 0 rfl) ?_
            refine lv_ishl F.1 F.2.1 dL_isTick_923 ?_
            refine lv_ixor F.1 F.2.1 dL_isTick_924 ?_
            refine jiast F hT hW (cn (S2 11 (d - 1))) (o13 2 (k := 12) (by omega)) (by decide) (Nat.lt_of_le_of_lt hl4.2 (by decide)) (by decide) hl4.1 rfl dL_isTick_925 (fun S46 H locs eS46 hW => ?_)
            refine lv_iconst (v := 4) F.1 F.2.1 dL_isTick_926 (by decide) ?_
            refine lv_istore (lv' := [(24, .int 4), (23, .int (S2 11 (d - 1))), (17, .int ((nI d) + (-1))), (19, .int (u19 + 1)), (0, .ref (ea E 11 0)), (1, .int (nI n)), (2, .ref (ea E 13 0)), (3, .ref (ea E 13 1)), (4, .ref (ea E 13 2)), (5, .ref (ea E 13 3)), (6, .ref (ea E 13 4)), (7, .ref (ea E 13 5)), (8, .ref (ea E 13 6)), (9, .ref (ea E 13 7)), (10, .ref (ea E 13 8)), (11, .ref (ea E 13 9)), (12, .ref (ea E 13 10)), (13, .ref (ea E 13 11)), (14, .ref (ea E 13 12)), (15, .ref (ea E 13 13)), (16, .ref (ea E 13 14)), (18, .int u18), (20, .int u20), (21, .int u21)]) F.1 F.2.1 dL_isTick_927 hl (by decide) rfl (fun ls hl => ?_)
            refine lv_iinc (v := 5) (lv' := [(24, .int 5), (23, .int (S2 11 (d - 1))), (17, .int ((nI d) + (-1))), (19, .int (u19 + 1)), (0, .ref (ea E 11 0)), (1, .int (nI n)), (2, .ref (ea E 13 0)), (3, .ref (ea E 13 1)), (4, .ref (ea E 13 2)), (5, .ref (ea E 13 3)), (6, .ref (ea E 13 4)), (7, .ref (ea E 13 5)), (8, .ref (ea E 13 6)), (9, .ref (ea E 13 7)), (10, .ref (ea E 13 8)), (11, .ref (ea E 13 9)), (12, .ref (ea E 13 10)), (13, .ref (ea E 13 11)), (14, .ref (ea E 13 12)), (15, .ref (ea E 13 13)), (16, .ref (ea E 13 14)), (18, .int u18), (20, .int u20), (21, .int u21)]) F.1 F.2.1 dL_isTick_929 hl (k := 0) rfl (by decide) (by decide) rfl (fun ls hl => ?_)
            refine lv_goto (tgt := 895) F.1 F.2.1 dL_isTick_932 (by decide) ?_
            refine lv_iload F.1 F.2.1 dL_isTick_895 (lv_at hl 0 rfl) ?_
            refine lv_iconst (v := 4) F.1 F.2.1 dL_isTick_897 (by decide) ?_
            refine lv_icmp_ge (tgt := 935) F.1 F.2.1 dL_isTick_898 (by decide) (fun h47 => ?_) (fun h47 => ?_)
            · refine lv_aload_n F.1 F.2.1 dL_isTick_935 rfl (lv_at hl 6 rfl) ?_
              refine lv_iload F.1 F.2.1 dL_isTick_936 (lv_at hl 1 rfl) ?_
              refine lv_aload F.1 F.2.1 dL_isTick_938 (lv_at hl 8 rfl) ?_
              refine lv_iload F.1 F.2.1 dL_isTick_940 (lv_at hl 1 rfl) ?_
              refine jiald F hT hW (cn (S2 11 (d - 1))) (o13 2 (k := 12) (by omega)) (Nat.lt_of_le_of_lt hl4.2 (by decide)) (by decide) hl4.1 rfl dL_isTick_942 ?_
              have hJ50 : ∀ (v49 : Int32) (H : Heap) (locs : List Loc) (ls : Array Slot), v49 = (if (S46 2 (cn (S2 11 (d - 1)))) = 0 then 0 else 1) → Wd E s H locs (fo μ 13 S46) → lv_has ls 27 [(24, .int 5), (23, .int (S2 11 (d - 1))), (17, .int ((nI d) + (-1))), (19, .int (u19 + 1)), (0, .ref (ea E 11 0)), (1, .int (nI n)), (2, .ref (ea E 13 0)), (3, .ref (ea E 13 1)), (4, .ref (ea E 13 2)), (5, .ref (ea E 13 3)), (6, .ref (ea E 13 4)), (7, .ref (ea E 13 5)), (8, .ref (ea E 13 6)), (9, .ref (ea E 13 7)), (10, .ref (ea E 13 8)), (11, .ref (ea E 13 9)), (12, .ref (ea E 13 10)), (13, .ref (ea E 13 11)), (14, .ref (ea E 13 12)), (15, .ref (ea E 13 13)), (16, .ref (ea E 13 14)), (18, .int u18), (20, .int u20), (21, .int u21)] → W p l e (rmC 6 136 16 177) s m args below meth c H locs 15 165 Q (F0 m 951 ls [.int v49, .int (S2 11 (d - 1)), .ref (ea E 13 0)]) := by
                intro v49 H locs ls ev49 hW hl
                refine jiast F hT hW (cn (S2 11 (d - 1))) (o13 0 (k := 12) (by omega)) (by decide) (Nat.lt_of_le_of_lt hl4.2 (by decide)) (by decide) hl4.1 rfl dL_isTick_951 (fun S51 H locs eS51 hW => ?_)
                refine lv_aload_n F.1 F.2.1 dL_isTick_952 rfl (lv_at hl 7 rfl) ?_
                refine lv_iload F.1 F.2.1 dL_isTick_953 (lv_at hl 1 rfl) ?_
                refine lv_iconst (v := 0) F.1 F.2.1 dL_isTick_955 (by decide) ?_
                refine jiast F hT hW (cn (S2 11 (d - 1))) (o13 1 (k := 12) (by omega)) (by decide) (Nat.lt_of_le_of_lt hl4.2 (by decide)) (by decide) hl4.1 rfl dL_isTick_956 (fun S52 H locs eS52 hW => ?_)
                have hq : (S52, (nI d) + (-1), u19 + 1) = g_T4 B A d u19 := by
                  subst eS52
                  subst eS51
                  subst ev49
                  subst eS46
                  subst ex8
                  subst eS5
                  subst eS4
                  subst eS2
                  exact ((if_neg h1).trans ((if_pos h3).trans ((if_pos h6).trans (if_neg h9)))).symm
                exact kk _ _ _ _ _ _ hq hW (lv_sub hl [4, 5, 6, 7, 8, 9, 10, 11, 12, 13, 14, 15, 16, 17, 18, 19, 20, 2, 21, 3, 22, 23] rfl)
              refine lv_if_eq (tgt := 950) F.1 F.2.1 dL_isTick_943 (by decide) (fun h48 => ?_) (fun h48 => ?_)
              · refine lv_iconst (v := 0) F.1 F.2.1 dL_isTick_950 (by decide) ?_
                exact hJ50 _ _ _ _ (if_pos h48).symm hW (lv_sub hl [0, 1, 2, 3, 4, 5, 6, 7, 8, 9, 10, 11, 12, 13, 14, 15, 16, 17, 18, 19, 20, 21, 22, 23] rfl)
              · refine lv_iconst (v := 1) F.1 F.2.1 dL_isTick_946 (by decide) ?_
                refine lv_goto (tgt := 951) F.1 F.2.1 dL_isTick_947 (by decide) ?_
                exact hJ50 _ _ _ _ (if_neg h48).symm hW (lv_sub hl [0, 1, 2, 3, 4, 5, 6, 7, 8, 9, 10, 11, 12, 13, 14, 15, 16, 17, 18, 19, 20, 21, 22, 23] rfl)
            · exact absurd (by decide) h47
def q_T5_966 (B A : Sv) (n : Nat) (j : Nat) (σ : Sv) : Sv :=
  let S1 : Sv := σ
  let S3 : Sv := us S1 1 j ((S1 1 j) + (S1 0 j))
  let S4 : Sv := us S3 15 j (p_X3_numberOfLine B (nI j) 4)
  S4
def g_T5 (B A : Sv) (n : Nat) : Sv :=
  let S1 : Sv := (itN (q_T5_966 B A n) n (A))
  S1
set_option maxHeartbeats 4000000 in
set_option maxRecDepth 100000 in
theorem sg_T5 {p : Program} {l : Launch} {e : Env} {s : State} {m : MethodId} {args : Array Value} {below : List Frame} {meth : Method} {c : Code} {Q : State → Prop} {E : mE} {μ : Mu} {H : Heap} {locs : List Loc} {ls : Array Slot} (F : CallFix p m c cL_isTick 27 s args TB RL) (hT : Stat E s) (B A : Sv) (n : Nat) {d : Nat} {u18 u19 u20 u21 : Int32} (hE : nlc E = 16) (hB : μ 0 = B) (hc : Wc μ) (hn12 : n ≤ 12) (hW : Wd E s H locs (fo μ 13 A)) (hl : lv_has ls 27 [(0, .ref (ea E 11 0)), (1, .int (nI n)), (2, .ref (ea E 13 0)), (3, .ref (ea E 13 1)), (4, .ref (ea E 13 2)), (5, .ref (ea E 13 3)), (6, .ref (ea E 13 4)), (7, .ref (ea E 13 5)), (8, .ref (ea E 13 6)), (9, .ref (ea E 13 7)), (10, .ref (ea E 13 8)), (11, .ref (ea E 13 9)), (12, .ref (ea E 13 10)), (13, .ref (ea E 13 11)), (14, .ref (ea E 13 12)), (15, .ref (ea E 13 13)), (16, .ref (ea E 13 14)), (17, .int (nI d)), (18, .int u18), (19, .int u19), (20, .int u20), (21, .int u21), (23, .ref (ea E 13 15))])
    (kk : ∀ (S' : Sv) (H : Heap) (locs : List Loc) (ls : Array Slot), S' = g_T5 B A n → Wd E s H locs (fo μ 13 S') → lv_has ls 27 [(0, .ref (ea E 11 0)), (1, .int (nI n)), (2, .ref (ea E 13 0)), (3, .ref (ea E 13 1)), (4, .ref (ea E 13 2)), (5, .ref (ea E 13 3)), (6, .ref (ea E 13 4)), (7, .ref (ea E 13 5)), (8, .ref (ea E 13 6)), (9, .ref (ea E 13 7)), (10, .ref (ea E 13 8)), (11, .ref (ea E 13 9)), (12, .ref (ea E 13 10)), (13, .ref (ea E 13 11)), (14, .ref (ea E 13 12)), (15, .ref (ea E 13 13)), (16, .ref (ea E 13 14)), (17, .int (nI d)), (18, .int u18), (19, .int u19), (20, .int u20), (21, .int u21), (23, .ref (ea E 13 15))] → W p l e (rmC 6 136 16 177) s m args below meth c H locs 16 177 Q (F0 m 1001 ls [])) : W p l e (rmC 6 136 16 177) s m args below meth c H locs 16 177 Q (F0 m 963 ls []) := by
  refine lv_iconst (v := 0) F.1 F.2.1 dL_isTick_963 (by decide) ?_
  refine lv_istore (lv' := [(24, .int 0), (0, .ref (ea E 11 0)), (1, .int (nI n)), (2, .ref (ea E 13 0)), (3, .ref (ea E 13 1)), (4, .ref (ea E 13 2)), (5, .ref (ea E 13 3)), (6, .ref (ea E 13 4)), (7, .ref (ea E 13 5)), (8, .ref (ea E 13 6)), (9, .ref (ea E 13 7)), (10, .ref (ea E 13 8)), (11, .ref (ea E 13 9)), (12, .ref (ea E 13 10)), (13, .ref (ea E 13 11)), (14, .ref (ea E 13 12)), (15, .ref (ea E 13 13)), (16, .ref (ea E 13 14)), (17, .int (nI d)), (18, .int u18), (19, .int u19), (20, .int u20), (21, .int u21), (23, .ref (ea E 13 15))]) F.1 F.2.1 dL_isTick_964 hl (by decide) rfl (fun ls hl => ?_)
  have hL2 : ∀ (fu j : Nat) (S1 : Sv) (H : Heap) (locs : List Loc) (ls : Array Slot), j + fu = n → (S1) = itN (q_T5_966 B A n) j (A) → Wd E s H locs (fo μ 13 S1) → lv_has ls 27 [(24, .int (nI j)), (0, .ref (ea E 11 0)), (1, .int (nI n)), (2, .ref (ea E 13 0)), (3, .ref (ea E 13 1)), (4, .ref (ea E 13 2)), (5, .ref (ea E 13 3)), (6, .ref (ea E 13 4)), (7, .ref (ea E 13 5)), (8, .ref (ea E 13 6)), (9, .ref (ea E 13 7)), (10, .ref (ea E 13 8)), (11, .ref (ea E 13 9)), (12, .ref (ea E 13 10)), (13, .ref (ea E 13 11)), (14, .ref (ea E 13 12)), (15, .ref (ea E 13 13)), (16, .ref (ea E 13 14)), (17, .int (nI d)), (18, .int u18), (19, .int u19), (20, .int u20), (21, .int u21), (23, .ref (ea E 13 15))] → W p l e (rmC 6 136 16 177) s m args below meth c H locs 16 177 Q (F0 m 966 ls []) := by
    intro fu
    induction fu with
    | zero =>
      intro j S1 H locs ls hj hs  hW hl
      obtain rfl : n = j := by omega
      have eS1 := hs
      refine lv_iload F.1 F.2.1 dL_isTick_966 (lv_at hl 0 rfl) ?_
      refine lv_iload_n F.1 F.2.1 dL_isTick_968 rfl (lv_at hl 2 rfl) ?_
      refine lv_icmp_ge (tgt := 1001) F.1 F.2.1 dL_isTick_969 (by decide) (fun h3 => ?_) (fun h3 => ?_)
      · have hq : S1 = g_T5 B A n := by
          subst eS1
          exact (rfl).symm
        exact kk _ _ _ _ hq hW (lv_sub hl [1, 2, 3, 4, 5, 6, 7, 8, 9, 10, 11, 12, 13, 14, 15, 16, 17, 18, 19, 20, 21, 22, 23] rfl)
      · exact absurd (c_le rfl rfl (by omega) (by omega)) h3
    | succ fu ih =>
      intro j S1 H locs ls hj hs  hW hl
      refine lv_iload F.1 F.2.1 dL_isTick_966 (lv_at hl 0 rfl) ?_
      refine lv_iload_n F.1 F.2.1 dL_isTick_968 rfl (lv_at hl 2 rfl) ?_
      refine lv_icmp_ge (tgt := 1001) F.1 F.2.1 dL_isTick_969 (by decide) (fun h2 => ?_) (fun h2 => ?_)
      · exact absurd h2 (c_nle rfl rfl (by omega) (by omega))
      · refine lv_aload_n F.1 F.2.1 dL_isTick_972 rfl (lv_at hl 4 rfl) ?_
        refine lv_iload F.1 F.2.1 dL_isTick_973 (lv_at hl 0 rfl) ?_
        refine lv_dup2_11 F.1 F.2.1 dL_isTick_975 rfl rfl ?_
        refine jiald F hT hW j (o13 1 (k := 12) (by omega)) (by omega) (by decide) rfl rfl dL_isTick_976 ?_
        refine lv_aload_n F.1 F.2.1 dL_isTick_977 rfl (lv_at hl 3 rfl) ?_
        refine lv_iload F.1 F.2.1 dL_isTick_978 (lv_at hl 0 rfl) ?_
        refine jiald F hT hW j (o13 0 (k := 12) (by omega)) (by omega) (by decide) rfl rfl dL_isTick_980 ?_
        refine lv_iadd F.1 F.2.1 dL_isTick_981 ?_
        refine jiast F hT hW j (o13 1 (k := 12) (by omega)) (by decide) (by omega) (by decide) rfl rfl dL_isTick_982 (fun S3 H locs eS3 hW => ?_)
        refine lv_aload F.1 F.2.1 dL_isTick_983 (lv_at hl 23 rfl) ?_
        refine lv_iload F.1 F.2.1 dL_isTick_985 (lv_at hl 0 rfl) ?_
        refine lv_aload_n F.1 F.2.1 dL_isTick_987 rfl (lv_at hl 1 rfl) ?_
        refine lv_iload F.1 F.2.1 dL_isTick_988 (lv_at hl 0 rfl) ?_
        refine lv_iconst (v := 4) F.1 F.2.1 dL_isTick_990 (by decide) ?_
        refine jcir (jrunV (As := [.int (nI j), .int 4]) (rest := [.int (nI j), .ref (ea E 13 15)]) F hT hW yc_X6_ofLine yv_X6_ofLine ml_L_8 oH0 (by decide) rfl (r_ofLine l E (fo μ 13 S3) (hB13 hB) (wc13 hc) (nI j) 4) rfl hl.1 ⟨Nat.le_of_ble_eq_true rfl, Nat.le_of_ble_eq_true rfl⟩ rfl (Nat.le_of_ble_eq_true rfl) ⟨by decide, by decide⟩ dL_isTick_991) hW (fun H locs hW => ?_)
        refine jiast F hT hW j (o13 15 (k := 12) (by omega)) (by decide) (by omega) (by decide) rfl rfl dL_isTick_994 (fun S4 H locs eS4 hW => ?_)
        refine lv_iinc (v := nI (j + 1)) (lv' := [(24, .int (nI (j + 1))), (0, .ref (ea E 11 0)), (1, .int (nI n)), (2, .ref (ea E 13 0)), (3, .ref (ea E 13 1)), (4, .ref (ea E 13 2)), (5, .ref (ea E 13 3)), (6, .ref (ea E 13 4)), (7, .ref (ea E 13 5)), (8, .ref (ea E 13 6)), (9, .ref (ea E 13 7)), (10, .ref (ea E 13 8)), (11, .ref (ea E 13 9)), (12, .ref (ea E 13 10)), (13, .ref (ea E 13 11)), (14, .ref (ea E 13 12)), (15, .ref (ea E 13 13)), (16, .ref (ea E 13 14)), (17, .int (nI d)), (18, .int u18), (19, .int u19), (20, .int u20), (21, .int u21), (23, .ref (ea E 13 15))]) F.1 F.2.1 dL_isTick_995 hl (k := 0) rfl (ia rfl rfl) (by decide) rfl (fun ls hl => ?_)
        refine lv_goto (tgt := 966) F.1 F.2.1 dL_isTick_998 (by decide) ?_
        subst eS4
        subst eS3
        exact ih (j + 1) _ _ _ _ (by omega) (by rw [itN_s, ← hs]; exact (rfl).symm) hW (lv_sub hl [0, 1, 2, 3, 4, 5, 6, 7, 8, 9, 10, 11, 12, 13, 14, 15, 16, 17, 18, 19, 20, 21, 22, 23] rfl)
  exact hL2 n 0 A _ _ _ (by omega) rfl hW (lv_sub hl [0, 1, 2, 3, 4, 5, 6, 7, 8, 9, 10, 11, 12, 13, 14, 15, 16, 17, 18, 19, 20, 21, 22, 23] rfl)
