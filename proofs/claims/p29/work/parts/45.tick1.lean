/-! the law: isTick, stretch by stretch -/
def q_T1_97 (B A : Sv) (n d t : Nat) (j : Nat) (σ : Sv) : Sv :=
  let S1 : Sv := σ
  let x3 : Int32 := p_X3_numberOfLine B (nI j) 5
  let S4 : Sv := us S1 0 j x3
  let v7 : Int32 := (if (S4 0 j) = 1 then (let x6 : Int32 := p_X3_numberOfLine B (nI j) 6; x6) else 0)
  let S9 : Sv := us S4 1 j v7
  let x10 : Int32 := p_X3_numberOfLine B (nI j) 8
  let S11 : Sv := us S9 3 j x10
  let x12 : Int32 := p_X3_numberOfLine B (nI j) 9
  let S13 : Sv := us S11 2 j x12
  let x14 : Int32 := p_X3_numberOfLine B (nI j) 10
  let S15 : Sv := us S13 4 j x14
  let x16 : Int32 := p_X3_numberOfLine B (nI j) 11
  let S17 : Sv := us S15 5 j x16
  let x18 : Int32 := p_X3_numberOfLine B (nI j) 12
  let S19 : Sv := us S17 6 j x18
  let x20 : Int32 := p_X3_numberOfLine B (nI j) 13
  let S21 : Sv := us S19 7 j x20
  let x22 : Int32 := p_X3_numberOfLine B (nI j) 14
  let S23 : Sv := us S21 8 j x22
  let x24 : Int32 := p_X3_numberOfLine B (nI j) 15
  let S25 : Sv := us S23 9 j x24
  let x26 : Int32 := p_X3_numberOfLine B (nI j) 16
  let S27 : Sv := us S25 10 j x26
  S27
def q_T1_271 (B A : Sv) (n d t : Nat) (k : Nat) (σ : Sv) : Sv :=
  let S5 : Sv := σ
  let x7 : Int32 := p_X3_numberOfPlace B (nI k) 0
  let S8 : Sv := us S5 11 k x7
  let x9 : Int32 := p_X3_numberOfPlace B (nI k) 1
  let S10 : Sv := us S8 12 k x9
  let x11 : Int32 := p_X3_numberOfPlace B (nI k) 2
  let S12 : Sv := us S10 13 k x11
  S12
def q_T1_354 (B A : Sv) (n d t : Nat) (k2 : Nat) (σ : Sv) : Sv :=
  let S12 : Sv := σ
  let x13 : Int32 := p_X3_numberOfAll B 2
  let x15 : Int32 := p_X3_numberOfTimer B (nI k2) 2
  let S16 : Sv := us S12 14 k2 x15
  let S35 : Sv := (if (S16 14 k2) = x8 then (let x18 : Int32 := p_X3_numberOfTimer B (nI k2) 0; (let S19 : Sv := us S16 4 (cn x18) ((S16 4 (cn x18)) + 1); (let S31 : Sv := (if (S19 0 (cn x18)) = 1 then (let S21 : Sv := us S19 5 (cn x18) ((S19 5 (cn x18)) + 1); S21) else (let x22 : Int32 := p_X3_numberOfLine B x18 4; (if x22 = 1 then (let x26 : Int32 := p_X3_numberOfAll B 17; (if x26 = 0 then (let S30 : Sv := us S19 5 (cn x18) ((S19 5 (cn x18)) + 1); S30) else (let S28 : Sv := us S19 0 (cn x18) 1; (let S29 : Sv := us S28 1 (cn x18) 0; S29)))) else (let S24 : Sv := us S19 0 (cn x18) 1; (let S25 : Sv := us S24 1 (cn x18) 0; S25))))); (let x33 : Int32 := p_X3_numberOfTimer B (nI k2) 1; (let S34 : Sv := us S31 14 k2 ((S31 14 k2) + x33); S34))))) else S16)
  S35
def g_T1 (B A : Sv) (n d t : Nat) : Sv × Int32 × Int32 × Int32 × Int32 × Int32 :=
  let S1 : Sv := (itN (q_T1_97 B A n d t) n (A))
  let x4 : Int32 := p_X3_numberOfAll B 3
  let S5 : Sv := (itN (q_T1_271 B A n d t) d (S1))
  let x8 : Int32 := p_X3_numberOfAll B 0
  let x9 : Int32 := p_X3_numberOfAll B 6
  let x10 : Int32 := p_X3_numberOfAll B 7
  let x11 : Int32 := p_X3_numberOfAll B 9
  let S12 : Sv := (itN (q_T1_354 B A n d t) t (S5))
  let x14 : Int32 := p_X3_numberOfAll B 2
  (S12, x4, x8, x9, x10, x11)
set_option maxHeartbeats 4000000 in
set_option maxRecDepth 100000 in
theorem sg_T1 {p : Program} {l : Launch} {e : Env} {s : State} {m : MethodId} {args : Array Value} {below : List Frame} {meth : Method} {c : Code} {Q : State → Prop} {E : mE} {μ : Mu} {H : Heap} {locs : List Loc} {ls : Array Slot} (F : CallFix p m c cL_isTick 27 s args TB RL) (hT : Stat E s) (B A : Sv) (n d t : Nat) (hE : nlc E = 15) (hB : μ 0 = B) (hc : Wc μ) (hn12 : n ≤ 12) (hd8 : d ≤ 8) (ht6 : t ≤ 6) (hn : p_X3_numberOfAll B 1 = nI n) (hd : p_X3_numberOfAll B 3 = nI d) (ht : p_X3_numberOfAll B 2 = nI t) (hti : ∀ q, q < t → Bn (p_X3_numberOfTimer B (nI q) 0) 11) (hW : Wd E s H locs (fo μ 13 A)) (hl : lv_has ls 27 [(0, .ref (ea E 11 0)), (1, .int (nI n)), (2, .ref (ea E 13 0)), (3, .ref (ea E 13 1)), (4, .ref (ea E 13 2)), (5, .ref (ea E 13 3)), (6, .ref (ea E 13 4)), (7, .ref (ea E 13 5)), (8, .ref (ea E 13 6)), (9, .ref (ea E 13 7)), (10, .ref (ea E 13 8)), (11, .ref (ea E 13 9)), (12, .ref (ea E 13 10)), (13, .ref (ea E 13 11)), (14, .ref (ea E 13 12)), (15, .ref (ea E 13 13)), (16, .ref (ea E 13 14))])
    (kk : ∀ (S' : Sv) (w17 : Int32) (w18 : Int32) (w19 : Int32) (w20 : Int32) (w21 : Int32) (H : Heap) (locs : List Loc) (ls : Array Slot), (S', w17, w18, w19, w20, w21) = g_T1 B A n d t → Wd E s H locs (fo μ 13 S') → lv_has ls 27 [(0, .ref (ea E 11 0)), (1, .int (nI n)), (2, .ref (ea E 13 0)), (3, .ref (ea E 13 1)), (4, .ref (ea E 13 2)), (5, .ref (ea E 13 3)), (6, .ref (ea E 13 4)), (7, .ref (ea E 13 5)), (8, .ref (ea E 13 6)), (9, .ref (ea E 13 7)), (10, .ref (ea E 13 8)), (11, .ref (ea E 13 9)), (12, .ref (ea E 13 10)), (13, .ref (ea E 13 11)), (14, .ref (ea E 13 12)), (15, .ref (ea E 13 13)), (16, .ref (ea E 13 14)), (17, .int w17), (18, .int w18), (19, .int w19), (20, .int w20), (21, .int w21)] → W p l e (rmC 6 136 16 177) s m args below meth c H locs 15 165 Q (F0 m 475 ls [])) : W p l e (rmC 6 136 16 177) s m args below meth c H locs 15 165 Q (F0 m 94 ls []) := by
  refine lv_iconst (v := 0) F.1 F.2.1 dL_isTick_94 (by decide) ?_
  refine lv_istore (lv' := [(17, .int 0), (0, .ref (ea E 11 0)), (1, .int (nI n)), (2, .ref (ea E 13 0)), (3, .ref (ea E 13 1)), (4, .ref (ea E 13 2)), (5, .ref (ea E 13 3)), (6, .ref (ea E 13 4)), (7, .ref (ea E 13 5)), (8, .ref (ea E 13 6)), (9, .ref (ea E 13 7)), (10, .ref (ea E 13 8)), (11, .ref (ea E 13 9)), (12, .ref (ea E 13 10)), (13, .ref (ea E 13 11)), (14, .ref (ea E 13 12)), (15, .ref (ea E 13 13)), (16, .ref (ea E 13 14))]) F.1 F.2.1 dL_isTick_95 hl (by decide) rfl (fun ls hl => ?_)
  have hL2 : ∀ (fu j : Nat) (S1 : Sv) (H : Heap) (locs : List Loc) (ls : Array Slot), j + fu = n → (S1) = itN (q_T1_97 B A n d t) j (A) → Wd E s H locs (fo μ 13 S1) → lv_has ls 27 [(17, .int (nI j)), (0, .ref (ea E 11 0)), (1, .int (nI n)), (2, .ref (ea E 13 0)), (3, .ref (ea E 13 1)), (4, .ref (ea E 13 2)), (5, .ref (ea E 13 3)), (6, .ref (ea E 13 4)), (7, .ref (ea E 13 5)), (8, .ref (ea E 13 6)), (9, .ref (ea E 13 7)), (10, .ref (ea E 13 8)), (11, .ref (ea E 13 9)), (12, .ref (ea E 13 10)), (13, .ref (ea E 13 11)), (14, .ref (ea E 13 12)), (15, .ref (ea E 13 13)), (16, .ref (ea E 13 14))] → W p l e (rmC 6 136 16 177) s m args below meth c H locs 15 165 Q (F0 m 97 ls []) := by
    intro fu
    induction fu with
    | zero =>
      intro j S1 H locs ls hj hs  hW hl
      obtain rfl : j = n := by omega
      have eS1 := hs
      refine lv_iload F.1 F.2.1 dL_isTick_97 (lv_at hl 0 rfl) ?_
      refine lv_iload_n F.1 F.2.1 dL_isTick_99 rfl (lv_at hl 2 rfl) ?_
      refine lv_icmp_ge (tgt := 261) F.1 F.2.1 dL_isTick_100 (by decide) (fun h3 => ?_) (fun h3 => ?_)
      · refine lv_aload_n F.1 F.2.1 dL_isTick_261 rfl (lv_at hl 1 rfl) ?_
        refine lv_iconst (v := 3) F.1 F.2.1 dL_isTick_262 (by decide) ?_
        refine jcip (jrunV (As := [.int 3]) (rest := []) F hT hW yc_X6_count yv_X6_count ml_L_14 oH0 (by decide) rfl (r_count l E (fo μ 13 S1) B (hB13 hB) (wc13 hc) 3 (by decide) (by decide)) rfl hl.1 ⟨Nat.le_of_ble_eq_true rfl, Nat.le_of_ble_eq_true rfl⟩ rfl (Nat.le_of_ble_eq_true rfl) ⟨by decide, by decide⟩ dL_isTick_263) hW (fun x4 H locs ex4 hW => ?_)
        refine lv_istore (lv' := [(17, .int x4), (0, .ref (ea E 11 0)), (1, .int (nI n)), (2, .ref (ea E 13 0)), (3, .ref (ea E 13 1)), (4, .ref (ea E 13 2)), (5, .ref (ea E 13 3)), (6, .ref (ea E 13 4)), (7, .ref (ea E 13 5)), (8, .ref (ea E 13 6)), (9, .ref (ea E 13 7)), (10, .ref (ea E 13 8)), (11, .ref (ea E 13 9)), (12, .ref (ea E 13 10)), (13, .ref (ea E 13 11)), (14, .ref (ea E 13 12)), (15, .ref (ea E 13 13)), (16, .ref (ea E 13 14))]) F.1 F.2.1 dL_isTick_266 hl (by decide) rfl (fun ls hl => ?_)
        refine lv_iconst (v := 0) F.1 F.2.1 dL_isTick_268 (by decide) ?_
        refine lv_istore (lv' := [(18, .int 0), (17, .int x4), (0, .ref (ea E 11 0)), (1, .int (nI n)), (2, .ref (ea E 13 0)), (3, .ref (ea E 13 1)), (4, .ref (ea E 13 2)), (5, .ref (ea E 13 3)), (6, .ref (ea E 13 4)), (7, .ref (ea E 13 5)), (8, .ref (ea E 13 6)), (9, .ref (ea E 13 7)), (10, .ref (ea E 13 8)), (11, .ref (ea E 13 9)), (12, .ref (ea E 13 10)), (13, .ref (ea E 13 11)), (14, .ref (ea E 13 12)), (15, .ref (ea E 13 13)), (16, .ref (ea E 13 14))]) F.1 F.2.1 dL_isTick_269 hl (by decide) rfl (fun ls hl => ?_)
        have hL6 : ∀ (fu k : Nat) (S5 : Sv) (H : Heap) (locs : List Loc) (ls : Array Slot), k + fu = d → (S5) = itN (q_T1_271 B A n d t) k (S1) → Wd E s H locs (fo μ 13 S5) → lv_has ls 27 [(18, .int (nI k)), (17, .int x4), (0, .ref (ea E 11 0)), (1, .int (nI n)), (2, .ref (ea E 13 0)), (3, .ref (ea E 13 1)), (4, .ref (ea E 13 2)), (5, .ref (ea E 13 3)), (6, .ref (ea E 13 4)), (7, .ref (ea E 13 5)), (8, .ref (ea E 13 6)), (9, .ref (ea E 13 7)), (10, .ref (ea E 13 8)), (11, .ref (ea E 13 9)), (12, .ref (ea E 13 10)), (13, .ref (ea E 13 11)), (14, .ref (ea E 13 12)), (15, .ref (ea E 13 13)), (16, .ref (ea E 13 14))] → W p l e (rmC 6 136 16 177) s m args below meth c H locs 15 165 Q (F0 m 271 ls []) := by
          intro fu
          induction fu with
          | zero =>
            intro k S5 H locs ls hj hs  hW hl
            obtain rfl : k = d := by omega
            have eS5 := hs
            refine lv_iload F.1 F.2.1 dL_isTick_271 (lv_at hl 0 rfl) ?_
            refine lv_iload F.1 F.2.1 dL_isTick_273 (lv_at hl 1 rfl) ?_
            refine lv_icmp_ge (tgt := 320) F.1 F.2.1 dL_isTick_275 (by decide) (fun h7 => ?_) (fun h7 => ?_)
            · refine lv_aload_n F.1 F.2.1 dL_isTick_320 rfl (lv_at hl 2 rfl) ?_
              refine lv_iconst (v := 0) F.1 F.2.1 dL_isTick_321 (by decide) ?_
              refine jcip (jrunV (As := [.int 0]) (rest := []) F hT hW yc_X6_count yv_X6_count ml_L_14 oH0 (by decide) rfl (r_count l E (fo μ 13 S5) B (hB13 hB) (wc13 hc) 0 (by decide) (by decide)) rfl hl.1 ⟨Nat.le_of_ble_eq_true rfl, Nat.le_of_ble_eq_true rfl⟩ rfl (Nat.le_of_ble_eq_true rfl) ⟨by decide, by decide⟩ dL_isTick_322) hW (fun x8 H locs ex8 hW => ?_)
              refine lv_istore (lv' := [(18, .int x8), (17, .int x4), (0, .ref (ea E 11 0)), (1, .int (nI n)), (2, .ref (ea E 13 0)), (3, .ref (ea E 13 1)), (4, .ref (ea E 13 2)), (5, .ref (ea E 13 3)), (6, .ref (ea E 13 4)), (7, .ref (ea E 13 5)), (8, .ref (ea E 13 6)), (9, .ref (ea E 13 7)), (10, .ref (ea E 13 8)), (11, .ref (ea E 13 9)), (12, .ref (ea E 13 10)), (13, .ref (ea E 13 11)), (14, .ref (ea E 13 12)), (15, .ref (ea E 13 13)), (16, .ref (ea E 13 14))]) F.1 F.2.1 dL_isTick_325 hl (by decide) rfl (fun ls hl => ?_)
              refine lv_aload_n F.1 F.2.1 dL_isTick_327 rfl (lv_at hl 2 rfl) ?_
              refine lv_bipush (v := 6) F.1 F.2.1 dL_isTick_328 (by decide) ?_
              refine jcip (jrunV (As := [.int 6]) (rest := []) F hT hW yc_X6_count yv_X6_count ml_L_14 oH0 (by decide) rfl (r_count l E (fo μ 13 S5) B (hB13 hB) (wc13 hc) 6 (by decide) (by decide)) rfl hl.1 ⟨Nat.le_of_ble_eq_true rfl, Nat.le_of_ble_eq_true rfl⟩ rfl (Nat.le_of_ble_eq_true rfl) ⟨by decide, by decide⟩ dL_isTick_330) hW (fun x9 H locs ex9 hW => ?_)
              refine lv_istore (lv' := [(19, .int x9), (18, .int x8), (17, .int x4), (0, .ref (ea E 11 0)), (1, .int (nI n)), (2, .ref (ea E 13 0)), (3, .ref (ea E 13 1)), (4, .ref (ea E 13 2)), (5, .ref (ea E 13 3)), (6, .ref (ea E 13 4)), (7, .ref (ea E 13 5)), (8, .ref (ea E 13 6)), (9, .ref (ea E 13 7)), (10, .ref (ea E 13 8)), (11, .ref (ea E 13 9)), (12, .ref (ea E 13 10)), (13, .ref (ea E 13 11)), (14, .ref (ea E 13 12)), (15, .ref (ea E 13 13)), (16, .ref (ea E 13 14))]) F.1 F.2.1 dL_isTick_333 hl (by decide) rfl (fun ls hl => ?_)
              refine lv_aload_n F.1 F.2.1 dL_isTick_335 rfl (lv_at hl 3 rfl) ?_
              refine lv_bipush (v := 7) F.1 F.2.1 dL_isTick_336 (by decide) ?_
              refine jcip (jrunV (As := [.int 7]) (rest := []) F hT hW yc_X6_count yv_X6_count ml_L_14 oH0 (by decide) rfl (r_count l E (fo μ 13 S5) B (hB13 hB) (wc13 hc) 7 (by decide) (by decide)) rfl hl.1 ⟨Nat.le_of_ble_eq_true rfl, Nat.le_of_ble_eq_true rfl⟩ rfl (Nat.le_of_ble_eq_true rfl) ⟨by decide, by decide⟩ dL_isTick_338) hW (fun x10 H locs ex10 hW => ?_)
              refine lv_istore (lv' := [(20, .int x10), (19, .int x9), (18, .int x8), (17, .int x4), (0, .ref (ea E 11 0)), (1, .int (nI n)), (2, .ref (ea E 13 0)), (3, .ref (ea E 13 1)), (4, .ref (ea E 13 2)), (5, .ref (ea E 13 3)), (6, .ref (ea E 13 4)), (7, .ref (ea E 13 5)), (8, .ref (ea E 13 6)), (9, .ref (ea E 13 7)), (10, .ref (ea E 13 8)), (11, .ref (ea E 13 9)), (12, .ref (ea E 13 10)), (13, .ref (ea E 13 11)), (14, .ref (ea E 13 12)), (15, .ref (ea E 13 13)), (16, .ref (ea E 13 14))]) F.1 F.2.1 dL_isTick_341 hl (by decide) rfl (fun ls hl => ?_)
              refine lv_aload_n F.1 F.2.1 dL_isTick_343 rfl (lv_at hl 4 rfl) ?_
              refine lv_bipush (v := 9) F.1 F.2.1 dL_isTick_344 (by decide) ?_
              refine jcip (jrunV (As := [.int 9]) (rest := []) F hT hW yc_X6_count yv_X6_count ml_L_14 oH0 (by decide) rfl (r_count l E (fo μ 13 S5) B (hB13 hB) (wc13 hc) 9 (by decide) (by decide)) rfl hl.1 ⟨Nat.le_of_ble_eq_true rfl, Nat.le_of_ble_eq_true rfl⟩ rfl (Nat.le_of_ble_eq_true rfl) ⟨by decide, by decide⟩ dL_isTick_346) hW (fun x11 H locs ex11 hW => ?_)
              refine lv_istore (lv' := [(21, .int x11), (20, .int x10), (19, .int x9), (18, .int x8), (17, .int x4), (0, .ref (ea E 11 0)), (1, .int (nI n)), (2, .ref (ea E 13 0)), (3, .ref (ea E 13 1)), (4, .ref (ea E 13 2)), (5, .ref (ea E 13 3)), (6, .ref (ea E 13 4)), (7, .ref (ea E 13 5)), (8, .ref (ea E 13 6)), (9, .ref (ea E 13 7)), (10, .ref (ea E 13 8)), (11, .ref (ea E 13 9)), (12, .ref (ea E 13 10)), (13, .ref (ea E 13 11)), (14, .ref (ea E 13 12)), (15, .ref (ea E 13 13)), (16, .ref (ea E 13 14))]) F.1 F.2.1 dL_isTick_349 hl (by decide) rfl (fun ls hl => ?_)
              refine lv_iconst (v := 0) F.1 F.2.1 dL_isTick_351 (by decide) ?_
              refine lv_istore (lv' := [(22, .int 0), (21, .int x11), (20, .int x10), (19, .int x9), (18, .int x8), (17, .int x4), (0, .ref (ea E 11 0)), (1, .int (nI n)), (2, .ref (ea E 13 0)), (3, .ref (ea E 13 1)), (4, .ref (ea E 13 2)), (5, .ref (ea E 13 3)), (6, .ref (ea E 13 4)), (7, .ref (ea E 13 5)), (8, .ref (ea E 13 6)), (9, .ref (ea E 13 7)), (10, .ref (ea E 13 8)), (11, .ref (ea E 13 9)), (12, .ref (ea E 13 10)), (13, .ref (ea E 13 11)), (14, .ref (ea E 13 12)), (15, .ref (ea E 13 13)), (16, .ref (ea E 13 14))]) F.1 F.2.1 dL_isTick_352 hl (by decide) rfl (fun ls hl => ?_)
              have hL13 : ∀ (fu k2 : Nat) (S12 : Sv) (H : Heap) (locs : List Loc) (ls : Array Slot), k2 + fu = t → (S12) = itN (q_T1_354 B A n d t) k2 (S5) → Wd E s H locs (fo μ 13 S12) → lv_has ls 27 [(22, .int (nI k2)), (21, .int x11), (20, .int x10), (19, .int x9), (18, .int x8), (17, .int x4), (0, .ref (ea E 11 0)), (1, .int (nI n)), (2, .ref (ea E 13 0)), (3, .ref (ea E 13 1)), (4, .ref (ea E 13 2)), (5, .ref (ea E 13 3)), (6, .ref (ea E 13 4)), (7, .ref (ea E 13 5)), (8, .ref (ea E 13 6)), (9, .ref (ea E 13 7)), (10, .ref (ea E 13 8)), (11, .ref (ea E 13 9)), (12, .ref (ea E 13 10)), (13, .ref (ea E 13 11)), (14, .ref (ea E 13 12)), (15, .ref (ea E 13 13)), (16, .ref (ea E 13 14))] → W p l e (rmC 6 136 16 177) s m args below meth c H locs 15 165 Q (F0 m 354 ls []) := by
                intro fu
                induction fu with
                | zero =>
                  intro k2 S12 H locs ls hj hs  hW hl
                  obtain rfl : k2 = t := by omega
                  have eS12 := hs
                  refine lv_iload F.1 F.2.1 dL_isTick_354 (lv_at hl 0 rfl) ?_
                  refine lv_aload_n F.1 F.2.1 dL_isTick_356 rfl (lv_at hl 6 rfl) ?_
                  refine lv_iconst (v := 2) F.1 F.2.1 dL_isTick_357 (by decide) ?_
                  refine jcip (jrunV (As := [.int 2]) (rest := [.int (nI t)]) F hT hW yc_X6_count yv_X6_count ml_L_14 oH0 (by decide) rfl (r_count l E (fo μ 13 S12) B (hB13 hB) (wc13 hc) 2 (by decide) (by decide)) rfl hl.1 ⟨Nat.le_of_ble_eq_true rfl, Nat.le_of_ble_eq_true rfl⟩ rfl (Nat.le_of_ble_eq_true rfl) ⟨by decide, by decide⟩ dL_isTick_358) hW (fun x14 H locs ex14 hW => ?_)
                  refine lv_icmp_ge (tgt := 475) F.1 F.2.1 dL_isTick_361 (by decide) (fun h15 => ?_) (fun h15 => ?_)
                  · have hq : (S12, x4, x8, x9, x10, x11) = g_T1 B A n d t := by
                      subst ex14
                      subst eS12
                      subst ex11
                      subst ex10
                      subst ex9
                      subst ex8
                      subst eS5
                      subst ex4
                      subst eS1
                      exact (rfl).symm
                    exact kk _ _ _ _ _ _ _ _ _ hq hW (lv_sub hl [6, 7, 8, 9, 10, 11, 12, 13, 14, 15, 16, 17, 18, 19, 20, 21, 22, 5, 4, 3, 2, 1] rfl)
                  · exact absurd (c_le (ex14.trans ht) rfl (by omega) (by omega)) h15
                | succ fu ih =>
                  intro k2 S12 H locs ls hj hs  hW hl
                  refine lv_iload F.1 F.2.1 dL_isTick_354 (lv_at hl 0 rfl) ?_
                  refine lv_aload_n F.1 F.2.1 dL_isTick_356 rfl (lv_at hl 6 rfl) ?_
                  refine lv_iconst (v := 2) F.1 F.2.1 dL_isTick_357 (by decide) ?_
                  refine jcip (jrunV (As := [.int 2]) (rest := [.int (nI k2)]) F hT hW yc_X6_count yv_X6_count ml_L_14 oH0 (by decide) rfl (r_count l E (fo μ 13 S12) B (hB13 hB) (wc13 hc) 2 (by decide) (by decide)) rfl hl.1 ⟨Nat.le_of_ble_eq_true rfl, Nat.le_of_ble_eq_true rfl⟩ rfl (Nat.le_of_ble_eq_true rfl) ⟨by decide, by decide⟩ dL_isTick_358) hW (fun x13 H locs ex13 hW => ?_)
                  refine lv_icmp_ge (tgt := 475) F.1 F.2.1 dL_isTick_361 (by decide) (fun h14 => ?_) (fun h14 => ?_)
                  · exact absurd h14 (c_nle (ex13.trans ht) rfl (by omega) (by omega))
                  · refine lv_aload F.1 F.2.1 dL_isTick_364 (lv_at hl 22 rfl) ?_
                    refine lv_iload F.1 F.2.1 dL_isTick_366 (lv_at hl 0 rfl) ?_
                    refine lv_aload_n F.1 F.2.1 dL_isTick_368 rfl (lv_at hl 6 rfl) ?_
                    refine lv_iload F.1 F.2.1 dL_isTick_369 (lv_at hl 0 rfl) ?_
                    refine lv_iconst (v := 2) F.1 F.2.1 dL_isTick_371 (by decide) ?_
                    refine jcip (jrunV (As := [.int (nI k2), .int 2]) (rest := [.int (nI k2), .ref (ea E 13 14)]) F hT hW yc_X6_ofTimer yv_X6_ofTimer ml_L_27 oH0 (by decide) rfl (r_ofTimer l E (fo μ 13 S12) B (hB13 hB) (wc13 hc) (nI k2) 2) rfl hl.1 ⟨Nat.le_of_ble_eq_true rfl, Nat.le_of_ble_eq_true rfl⟩ rfl (Nat.le_of_ble_eq_true rfl) ⟨by decide, by decide⟩ dL_isTick_372) hW (fun x15 H locs ex15 hW => ?_)
                    refine jiast F hT hW k2 (o13 14 (by omega)) (by decide) (by omega) (by decide) rfl rfl dL_isTick_375 (fun S16 H locs eS16 hW => ?_)
                    refine lv_aload F.1 F.2.1 dL_isTick_376 (lv_at hl 22 rfl) ?_
                    refine lv_iload F.1 F.2.1 dL_isTick_378 (lv_at hl 0 rfl) ?_
                    refine jiald F hT hW k2 (o13 14 (by omega)) (by omega) (by decide) rfl rfl dL_isTick_380 ?_
                    refine lv_iload F.1 F.2.1 dL_isTick_381 (lv_at hl 4 rfl) ?_
                    have hJ36 : ∀ (S35 : Sv) (H : Heap) (locs : List Loc) (ls : Array Slot), S35 = (if (S16 14 k2) = x8 then (let x18 : Int32 := p_X3_numberOfTimer B (nI k2) 0; (let S19 : Sv := us S16 4 (cn x18) ((S16 4 (cn x18)) + 1); (let S31 : Sv := (if (S19 0 (cn x18)) = 1 then (let S21 : Sv := us S19 5 (cn x18) ((S19 5 (cn x18)) + 1); S21) else (let x22 : Int32 := p_X3_numberOfLine B x18 4; (if x22 = 1 then (let x26 : Int32 := p_X3_numberOfAll B 17; (if x26 = 0 then (let S30 : Sv := us S19 5 (cn x18) ((S19 5 (cn x18)) + 1); S30) else (let S28 : Sv := us S19 0 (cn x18) 1; (let S29 : Sv := us S28 1 (cn x18) 0; S29)))) else (let S24 : Sv := us S19 0 (cn x18) 1; (let S25 : Sv := us S24 1 (cn x18) 0; S25))))); (let x33 : Int32 := p_X3_numberOfTimer B (nI k2) 1; (let S34 : Sv := us S31 14 k2 ((S31 14 k2) + x33); S34))))) else S16) → Wd E s H locs (fo μ 13 S35) → lv_has ls 27 [(22, .int (nI k2)), (21, .int x11), (20, .int x10), (19, .int x9), (18, .int x8), (17, .int x4), (0, .ref (ea E 11 0)), (1, .int (nI n)), (2, .ref (ea E 13 0)), (3, .ref (ea E 13 1)), (4, .ref (ea E 13 2)), (5, .ref (ea E 13 3)), (6, .ref (ea E 13 4)), (7, .ref (ea E 13 5)), (8, .ref (ea E 13 6)), (9, .ref (ea E 13 7)), (10, .ref (ea E 13 8)), (11, .ref (ea E 13 9)), (12, .ref (ea E 13 10)), (13, .ref (ea E 13 11)), (14, .ref (ea E 13 12)), (15, .ref (ea E 13 13)), (16, .ref (ea E 13 14))] → W p l e (rmC 6 136 16 177) s m args below meth c H locs 15 165 Q (F0 m 469 ls []) := by
                      intro S35 H locs ls eS35 hW hl
                      refine lv_iinc (v := nI (k2 + 1)) (lv' := [(22, .int (nI (k2 + 1))), (21, .int x11), (20, .int x10), (19, .int x9), (18, .int x8), (17, .int x4), (0, .ref (ea E 11 0)), (1, .int (nI n)), (2, .ref (ea E 13 0)), (3, .ref (ea E 13 1)), (4, .ref (ea E 13 2)), (5, .ref (ea E 13 3)), (6, .ref (ea E 13 4)), (7, .ref (ea E 13 5)), (8, .ref (ea E 13 6)), (9, .ref (ea E 13 7)), (10, .ref (ea E 13 8)), (11, .ref (ea E 13 9)), (12, .ref (ea E 13 10)), (13, .ref (ea E 13 11)), (14, .ref (ea E 13 12)), (15, .ref (ea E 13 13)), (16, .ref (ea E 13 14))]) F.1 F.2.1 dL_isTick_469 hl (k := 0) rfl (ia rfl rfl) (by decide) rfl (fun ls hl => ?_)
                      refine lv_goto (tgt := 354) F.1 F.2.1 dL_isTick_472 (by decide) ?_
                      subst eS35
                      subst eS16
                      subst ex15
                      subst ex13
                      exact ih (k2 + 1) _ _ _ _ (by omega) (by rw [itN_s, ← hs]; exact (rfl).symm) hW (lv_sub hl [0, 1, 2, 3, 4, 5, 6, 7, 8, 9, 10, 11, 12, 13, 14, 15, 16, 17, 18, 19, 20, 21, 22] rfl)
                    refine lv_icmp_ne (tgt := 469) F.1 F.2.1 dL_isTick_383 (by decide) (fun h17 => ?_) (fun h17 => ?_)
                    · exact hJ36 _ _ _ _ (if_neg h17).symm hW (lv_sub hl [0, 1, 2, 3, 4, 5, 6, 7, 8, 9, 10, 11, 12, 13, 14, 15, 16, 17, 18, 19, 20, 21, 22] rfl)
                    · refine lv_aload_n F.1 F.2.1 dL_isTick_386 rfl (lv_at hl 6 rfl) ?_
                      refine lv_iload F.1 F.2.1 dL_isTick_387 (lv_at hl 0 rfl) ?_
                      refine lv_iconst (v := 0) F.1 F.2.1 dL_isTick_389 (by decide) ?_
                      refine jcip (jrunV (As := [.int (nI k2), .int 0]) (rest := []) F hT hW yc_X6_ofTimer yv_X6_ofTimer ml_L_27 oH0 (by decide) rfl (r_ofTimer l E (fo μ 13 S16) B (hB13 hB) (wc13 hc) (nI k2) 0) rfl hl.1 ⟨Nat.le_of_ble_eq_true rfl, Nat.le_of_ble_eq_true rfl⟩ rfl (Nat.le_of_ble_eq_true rfl) ⟨by decide, by decide⟩ dL_isTick_390) hW (fun x18 H locs ex18 hW => ?_)
                      refine lv_istore (lv' := [(23, .int x18), (22, .int (nI k2)), (21, .int x11), (20, .int x10), (19, .int x9), (18, .int x8), (17, .int x4), (0, .ref (ea E 11 0)), (1, .int (nI n)), (2, .ref (ea E 13 0)), (3, .ref (ea E 13 1)), (4, .ref (ea E 13 2)), (5, .ref (ea E 13 3)), (6, .ref (ea E 13 4)), (7, .ref (ea E 13 5)), (8, .ref (ea E 13 6)), (9, .ref (ea E 13 7)), (10, .ref (ea E 13 8)), (11, .ref (ea E 13 9)), (12, .ref (ea E 13 10)), (13, .ref (ea E 13 11)), (14, .ref (ea E 13 12)), (15, .ref (ea E 13 13)), (16, .ref (ea E 13 14))]) F.1 F.2.1 dL_isTick_393 hl (by decide) rfl (fun ls hl => ?_)
                      refine lv_aload F.1 F.2.1 dL_isTick_395 (lv_at hl 13 rfl) ?_
                      refine lv_iload F.1 F.2.1 dL_isTick_397 (lv_at hl 0 rfl) ?_
                      refine lv_dup2_11 F.1 F.2.1 dL_isTick_399 rfl rfl ?_
                      refine jiald F hT hW (cn x18) (o13 4 (by omega)) (by rw [ex18]; exact Nat.lt_of_le_of_lt (hti k2 (by omega)).2 (by decide)) (by decide) (by rw [ex18]; exact (hti k2 (by omega)).1) rfl dL_isTick_400 ?_
                      refine lv_iconst (v := 1) F.1 F.2.1 dL_isTick_401 (by decide) ?_
                      refine lv_iadd F.1 F.2.1 dL_isTick_402 ?_
                      refine jiast F hT hW (cn x18) (o13 4 (by omega)) (by decide) (by rw [ex18]; exact Nat.lt_of_le_of_lt (hti k2 (by omega)).2 (by decide)) (by decide) (by rw [ex18]; exact (hti k2 (by omega)).1) rfl dL_isTick_403 (fun S19 H locs eS19 hW => ?_)
                      refine lv_aload_n F.1 F.2.1 dL_isTick_404 rfl (lv_at hl 9 rfl) ?_
                      refine lv_iload F.1 F.2.1 dL_isTick_405 (lv_at hl 0 rfl) ?_
                      refine jiald F hT hW (cn x18) (o13 0 (by omega)) (by rw [ex18]; exact Nat.lt_of_le_of_lt (hti k2 (by omega)).2 (by decide)) (by decide) (by rw [ex18]; exact (hti k2 (by omega)).1) rfl dL_isTick_407 ?_
                      refine lv_iconst (v := 1) F.1 F.2.1 dL_isTick_408 (by decide) ?_
                      have hJ32 : ∀ (S31 : Sv) (H : Heap) (locs : List Loc) (ls : Array Slot), S31 = (if (S19 0 (cn x18)) = 1 then (let S21 : Sv := us S19 5 (cn x18) ((S19 5 (cn x18)) + 1); S21) else (let x22 : Int32 := p_X3_numberOfLine B x18 4; (if x22 = 1 then (let x26 : Int32 := p_X3_numberOfAll B 17; (if x26 = 0 then (let S30 : Sv := us S19 5 (cn x18) ((S19 5 (cn x18)) + 1); S30) else (let S28 : Sv := us S19 0 (cn x18) 1; (let S29 : Sv := us S28 1 (cn x18) 0; S29)))) else (let S24 : Sv := us S19 0 (cn x18) 1; (let S25 : Sv := us S24 1 (cn x18) 0; S25))))) → Wd E s H locs (fo μ 13 S31) → lv_has ls 27 [(23, .int x18), (22, .int (nI k2)), (21, .int x11), (20, .int x10), (19, .int x9), (18, .int x8), (17, .int x4), (0, .ref (ea E 11 0)), (1, .int (nI n)), (2, .ref (ea E 13 0)), (3, .ref (ea E 13 1)), (4, .ref (ea E 13 2)), (5, .ref (ea E 13 3)), (6, .ref (ea E 13 4)), (7, .ref (ea E 13 5)), (8, .ref (ea E 13 6)), (9, .ref (ea E 13 7)), (10, .ref (ea E 13 8)), (11, .ref (ea E 13 9)), (12, .ref (ea E 13 10)), (13, .ref (ea E 13 11)), (14, .ref (ea E 13 12)), (15, .ref (ea E 13 13)), (16, .ref (ea E 13 14))] → W p l e (rmC 6 136 16 177) s m args below meth c H locs 15 165 Q (F0 m 454 ls []) := by
                        intro S31 H locs ls eS31 hW hl
                        refine lv_aload F.1 F.2.1 dL_isTick_454 (lv_at hl 23 rfl) ?_
                        refine lv_iload F.1 F.2.1 dL_isTick_456 (lv_at hl 1 rfl) ?_
                        refine lv_dup2_11 F.1 F.2.1 dL_isTick_458 rfl rfl ?_
                        refine jiald F hT hW k2 (o13 14 (by omega)) (by omega) (by decide) rfl rfl dL_isTick_459 ?_
                        refine lv_aload_n F.1 F.2.1 dL_isTick_460 rfl (lv_at hl 7 rfl) ?_
                        refine lv_iload F.1 F.2.1 dL_isTick_461 (lv_at hl 1 rfl) ?_
                        refine lv_iconst (v := 1) F.1 F.2.1 dL_isTick_463 (by decide) ?_
                        refine jcip (jrunV (As := [.int (nI k2), .int 1]) (rest := [.int (S31 14 k2), .int (nI k2), .ref (ea E 13 14)]) F hT hW yc_X6_ofTimer yv_X6_ofTimer ml_L_27 oH0 (by decide) rfl (r_ofTimer l E (fo μ 13 S31) B (hB13 hB) (wc13 hc) (nI k2) 1) rfl hl.1 ⟨Nat.le_of_ble_eq_true rfl, Nat.le_of_ble_eq_true rfl⟩ rfl (Nat.le_of_ble_eq_true rfl) ⟨by decide, by decide⟩ dL_isTick_464) hW (fun x33 H locs ex33 hW => ?_)
                        refine lv_iadd F.1 F.2.1 dL_isTick_467 ?_
                        refine jiast F hT hW k2 (o13 14 (by omega)) (by decide) (by omega) (by decide) rfl rfl dL_isTick_468 (fun S34 H locs eS34 hW => ?_)
                        subst eS34
                        subst ex33
                        subst eS31
                        subst eS19
                        subst ex18
                        exact hJ36 _ _ _ _ (if_pos h17).symm hW (lv_sub hl [1, 2, 3, 4, 5, 6, 7, 8, 9, 10, 11, 12, 13, 14, 15, 16, 17, 18, 19, 20, 21, 22, 23] rfl)
                      refine lv_icmp_eq (tgt := 432) F.1 F.2.1 dL_isTick_409 (by decide) (fun h20 => ?_) (fun h20 => ?_)
                      · refine lv_aload F.1 F.2.1 dL_isTick_432 (lv_at hl 14 rfl) ?_
                        refine lv_iload F.1 F.2.1 dL_isTick_434 (lv_at hl 0 rfl) ?_
                        refine lv_dup2_11 F.1 F.2.1 dL_isTick_436 rfl rfl ?_
                        refine jiald F hT hW (cn x18) (o13 5 (by omega)) (by rw [ex18]; exact Nat.lt_of_le_of_lt (hti k2 (by omega)).2 (by decide)) (by decide) (by rw [ex18]; exact (hti k2 (by omega)).1) rfl dL_isTick_437 ?_
                        refine lv_iconst (v := 1) F.1 F.2.1 dL_isTick_438 (by decide) ?_
                        refine lv_iadd F.1 F.2.1 dL_isTick_439 ?_
                        refine jiast F hT hW (cn x18) (o13 5 (by omega)) (by decide) (by rw [ex18]; exact Nat.lt_of_le_of_lt (hti k2 (by omega)).2 (by decide)) (by decide) (by rw [ex18]; exact (hti k2 (by omega)).1) rfl dL_isTick_440 (fun S21 H locs eS21 hW => ?_)
                        refine lv_goto (tgt := 454) F.1 F.2.1 dL_isTick_441 (by decide) ?_
                        subst eS21
                        exact hJ32 _ _ _ _ (if_pos h20).symm hW (lv_sub hl [0, 1, 2, 3, 4, 5, 6, 7, 8, 9, 10, 11, 12, 13, 14, 15, 16, 17, 18, 19, 20, 21, 22, 23] rfl)
                      · refine lv_aload_n F.1 F.2.1 dL_isTick_412 rfl (lv_at hl 7 rfl) ?_
                        refine lv_iload F.1 F.2.1 dL_isTick_413 (lv_at hl 0 rfl) ?_
                        refine lv_iconst (v := 4) F.1 F.2.1 dL_isTick_415 (by decide) ?_
                        refine jcip (jrunV (As := [.int x18, .int 4]) (rest := []) F hT hW yc_X6_ofLine yv_X6_ofLine ml_L_8 oH0 (by decide) rfl (r_ofLine l E (fo μ 13 S19) B (hB13 hB) (wc13 hc) x18 4) rfl hl.1 ⟨Nat.le_of_ble_eq_true rfl, Nat.le_of_ble_eq_true rfl⟩ rfl (Nat.le_of_ble_eq_true rfl) ⟨by decide, by decide⟩ dL_isTick_416) hW (fun x22 H locs ex22 hW => ?_)
                        refine lv_iconst (v := 1) F.1 F.2.1 dL_isTick_419 (by decide) ?_
                        refine lv_icmp_ne (tgt := 444) F.1 F.2.1 dL_isTick_420 (by decide) (fun h23 => ?_) (fun h23 => ?_)
                        · refine lv_aload_n F.1 F.2.1 dL_isTick_444 rfl (lv_at hl 9 rfl) ?_
                          refine lv_iload F.1 F.2.1 dL_isTick_445 (lv_at hl 0 rfl) ?_
                          refine lv_iconst (v := 1) F.1 F.2.1 dL_isTick_447 (by decide) ?_
                          refine jiast F hT hW (cn x18) (o13 0 (by omega)) (by decide) (by rw [ex18]; exact Nat.lt_of_le_of_lt (hti k2 (by omega)).2 (by decide)) (by decide) (by rw [ex18]; exact (hti k2 (by omega)).1) rfl dL_isTick_448 (fun S24 H locs eS24 hW => ?_)
                          refine lv_aload_n F.1 F.2.1 dL_isTick_449 rfl (lv_at hl 10 rfl) ?_
                          refine lv_iload F.1 F.2.1 dL_isTick_450 (lv_at hl 0 rfl) ?_
                          refine lv_iconst (v := 0) F.1 F.2.1 dL_isTick_452 (by decide) ?_
                          refine jiast F hT hW (cn x18) (o13 1 (by omega)) (by decide) (by rw [ex18]; exact Nat.lt_of_le_of_lt (hti k2 (by omega)).2 (by decide)) (by decide) (by rw [ex18]; exact (hti k2 (by omega)).1) rfl dL_isTick_453 (fun S25 H locs eS25 hW => ?_)
                          subst eS25
                          subst eS24
                          subst ex22
                          exact hJ32 _ _ _ _ ((if_neg h20).trans (if_neg h23)).symm hW (lv_sub hl [0, 1, 2, 3, 4, 5, 6, 7, 8, 9, 10, 11, 12, 13, 14, 15, 16, 17, 18, 19, 20, 21, 22, 23] rfl)
                        · refine lv_aload_n F.1 F.2.1 dL_isTick_423 rfl (lv_at hl 7 rfl) ?_
                          refine lv_bipush (v := 17) F.1 F.2.1 dL_isTick_424 (by decide) ?_
                          refine jcip (jrunV (As := [.int 17]) (rest := []) F hT hW yc_X6_count yv_X6_count ml_L_14 oH0 (by decide) rfl (r_count l E (fo μ 13 S19) B (hB13 hB) (wc13 hc) 17 (by decide) (by decide)) rfl hl.1 ⟨Nat.le_of_ble_eq_true rfl, Nat.le_of_ble_eq_true rfl⟩ rfl (Nat.le_of_ble_eq_true rfl) ⟨by decide, by decide⟩ dL_isTick_426) hW (fun x26 H locs ex26 hW => ?_)
                          refine lv_if_ne (tgt := 444) F.1 F.2.1 dL_isTick_429 (by decide) (fun h27 => ?_) (fun h27 => ?_)
                          · refine lv_aload_n F.1 F.2.1 dL_isTick_444 rfl (lv_at hl 9 rfl) ?_
                            refine lv_iload F.1 F.2.1 dL_isTick_445 (lv_at hl 0 rfl) ?_
                            refine lv_iconst (v := 1) F.1 F.2.1 dL_isTick_447 (by decide) ?_
                            refine jiast F hT hW (cn x18) (o13 0 (by omega)) (by decide) (by rw [ex18]; exact Nat.lt_of_le_of_lt (hti k2 (by omega)).2 (by decide)) (by decide) (by rw [ex18]; exact (hti k2 (by omega)).1) rfl dL_isTick_448 (fun S28 H locs eS28 hW => ?_)
                            refine lv_aload_n F.1 F.2.1 dL_isTick_449 rfl (lv_at hl 10 rfl) ?_
                            refine lv_iload F.1 F.2.1 dL_isTick_450 (lv_at hl 0 rfl) ?_
                            refine lv_iconst (v := 0) F.1 F.2.1 dL_isTick_452 (by decide) ?_
                            refine jiast F hT hW (cn x18) (o13 1 (by omega)) (by decide) (by rw [ex18]; exact Nat.lt_of_le_of_lt (hti k2 (by omega)).2 (by decide)) (by decide) (by rw [ex18]; exact (hti k2 (by omega)).1) rfl dL_isTick_453 (fun S29 H locs eS29 hW => ?_)
                            subst eS29
                            subst eS28
                            subst ex26
                            subst ex22
                            exact hJ32 _ _ _ _ ((if_neg h20).trans ((if_pos h23).trans (if_neg h27))).symm hW (lv_sub hl [0, 1, 2, 3, 4, 5, 6, 7, 8, 9, 10, 11, 12, 13, 14, 15, 16, 17, 18, 19, 20, 21, 22, 23] rfl)
                          · refine lv_aload F.1 F.2.1 dL_isTick_432 (lv_at hl 14 rfl) ?_
                            refine lv_iload F.1 F.2.1 dL_isTick_434 (lv_at hl 0 rfl) ?_
                            refine lv_dup2_11 F.1 F.2.1 dL_isTick_436 rfl rfl ?_
                            refine jiald F hT hW (cn x18) (o13 5 (by omega)) (by rw [ex18]; exact Nat.lt_of_le_of_lt (hti k2 (by omega)).2 (by decide)) (by decide) (by rw [ex18]; exact (hti k2 (by omega)).1) rfl dL_isTick_437 ?_
                            refine lv_iconst (v := 1) F.1 F.2.1 dL_isTick_438 (by decide) ?_
                            refine lv_iadd F.1 F.2.1 dL_isTick_439 ?_
                            refine jiast F hT hW (cn x18) (o13 5 (by omega)) (by decide) (by rw [ex18]; exact Nat.lt_of_le_of_lt (hti k2 (by omega)).2 (by decide)) (by decide) (by rw [ex18]; exact (hti k2 (by omega)).1) rfl dL_isTick_440 (fun S30 H locs eS30 hW => ?_)
                            refine lv_goto (tgt := 454) F.1 F.2.1 dL_isTick_441 (by decide) ?_
                            subst eS30
                            subst ex26
                            subst ex22
                            exact hJ32 _ _ _ _ ((if_neg h20).trans ((if_pos h23).trans (if_pos h27))).symm hW (lv_sub hl [0, 1, 2, 3, 4, 5, 6, 7, 8, 9, 10, 11, 12, 13, 14, 15, 16, 17, 18, 19, 20, 21, 22, 23] rfl)
              exact hL13 t 0 S5 _ _ _ (by omega) rfl hW (lv_sub hl [0, 1, 2, 3, 4, 5, 6, 7, 8, 9, 10, 11, 12, 13, 14, 15, 16, 17, 18, 19, 20, 21, 22] rfl)
            · exact absurd (c_le (ex4.trans hd) rfl (by omega) (by omega)) h7
          | succ fu ih =>
            intro k S5 H locs ls hj hs  hW hl
            refine lv_iload F.1 F.2.1 dL_isTick_271 (lv_at hl 0 rfl) ?_
            refine lv_iload F.1 F.2.1 dL_isTick_273 (lv_at hl 1 rfl) ?_
            refine lv_icmp_ge (tgt := 320) F.1 F.2.1 dL_isTick_275 (by decide) (fun h6 => ?_) (fun h6 => ?_)
            · exact absurd h6 (c_nle (ex4.trans hd) rfl (by omega) (by omega))
            · refine lv_aload F.1 F.2.1 dL_isTick_278 (lv_at hl 15 rfl) ?_
              refine lv_iload F.1 F.2.1 dL_isTick_280 (lv_at hl 0 rfl) ?_
              refine lv_aload_n F.1 F.2.1 dL_isTick_282 rfl (lv_at hl 2 rfl) ?_
              refine lv_iload F.1 F.2.1 dL_isTick_283 (lv_at hl 0 rfl) ?_
              refine lv_iconst (v := 0) F.1 F.2.1 dL_isTick_285 (by decide) ?_
              refine jcip (jrunV (As := [.int (nI k), .int 0]) (rest := [.int (nI k), .ref (ea E 13 11)]) F hT hW yc_X6_ofNest yv_X6_ofNest ml_L_24 oH0 (by decide) rfl (r_ofNest l E (fo μ 13 S5) B (hB13 hB) (wc13 hc) (nI k) 0) rfl hl.1 ⟨Nat.le_of_ble_eq_true rfl, Nat.le_of_ble_eq_true rfl⟩ rfl (Nat.le_of_ble_eq_true rfl) ⟨by decide, by decide⟩ dL_isTick_286) hW (fun x7 H locs ex7 hW => ?_)
              refine jiast F hT hW k (o13 11 (by omega)) (by decide) (by omega) (by decide) rfl rfl dL_isTick_289 (fun S8 H locs eS8 hW => ?_)
              refine lv_aload F.1 F.2.1 dL_isTick_290 (lv_at hl 16 rfl) ?_
              refine lv_iload F.1 F.2.1 dL_isTick_292 (lv_at hl 0 rfl) ?_
              refine lv_aload_n F.1 F.2.1 dL_isTick_294 rfl (lv_at hl 2 rfl) ?_
              refine lv_iload F.1 F.2.1 dL_isTick_295 (lv_at hl 0 rfl) ?_
              refine lv_iconst (v := 1) F.1 F.2.1 dL_isTick_297 (by decide) ?_
              refine jcip (jrunV (As := [.int (nI k), .int 1]) (rest := [.int (nI k), .ref (ea E 13 12)]) F hT hW yc_X6_ofNest yv_X6_ofNest ml_L_24 oH0 (by decide) rfl (r_ofNest l E (fo μ 13 S8) B (hB13 hB) (wc13 hc) (nI k) 1) rfl hl.1 ⟨Nat.le_of_ble_eq_true rfl, Nat.le_of_ble_eq_true rfl⟩ rfl (Nat.le_of_ble_eq_true rfl) ⟨by decide, by decide⟩ dL_isTick_298) hW (fun x9 H locs ex9 hW => ?_)
              refine jiast F hT hW k (o13 12 (by omega)) (by decide) (by omega) (by decide) rfl rfl dL_isTick_301 (fun S10 H locs eS10 hW => ?_)
              refine lv_aload F.1 F.2.1 dL_isTick_302 (lv_at hl 17 rfl) ?_
              refine lv_iload F.1 F.2.1 dL_isTick_304 (lv_at hl 0 rfl) ?_
              refine lv_aload_n F.1 F.2.1 dL_isTick_306 rfl (lv_at hl 2 rfl) ?_
              refine lv_iload F.1 F.2.1 dL_isTick_307 (lv_at hl 0 rfl) ?_
              refine lv_iconst (v := 2) F.1 F.2.1 dL_isTick_309 (by decide) ?_
              refine jcip (jrunV (As := [.int (nI k), .int 2]) (rest := [.int (nI k), .ref (ea E 13 13)]) F hT hW yc_X6_ofNest yv_X6_ofNest ml_L_24 oH0 (by decide) rfl (r_ofNest l E (fo μ 13 S10) B (hB13 hB) (wc13 hc) (nI k) 2) rfl hl.1 ⟨Nat.le_of_ble_eq_true rfl, Nat.le_of_ble_eq_true rfl⟩ rfl (Nat.le_of_ble_eq_true rfl) ⟨by decide, by decide⟩ dL_isTick_310) hW (fun x11 H locs ex11 hW => ?_)
              refine jiast F hT hW k (o13 13 (by omega)) (by decide) (by omega) (by decide) rfl rfl dL_isTick_313 (fun S12 H locs eS12 hW => ?_)
              refine lv_iinc (v := nI (k + 1)) (lv' := [(18, .int (nI (k + 1))), (17, .int x4), (0, .ref (ea E 11 0)), (1, .int (nI n)), (2, .ref (ea E 13 0)), (3, .ref (ea E 13 1)), (4, .ref (ea E 13 2)), (5, .ref (ea E 13 3)), (6, .ref (ea E 13 4)), (7, .ref (ea E 13 5)), (8, .ref (ea E 13 6)), (9, .ref (ea E 13 7)), (10, .ref (ea E 13 8)), (11, .ref (ea E 13 9)), (12, .ref (ea E 13 10)), (13, .ref (ea E 13 11)), (14, .ref (ea E 13 12)), (15, .ref (ea E 13 13)), (16, .ref (ea E 13 14))]) F.1 F.2.1 dL_isTick_314 hl (k := 0) rfl (ia rfl rfl) (by decide) rfl (fun ls hl => ?_)
              refine lv_goto (tgt := 271) F.1 F.2.1 dL_isTick_317 (by decide) ?_
              subst eS12
              subst ex11
              subst eS10
              subst ex9
              subst eS8
              subst ex7
              exact ih (k + 1) _ _ _ _ (by omega) (by rw [itN_s, ← hs]; exact (rfl).symm) hW (lv_sub hl [0, 1, 2, 3, 4, 5, 6, 7, 8, 9, 10, 11, 12, 13, 14, 15, 16, 17, 18] rfl)
        exact hL6 d 0 S1 _ _ _ (by omega) rfl hW (lv_sub hl [0, 1, 2, 3, 4, 5, 6, 7, 8, 9, 10, 11, 12, 13, 14, 15, 16, 17, 18] rfl)
      · exact absurd (c_le rfl rfl (by omega) (by omega)) h3
    | succ fu ih =>
      intro j S1 H locs ls hj hs  hW hl
      refine lv_iload F.1 F.2.1 dL_isTick_97 (lv_at hl 0 rfl) ?_
      refine lv_iload_n F.1 F.2.1 dL_isTick_99 rfl (lv_at hl 2 rfl) ?_
      refine lv_icmp_ge (tgt := 261) F.1 F.2.1 dL_isTick_100 (by decide) (fun h2 => ?_) (fun h2 => ?_)
      · exact absurd h2 (c_nle rfl rfl (by omega) (by omega))
      · refine lv_aload_n F.1 F.2.1 dL_isTick_103 rfl (lv_at hl 3 rfl) ?_
        refine lv_iload F.1 F.2.1 dL_isTick_104 (lv_at hl 0 rfl) ?_
        refine lv_aload_n F.1 F.2.1 dL_isTick_106 rfl (lv_at hl 1 rfl) ?_
        refine lv_iload F.1 F.2.1 dL_isTick_107 (lv_at hl 0 rfl) ?_
        refine lv_iconst (v := 5) F.1 F.2.1 dL_isTick_109 (by decide) ?_
        refine jcip (jrunV (As := [.int (nI j), .int 5]) (rest := [.int (nI j), .ref (ea E 13 0)]) F hT hW yc_X6_ofLine yv_X6_ofLine ml_L_8 oH0 (by decide) rfl (r_ofLine l E (fo μ 13 S1) B (hB13 hB) (wc13 hc) (nI j) 5) rfl hl.1 ⟨Nat.le_of_ble_eq_true rfl, Nat.le_of_ble_eq_true rfl⟩ rfl (Nat.le_of_ble_eq_true rfl) ⟨by decide, by decide⟩ dL_isTick_110) hW (fun x3 H locs ex3 hW => ?_)
        refine jiast F hT hW j (o13 0 (by omega)) (by decide) (by omega) (by decide) rfl rfl dL_isTick_113 (fun S4 H locs eS4 hW => ?_)
        refine lv_aload_n F.1 F.2.1 dL_isTick_114 rfl (lv_at hl 4 rfl) ?_
        refine lv_iload F.1 F.2.1 dL_isTick_115 (lv_at hl 0 rfl) ?_
        refine lv_aload_n F.1 F.2.1 dL_isTick_117 rfl (lv_at hl 3 rfl) ?_
        refine lv_iload F.1 F.2.1 dL_isTick_118 (lv_at hl 0 rfl) ?_
        refine jiald F hT hW j (o13 0 (by omega)) (by omega) (by decide) rfl rfl dL_isTick_120 ?_
        refine lv_iconst (v := 1) F.1 F.2.1 dL_isTick_121 (by decide) ?_
        have hJ8 : ∀ (v7 : Int32) (H : Heap) (locs : List Loc) (ls : Array Slot), v7 = (if (S4 0 j) = 1 then (let x6 : Int32 := p_X3_numberOfLine B (nI j) 6; x6) else 0) → Wd E s H locs (fo μ 13 S4) → lv_has ls 27 [(17, .int (nI j)), (0, .ref (ea E 11 0)), (1, .int (nI n)), (2, .ref (ea E 13 0)), (3, .ref (ea E 13 1)), (4, .ref (ea E 13 2)), (5, .ref (ea E 13 3)), (6, .ref (ea E 13 4)), (7, .ref (ea E 13 5)), (8, .ref (ea E 13 6)), (9, .ref (ea E 13 7)), (10, .ref (ea E 13 8)), (11, .ref (ea E 13 9)), (12, .ref (ea E 13 10)), (13, .ref (ea E 13 11)), (14, .ref (ea E 13 12)), (15, .ref (ea E 13 13)), (16, .ref (ea E 13 14))] → W p l e (rmC 6 136 16 177) s m args below meth c H locs 15 165 Q (F0 m 137 ls [.int v7, .int (nI j), .ref (ea E 13 1)]) := by
          intro v7 H locs ls ev7 hW hl
          refine jiast F hT hW j (o13 1 (by omega)) (by decide) (by omega) (by decide) rfl rfl dL_isTick_137 (fun S9 H locs eS9 hW => ?_)
          refine lv_aload F.1 F.2.1 dL_isTick_138 (lv_at hl 6 rfl) ?_
          refine lv_iload F.1 F.2.1 dL_isTick_140 (lv_at hl 0 rfl) ?_
          refine lv_aload_n F.1 F.2.1 dL_isTick_142 rfl (lv_at hl 1 rfl) ?_
          refine lv_iload F.1 F.2.1 dL_isTick_143 (lv_at hl 0 rfl) ?_
          refine lv_bipush (v := 8) F.1 F.2.1 dL_isTick_145 (by decide) ?_
          refine jcip (jrunV (As := [.int (nI j), .int 8]) (rest := [.int (nI j), .ref (ea E 13 3)]) F hT hW yc_X6_ofLine yv_X6_ofLine ml_L_8 oH0 (by decide) rfl (r_ofLine l E (fo μ 13 S9) B (hB13 hB) (wc13 hc) (nI j) 8) rfl hl.1 ⟨Nat.le_of_ble_eq_true rfl, Nat.le_of_ble_eq_true rfl⟩ rfl (Nat.le_of_ble_eq_true rfl) ⟨by decide, by decide⟩ dL_isTick_147) hW (fun x10 H locs ex10 hW => ?_)
          refine jiast F hT hW j (o13 3 (by omega)) (by decide) (by omega) (by decide) rfl rfl dL_isTick_150 (fun S11 H locs eS11 hW => ?_)
          refine lv_aload F.1 F.2.1 dL_isTick_151 (lv_at hl 5 rfl) ?_
          refine lv_iload F.1 F.2.1 dL_isTick_153 (lv_at hl 0 rfl) ?_
          refine lv_aload_n F.1 F.2.1 dL_isTick_155 rfl (lv_at hl 1 rfl) ?_
          refine lv_iload F.1 F.2.1 dL_isTick_156 (lv_at hl 0 rfl) ?_
          refine lv_bipush (v := 9) F.1 F.2.1 dL_isTick_158 (by decide) ?_
          refine jcip (jrunV (As := [.int (nI j), .int 9]) (rest := [.int (nI j), .ref (ea E 13 2)]) F hT hW yc_X6_ofLine yv_X6_ofLine ml_L_8 oH0 (by decide) rfl (r_ofLine l E (fo μ 13 S11) B (hB13 hB) (wc13 hc) (nI j) 9) rfl hl.1 ⟨Nat.le_of_ble_eq_true rfl, Nat.le_of_ble_eq_true rfl⟩ rfl (Nat.le_of_ble_eq_true rfl) ⟨by decide, by decide⟩ dL_isTick_160) hW (fun x12 H locs ex12 hW => ?_)
          refine jiast F hT hW j (o13 2 (by omega)) (by decide) (by omega) (by decide) rfl rfl dL_isTick_163 (fun S13 H locs eS13 hW => ?_)
          refine lv_aload F.1 F.2.1 dL_isTick_164 (lv_at hl 7 rfl) ?_
          refine lv_iload F.1 F.2.1 dL_isTick_166 (lv_at hl 0 rfl) ?_
          refine lv_aload_n F.1 F.2.1 dL_isTick_168 rfl (lv_at hl 1 rfl) ?_
          refine lv_iload F.1 F.2.1 dL_isTick_169 (lv_at hl 0 rfl) ?_
          refine lv_bipush (v := 10) F.1 F.2.1 dL_isTick_171 (by decide) ?_
          refine jcip (jrunV (As := [.int (nI j), .int 10]) (rest := [.int (nI j), .ref (ea E 13 4)]) F hT hW yc_X6_ofLine yv_X6_ofLine ml_L_8 oH0 (by decide) rfl (r_ofLine l E (fo μ 13 S13) B (hB13 hB) (wc13 hc) (nI j) 10) rfl hl.1 ⟨Nat.le_of_ble_eq_true rfl, Nat.le_of_ble_eq_true rfl⟩ rfl (Nat.le_of_ble_eq_true rfl) ⟨by decide, by decide⟩ dL_isTick_173) hW (fun x14 H locs ex14 hW => ?_)
          refine jiast F hT hW j (o13 4 (by omega)) (by decide) (by omega) (by decide) rfl rfl dL_isTick_176 (fun S15 H locs eS15 hW => ?_)
          refine lv_aload F.1 F.2.1 dL_isTick_177 (lv_at hl 8 rfl) ?_
          refine lv_iload F.1 F.2.1 dL_isTick_179 (lv_at hl 0 rfl) ?_
          refine lv_aload_n F.1 F.2.1 dL_isTick_181 rfl (lv_at hl 1 rfl) ?_
          refine lv_iload F.1 F.2.1 dL_isTick_182 (lv_at hl 0 rfl) ?_
          refine lv_bipush (v := 11) F.1 F.2.1 dL_isTick_184 (by decide) ?_
          refine jcip (jrunV (As := [.int (nI j), .int 11]) (rest := [.int (nI j), .ref (ea E 13 5)]) F hT hW yc_X6_ofLine yv_X6_ofLine ml_L_8 oH0 (by decide) rfl (r_ofLine l E (fo μ 13 S15) B (hB13 hB) (wc13 hc) (nI j) 11) rfl hl.1 ⟨Nat.le_of_ble_eq_true rfl, Nat.le_of_ble_eq_true rfl⟩ rfl (Nat.le_of_ble_eq_true rfl) ⟨by decide, by decide⟩ dL_isTick_186) hW (fun x16 H locs ex16 hW => ?_)
          refine jiast F hT hW j (o13 5 (by omega)) (by decide) (by omega) (by decide) rfl rfl dL_isTick_189 (fun S17 H locs eS17 hW => ?_)
          refine lv_aload F.1 F.2.1 dL_isTick_190 (lv_at hl 9 rfl) ?_
          refine lv_iload F.1 F.2.1 dL_isTick_192 (lv_at hl 0 rfl) ?_
          refine lv_aload_n F.1 F.2.1 dL_isTick_194 rfl (lv_at hl 1 rfl) ?_
          refine lv_iload F.1 F.2.1 dL_isTick_195 (lv_at hl 0 rfl) ?_
          refine lv_bipush (v := 12) F.1 F.2.1 dL_isTick_197 (by decide) ?_
          refine jcip (jrunV (As := [.int (nI j), .int 12]) (rest := [.int (nI j), .ref (ea E 13 6)]) F hT hW yc_X6_ofLine yv_X6_ofLine ml_L_8 oH0 (by decide) rfl (r_ofLine l E (fo μ 13 S17) B (hB13 hB) (wc13 hc) (nI j) 12) rfl hl.1 ⟨Nat.le_of_ble_eq_true rfl, Nat.le_of_ble_eq_true rfl⟩ rfl (Nat.le_of_ble_eq_true rfl) ⟨by decide, by decide⟩ dL_isTick_199) hW (fun x18 H locs ex18 hW => ?_)
          refine jiast F hT hW j (o13 6 (by omega)) (by decide) (by omega) (by decide) rfl rfl dL_isTick_202 (fun S19 H locs eS19 hW => ?_)
          refine lv_aload F.1 F.2.1 dL_isTick_203 (lv_at hl 10 rfl) ?_
          refine lv_iload F.1 F.2.1 dL_isTick_205 (lv_at hl 0 rfl) ?_
          refine lv_aload_n F.1 F.2.1 dL_isTick_207 rfl (lv_at hl 1 rfl) ?_
          refine lv_iload F.1 F.2.1 dL_isTick_208 (lv_at hl 0 rfl) ?_
          refine lv_bipush (v := 13) F.1 F.2.1 dL_isTick_210 (by decide) ?_
          refine jcip (jrunV (As := [.int (nI j), .int 13]) (rest := [.int (nI j), .ref (ea E 13 7)]) F hT hW yc_X6_ofLine yv_X6_ofLine ml_L_8 oH0 (by decide) rfl (r_ofLine l E (fo μ 13 S19) B (hB13 hB) (wc13 hc) (nI j) 13) rfl hl.1 ⟨Nat.le_of_ble_eq_true rfl, Nat.le_of_ble_eq_true rfl⟩ rfl (Nat.le_of_ble_eq_true rfl) ⟨by decide, by decide⟩ dL_isTick_212) hW (fun x20 H locs ex20 hW => ?_)
          refine jiast F hT hW j (o13 7 (by omega)) (by decide) (by omega) (by decide) rfl rfl dL_isTick_215 (fun S21 H locs eS21 hW => ?_)
          refine lv_aload F.1 F.2.1 dL_isTick_216 (lv_at hl 11 rfl) ?_
          refine lv_iload F.1 F.2.1 dL_isTick_218 (lv_at hl 0 rfl) ?_
          refine lv_aload_n F.1 F.2.1 dL_isTick_220 rfl (lv_at hl 1 rfl) ?_
          refine lv_iload F.1 F.2.1 dL_isTick_221 (lv_at hl 0 rfl) ?_
          refine lv_bipush (v := 14) F.1 F.2.1 dL_isTick_223 (by decide) ?_
          refine jcip (jrunV (As := [.int (nI j), .int 14]) (rest := [.int (nI j), .ref (ea E 13 8)]) F hT hW yc_X6_ofLine yv_X6_ofLine ml_L_8 oH0 (by decide) rfl (r_ofLine l E (fo μ 13 S21) B (hB13 hB) (wc13 hc) (nI j) 14) rfl hl.1 ⟨Nat.le_of_ble_eq_true rfl, Nat.le_of_ble_eq_true rfl⟩ rfl (Nat.le_of_ble_eq_true rfl) ⟨by decide, by decide⟩ dL_isTick_225) hW (fun x22 H locs ex22 hW => ?_)
          refine jiast F hT hW j (o13 8 (by omega)) (by decide) (by omega) (by decide) rfl rfl dL_isTick_228 (fun S23 H locs eS23 hW => ?_)
          refine lv_aload F.1 F.2.1 dL_isTick_229 (lv_at hl 12 rfl) ?_
          refine lv_iload F.1 F.2.1 dL_isTick_231 (lv_at hl 0 rfl) ?_
          refine lv_aload_n F.1 F.2.1 dL_isTick_233 rfl (lv_at hl 1 rfl) ?_
          refine lv_iload F.1 F.2.1 dL_isTick_234 (lv_at hl 0 rfl) ?_
          refine lv_bipush (v := 15) F.1 F.2.1 dL_isTick_236 (by decide) ?_
          refine jcip (jrunV (As := [.int (nI j), .int 15]) (rest := [.int (nI j), .ref (ea E 13 9)]) F hT hW yc_X6_ofLine yv_X6_ofLine ml_L_8 oH0 (by decide) rfl (r_ofLine l E (fo μ 13 S23) B (hB13 hB) (wc13 hc) (nI j) 15) rfl hl.1 ⟨Nat.le_of_ble_eq_true rfl, Nat.le_of_ble_eq_true rfl⟩ rfl (Nat.le_of_ble_eq_true rfl) ⟨by decide, by decide⟩ dL_isTick_238) hW (fun x24 H locs ex24 hW => ?_)
          refine jiast F hT hW j (o13 9 (by omega)) (by decide) (by omega) (by decide) rfl rfl dL_isTick_241 (fun S25 H locs eS25 hW => ?_)
          refine lv_aload F.1 F.2.1 dL_isTick_242 (lv_at hl 13 rfl) ?_
          refine lv_iload F.1 F.2.1 dL_isTick_244 (lv_at hl 0 rfl) ?_
          refine lv_aload_n F.1 F.2.1 dL_isTick_246 rfl (lv_at hl 1 rfl) ?_
          refine lv_iload F.1 F.2.1 dL_isTick_247 (lv_at hl 0 rfl) ?_
          refine lv_bipush (v := 16) F.1 F.2.1 dL_isTick_249 (by decide) ?_
          refine jcip (jrunV (As := [.int (nI j), .int 16]) (rest := [.int (nI j), .ref (ea E 13 10)]) F hT hW yc_X6_ofLine yv_X6_ofLine ml_L_8 oH0 (by decide) rfl (r_ofLine l E (fo μ 13 S25) B (hB13 hB) (wc13 hc) (nI j) 16) rfl hl.1 ⟨Nat.le_of_ble_eq_true rfl, Nat.le_of_ble_eq_true rfl⟩ rfl (Nat.le_of_ble_eq_true rfl) ⟨by decide, by decide⟩ dL_isTick_251) hW (fun x26 H locs ex26 hW => ?_)
          refine jiast F hT hW j (o13 10 (by omega)) (by decide) (by omega) (by decide) rfl rfl dL_isTick_254 (fun S27 H locs eS27 hW => ?_)
          refine lv_iinc (v := nI (j + 1)) (lv' := [(17, .int (nI (j + 1))), (0, .ref (ea E 11 0)), (1, .int (nI n)), (2, .ref (ea E 13 0)), (3, .ref (ea E 13 1)), (4, .ref (ea E 13 2)), (5, .ref (ea E 13 3)), (6, .ref (ea E 13 4)), (7, .ref (ea E 13 5)), (8, .ref (ea E 13 6)), (9, .ref (ea E 13 7)), (10, .ref (ea E 13 8)), (11, .ref (ea E 13 9)), (12, .ref (ea E 13 10)), (13, .ref (ea E 13 11)), (14, .ref (ea E 13 12)), (15, .ref (ea E 13 13)), (16, .ref (ea E 13 14))]) F.1 F.2.1 dL_isTick_255 hl (k := 0) rfl (ia rfl rfl) (by decide) rfl (fun ls hl => ?_)
          refine lv_goto (tgt := 97) F.1 F.2.1 dL_isTick_258 (by decide) ?_
          subst eS27
          subst ex26
          subst eS25
          subst ex24
          subst eS23
          subst ex22
          subst eS21
          subst ex20
          subst eS19
          subst ex18
          subst eS17
          subst ex16
          subst eS15
          subst ex14
          subst eS13
          subst ex12
          subst eS11
          subst ex10
          subst eS9
          subst ev7
          subst eS4
          subst ex3
          exact ih (j + 1) _ _ _ _ (by omega) (by rw [itN_s, ← hs]; exact (rfl).symm) hW (lv_sub hl [0, 1, 2, 3, 4, 5, 6, 7, 8, 9, 10, 11, 12, 13, 14, 15, 16, 17] rfl)
        refine lv_icmp_ne (tgt := 136) F.1 F.2.1 dL_isTick_122 (by decide) (fun h5 => ?_) (fun h5 => ?_)
        · refine lv_iconst (v := 0) F.1 F.2.1 dL_isTick_136 (by decide) ?_
          exact hJ8 _ _ _ _ (if_neg h5).symm hW (lv_sub hl [0, 1, 2, 3, 4, 5, 6, 7, 8, 9, 10, 11, 12, 13, 14, 15, 16, 17] rfl)
        · refine lv_aload_n F.1 F.2.1 dL_isTick_125 rfl (lv_at hl 1 rfl) ?_
          refine lv_iload F.1 F.2.1 dL_isTick_126 (lv_at hl 0 rfl) ?_
          refine lv_bipush (v := 6) F.1 F.2.1 dL_isTick_128 (by decide) ?_
          refine jcip (jrunV (As := [.int (nI j), .int 6]) (rest := [.int (nI j), .ref (ea E 13 1)]) F hT hW yc_X6_ofLine yv_X6_ofLine ml_L_8 oH0 (by decide) rfl (r_ofLine l E (fo μ 13 S4) B (hB13 hB) (wc13 hc) (nI j) 6) rfl hl.1 ⟨Nat.le_of_ble_eq_true rfl, Nat.le_of_ble_eq_true rfl⟩ rfl (Nat.le_of_ble_eq_true rfl) ⟨by decide, by decide⟩ dL_isTick_130) hW (fun x6 H locs ex6 hW => ?_)
          refine lv_goto (tgt := 137) F.1 F.2.1 dL_isTick_133 (by decide) ?_
          subst ex6
          exact hJ8 _ _ _ _ (if_pos h5).symm hW (lv_sub hl [0, 1, 2, 3, 4, 5, 6, 7, 8, 9, 10, 11, 12, 13, 14, 15, 16, 17] rfl)
  exact hL2 n 0 A _ _ _ (by omega) rfl hW (lv_sub hl [0, 1, 2, 3, 4, 5, 6, 7, 8, 9, 10, 11, 12, 13, 14, 15, 16, 17] rfl)
def q_T2_481 (B A : Sv) (n : Nat) (j : Nat) (σ : Int32) : Int32 :=
  let v1 : Int32 := σ
  let x3 : Int32 := p_L_present B (nI j) (A 0 j) (A 1 j)
  let v19 : Int32 := (if (A 0 j) = 1 then (if 0 ≤ (A 3 j) then v1 else (let x6 : Int32 := p_X3_numberOfLine B (nI j) 4; (if x6 = 0 then (let x8 : Int32 := p_X3_numberOfAll B 18; (if x3 < x8 then v1 else (let v12 : Int32 := (if 0 ≤ v1 then (let x11 : Int32 := p_L_present B v1 1 (A 1 (cn v1)); x11) else (-1)); (let v17 : Int32 := (if v12 < x3 then nI j else (if x3 = v12 then (if (A 1 j) ≤ (A 1 (cn v1)) then v1 else nI j) else v1)); v17)))) else v1))) else v1)
  v19
def g_T2 (B A : Sv) (n : Nat) : Int32 :=
  let v1 : Int32 := (itN (q_T2_481 B A n) n ((-1)))
  v1
set_option maxHeartbeats 4000000 in
set_option maxRecDepth 100000 in
theorem sg_T2 {p : Program} {l : Launch} {e : Env} {s : State} {m : MethodId} {args : Array Value} {below : List Frame} {meth : Method} {c : Code} {Q : State → Prop} {E : mE} {μ : Mu} {H : Heap} {locs : List Loc} {ls : Array Slot} (F : CallFix p m c cL_isTick 27 s args TB RL) (hT : Stat E s) (B A : Sv) (n : Nat) (hE : nlc E = 15) (hB : μ 0 = B) (hc : Wc μ) (hn12 : n ≤ 12) (hpr : ∀ j, j < n → 0 ≤ p_L_present B (nI j) (A 0 j) (A 1 j)) (hW : Wd E s H locs (fo μ 13 A)) (hl : lv_has ls 27 [(0, .ref (ea E 11 0)), (1, .int (nI n)), (2, .ref (ea E 13 0)), (3, .ref (ea E 13 1)), (4, .ref (ea E 13 2)), (5, .ref (ea E 13 3)), (6, .ref (ea E 13 4)), (7, .ref (ea E 13 5)), (8, .ref (ea E 13 6)), (9, .ref (ea E 13 7)), (10, .ref (ea E 13 8)), (11, .ref (ea E 13 9)), (12, .ref (ea E 13 10)), (13, .ref (ea E 13 11)), (14, .ref (ea E 13 12)), (15, .ref (ea E 13 13)), (16, .ref (ea E 13 14)), (17, .int v17), (18, .int v18), (19, .int v19), (20, .int v20), (21, .int v21)])
    (kk : ∀ (w22 : Int32) (H : Heap) (locs : List Loc) (ls : Array Slot), w22 = g_T2 B A n → Wd E s H locs (fo μ 13 A) → lv_has ls 27 [(0, .ref (ea E 11 0)), (1, .int (nI n)), (2, .ref (ea E 13 0)), (3, .ref (ea E 13 1)), (4, .ref (ea E 13 2)), (5, .ref (ea E 13 3)), (6, .ref (ea E 13 4)), (7, .ref (ea E 13 5)), (8, .ref (ea E 13 6)), (9, .ref (ea E 13 7)), (10, .ref (ea E 13 8)), (11, .ref (ea E 13 9)), (12, .ref (ea E 13 10)), (13, .ref (ea E 13 11)), (14, .ref (ea E 13 12)), (15, .ref (ea E 13 13)), (16, .ref (ea E 13 14)), (17, .int v17), (18, .int v18), (19, .int v19), (20, .int v20), (21, .int v21), (22, .int w22)] → W p l e (rmC 6 136 16 177) s m args below meth c H locs 15 165 Q (F0 m 602 ls [])) : W p l e (rmC 6 136 16 177) s m args below meth c H locs 15 165 Q (F0 m 475 ls []) := by
  refine lv_iconst (v := (-1)) F.1 F.2.1 dL_isTick_475 (by decide) ?_
  refine lv_istore (lv' := [(22, .int (-1)), (0, .ref (ea E 11 0)), (1, .int (nI n)), (2, .ref (ea E 13 0)), (3, .ref (ea E 13 1)), (4, .ref (ea E 13 2)), (5, .ref (ea E 13 3)), (6, .ref (ea E 13 4)), (7, .ref (ea E 13 5)), (8, .ref (ea E 13 6)), (9, .ref (ea E 13 7)), (10, .ref (ea E 13 8)), (11, .ref (ea E 13 9)), (12, .ref (ea E 13 10)), (13, .ref (ea E 13 11)), (14, .ref (ea E 13 12)), (15, .ref (ea E 13 13)), (16, .ref (ea E 13 14)), (17, .int v17), (18, .int v18), (19, .int v19), (20, .int v20), (21, .int v21)]) F.1 F.2.1 dL_isTick_476 hl (by decide) rfl (fun ls hl => ?_)
  refine lv_iconst (v := 0) F.1 F.2.1 dL_isTick_478 (by decide) ?_
  refine lv_istore (lv' := [(23, .int 0), (22, .int (-1)), (0, .ref (ea E 11 0)), (1, .int (nI n)), (2, .ref (ea E 13 0)), (3, .ref (ea E 13 1)), (4, .ref (ea E 13 2)), (5, .ref (ea E 13 3)), (6, .ref (ea E 13 4)), (7, .ref (ea E 13 5)), (8, .ref (ea E 13 6)), (9, .ref (ea E 13 7)), (10, .ref (ea E 13 8)), (11, .ref (ea E 13 9)), (12, .ref (ea E 13 10)), (13, .ref (ea E 13 11)), (14, .ref (ea E 13 12)), (15, .ref (ea E 13 13)), (16, .ref (ea E 13 14)), (17, .int v17), (18, .int v18), (19, .int v19), (20, .int v20), (21, .int v21)]) F.1 F.2.1 dL_isTick_479 hl (by decide) rfl (fun ls hl => ?_)
  have hL2 : ∀ (fu j : Nat) (v1 : Int32) (H : Heap) (locs : List Loc) (ls : Array Slot), j + fu = n → (v1) = itN (q_T2_481 B A n) j ((-1)) → v1 = (-1) ∨ Bn v1 11 → Wd E s H locs (fo μ 13 A) → lv_has ls 27 [(23, .int (nI j)), (22, .int v1), (0, .ref (ea E 11 0)), (1, .int (nI n)), (2, .ref (ea E 13 0)), (3, .ref (ea E 13 1)), (4, .ref (ea E 13 2)), (5, .ref (ea E 13 3)), (6, .ref (ea E 13 4)), (7, .ref (ea E 13 5)), (8, .ref (ea E 13 6)), (9, .ref (ea E 13 7)), (10, .ref (ea E 13 8)), (11, .ref (ea E 13 9)), (12, .ref (ea E 13 10)), (13, .ref (ea E 13 11)), (14, .ref (ea E 13 12)), (15, .ref (ea E 13 13)), (16, .ref (ea E 13 14)), (17, .int v17), (18, .int v18), (19, .int v19), (20, .int v20), (21, .int v21)] → W p l e (rmC 6 136 16 177) s m args below meth c H locs 15 165 Q (F0 m 481 ls []) := by
    intro fu
    induction fu with
    | zero =>
      intro j v1 H locs ls hj hs hb hW hl
      obtain rfl : j = n := by omega
      have ev1 := hs
      refine lv_iload F.1 F.2.1 dL_isTick_481 (lv_at hl 0 rfl) ?_
      refine lv_iload_n F.1 F.2.1 dL_isTick_483 rfl (lv_at hl 3 rfl) ?_
      refine lv_icmp_ge (tgt := 602) F.1 F.2.1 dL_isTick_484 (by decide) (fun h3 => ?_) (fun h3 => ?_)
      · have hq : v1 = g_T2 B A n := by
          subst ev1
          exact (rfl).symm
        exact kk _ _ _ _ hq hW (lv_sub hl [2, 3, 4, 5, 6, 7, 8, 9, 10, 11, 12, 13, 14, 15, 16, 17, 18, 19, 20, 21, 22, 23, 1] rfl)
      · exact absurd (c_le rfl rfl (by omega) (by omega)) h3
    | succ fu ih =>
      intro j v1 H locs ls hj hs hb hW hl
      refine lv_iload F.1 F.2.1 dL_isTick_481 (lv_at hl 0 rfl) ?_
      refine lv_iload_n F.1 F.2.1 dL_isTick_483 rfl (lv_at hl 3 rfl) ?_
      refine lv_icmp_ge (tgt := 602) F.1 F.2.1 dL_isTick_484 (by decide) (fun h2 => ?_) (fun h2 => ?_)
      · exact absurd h2 (c_nle rfl rfl (by omega) (by omega))
      · refine lv_aload_n F.1 F.2.1 dL_isTick_487 rfl (lv_at hl 2 rfl) ?_
        refine lv_iload F.1 F.2.1 dL_isTick_488 (lv_at hl 0 rfl) ?_
        refine lv_aload_n F.1 F.2.1 dL_isTick_490 rfl (lv_at hl 4 rfl) ?_
        refine lv_iload F.1 F.2.1 dL_isTick_491 (lv_at hl 0 rfl) ?_
        refine jiald F hT hW j (o13 0 (by omega)) (by omega) (by decide) rfl rfl dL_isTick_493 ?_
        refine lv_aload_n F.1 F.2.1 dL_isTick_494 rfl (lv_at hl 5 rfl) ?_
        refine lv_iload F.1 F.2.1 dL_isTick_495 (lv_at hl 0 rfl) ?_
        refine jiald F hT hW j (o13 1 (by omega)) (by omega) (by decide) rfl rfl dL_isTick_497 ?_
        refine jcip (jrunS (As := [.ref (ea E 11 0), .int (nI j), .int (A 0 j), .int (A 1 j)]) (rest := []) F hT hW yc_L_present ys_L_present ml_L_18 (r_present l E (fo μ 13 A) B (hB13 hB) (wc13 hc) (nI j) (A 0 j) (A 1 j)) rfl hl.1 ⟨Nat.le_of_ble_eq_true rfl, Nat.le_of_ble_eq_true rfl⟩ rfl (Nat.le_of_ble_eq_true rfl) ⟨by decide, by decide⟩ dL_isTick_498) hW (fun x3 H locs ex3 hW => ?_)
        refine lv_istore (lv' := [(24, .int x3), (23, .int (nI j)), (22, .int v1), (0, .ref (ea E 11 0)), (1, .int (nI n)), (2, .ref (ea E 13 0)), (3, .ref (ea E 13 1)), (4, .ref (ea E 13 2)), (5, .ref (ea E 13 3)), (6, .ref (ea E 13 4)), (7, .ref (ea E 13 5)), (8, .ref (ea E 13 6)), (9, .ref (ea E 13 7)), (10, .ref (ea E 13 8)), (11, .ref (ea E 13 9)), (12, .ref (ea E 13 10)), (13, .ref (ea E 13 11)), (14, .ref (ea E 13 12)), (15, .ref (ea E 13 13)), (16, .ref (ea E 13 14)), (17, .int v17), (18, .int v18), (19, .int v19), (20, .int v20), (21, .int v21)]) F.1 F.2.1 dL_isTick_501 hl (by decide) rfl (fun ls hl => ?_)
        refine lv_aload_n F.1 F.2.1 dL_isTick_503 rfl (lv_at hl 5 rfl) ?_
        refine lv_iload F.1 F.2.1 dL_isTick_504 (lv_at hl 1 rfl) ?_
        refine jiald F hT hW j (o13 0 (by omega)) (by omega) (by decide) rfl rfl dL_isTick_506 ?_
        refine lv_iconst (v := 1) F.1 F.2.1 dL_isTick_507 (by decide) ?_
        have hJ20 : ∀ (v19 : Int32) (H : Heap) (locs : List Loc) (ls : Array Slot), v19 = (if (A 0 j) = 1 then (if 0 ≤ (A 3 j) then v1 else (let x6 : Int32 := p_X3_numberOfLine B (nI j) 4; (if x6 = 0 then (let x8 : Int32 := p_X3_numberOfAll B 18; (if x3 < x8 then v1 else (let v12 : Int32 := (if 0 ≤ v1 then (let x11 : Int32 := p_L_present B v1 1 (A 1 (cn v1)); x11) else (-1)); (let v17 : Int32 := (if v12 < x3 then nI j else (if x3 = v12 then (if (A 1 j) ≤ (A 1 (cn v1)) then v1 else nI j) else v1)); v17)))) else v1))) else v1) → Wd E s H locs (fo μ 13 A) → lv_has ls 27 [(24, .int x3), (23, .int (nI j)), (22, .int v19), (0, .ref (ea E 11 0)), (1, .int (nI n)), (2, .ref (ea E 13 0)), (3, .ref (ea E 13 1)), (4, .ref (ea E 13 2)), (5, .ref (ea E 13 3)), (6, .ref (ea E 13 4)), (7, .ref (ea E 13 5)), (8, .ref (ea E 13 6)), (9, .ref (ea E 13 7)), (10, .ref (ea E 13 8)), (11, .ref (ea E 13 9)), (12, .ref (ea E 13 10)), (13, .ref (ea E 13 11)), (14, .ref (ea E 13 12)), (15, .ref (ea E 13 13)), (16, .ref (ea E 13 14)), (17, .int v17), (18, .int v18), (19, .int v19), (20, .int v20), (21, .int v21)] → W p l e (rmC 6 136 16 177) s m args below meth c H locs 15 165 Q (F0 m 596 ls []) := by
          intro v19 H locs ls ev19 hW hl
          refine lv_iinc (v := nI (j + 1)) (lv' := [(23, .int (nI (j + 1))), (24, .int x3), (22, .int v19), (0, .ref (ea E 11 0)), (1, .int (nI n)), (2, .ref (ea E 13 0)), (3, .ref (ea E 13 1)), (4, .ref (ea E 13 2)), (5, .ref (ea E 13 3)), (6, .ref (ea E 13 4)), (7, .ref (ea E 13 5)), (8, .ref (ea E 13 6)), (9, .ref (ea E 13 7)), (10, .ref (ea E 13 8)), (11, .ref (ea E 13 9)), (12, .ref (ea E 13 10)), (13, .ref (ea E 13 11)), (14, .ref (ea E 13 12)), (15, .ref (ea E 13 13)), (16, .ref (ea E 13 14)), (17, .int v17), (18, .int v18), (19, .int v19), (20, .int v20), (21, .int v21)]) F.1 F.2.1 dL_isTick_596 hl (k := 1) rfl (ia rfl rfl) (by decide) rfl (fun ls hl => ?_)
          refine lv_goto (tgt := 481) F.1 F.2.1 dL_isTick_599 (by decide) ?_
          subst ev19
          subst ex3
          exact ih (j + 1) _ _ _ _ (by omega) (by rw [itN_s, ← hs]; exact (rfl).symm) (by repeat' (first | exact hb | exact Or.inr (bnI (by omega) (by omega)) | refine iteP (P := fun z => z = (-1) ∨ Bn z 11) ?_ ?_)) hW (lv_sub hl [0, 2, 3, 4, 5, 6, 7, 8, 9, 10, 11, 12, 13, 14, 15, 16, 17, 18, 19, 20, 21, 22, 23, 24] rfl)
        refine lv_icmp_ne (tgt := 596) F.1 F.2.1 dL_isTick_508 (by decide) (fun h4 => ?_) (fun h4 => ?_)
        · exact hJ20 _ _ _ _ (if_neg h4).symm hW (lv_sub hl [0, 1, 2, 3, 4, 5, 6, 7, 8, 9, 10, 11, 12, 13, 14, 15, 16, 17, 18, 19, 20, 21, 22, 23, 24] rfl)
        · refine lv_aload F.1 F.2.1 dL_isTick_511 (lv_at hl 8 rfl) ?_
          refine lv_iload F.1 F.2.1 dL_isTick_513 (lv_at hl 1 rfl) ?_
          refine jiald F hT hW j (o13 3 (by omega)) (by omega) (by decide) rfl rfl dL_isTick_515 ?_
          refine lv_if_ge (tgt := 596) F.1 F.2.1 dL_isTick_516 (by decide) (fun h5 => ?_) (fun h5 => ?_)
          · exact hJ20 _ _ _ _ ((if_pos h4).trans (if_pos h5)).symm hW (lv_sub hl [0, 1, 2, 3, 4, 5, 6, 7, 8, 9, 10, 11, 12, 13, 14, 15, 16, 17, 18, 19, 20, 21, 22, 23, 24] rfl)
          · refine lv_aload_n F.1 F.2.1 dL_isTick_519 rfl (lv_at hl 3 rfl) ?_
            refine lv_iload F.1 F.2.1 dL_isTick_520 (lv_at hl 1 rfl) ?_
            refine lv_iconst (v := 4) F.1 F.2.1 dL_isTick_522 (by decide) ?_
            refine jcip (jrunV (As := [.int (nI j), .int 4]) (rest := []) F hT hW yc_X6_ofLine yv_X6_ofLine ml_L_8 oH0 (by decide) rfl (r_ofLine l E (fo μ 13 A) B (hB13 hB) (wc13 hc) (nI j) 4) rfl hl.1 ⟨Nat.le_of_ble_eq_true rfl, Nat.le_of_ble_eq_true rfl⟩ rfl (Nat.le_of_ble_eq_true rfl) ⟨by decide, by decide⟩ dL_isTick_523) hW (fun x6 H locs ex6 hW => ?_)
            refine lv_if_ne (tgt := 596) F.1 F.2.1 dL_isTick_526 (by decide) (fun h7 => ?_) (fun h7 => ?_)
            · subst ex6
              exact hJ20 _ _ _ _ ((if_pos h4).trans ((if_neg h5).trans (if_neg h7))).symm hW (lv_sub hl [0, 1, 2, 3, 4, 5, 6, 7, 8, 9, 10, 11, 12, 13, 14, 15, 16, 17, 18, 19, 20, 21, 22, 23, 24] rfl)
            · refine lv_iload F.1 F.2.1 dL_isTick_529 (lv_at hl 0 rfl) ?_
              refine lv_aload_n F.1 F.2.1 dL_isTick_531 rfl (lv_at hl 3 rfl) ?_
              refine lv_bipush (v := 18) F.1 F.2.1 dL_isTick_532 (by decide) ?_
              refine jcip (jrunV (As := [.int 18]) (rest := [.int x3]) F hT hW yc_X6_count yv_X6_count ml_L_14 oH0 (by decide) rfl (r_count l E (fo μ 13 A) B (hB13 hB) (wc13 hc) 18 (by decide) (by decide)) rfl hl.1 ⟨Nat.le_of_ble_eq_true rfl, Nat.le_of_ble_eq_true rfl⟩ rfl (Nat.le_of_ble_eq_true rfl) ⟨by decide, by decide⟩ dL_isTick_534) hW (fun x8 H locs ex8 hW => ?_)
              refine lv_icmp_lt (tgt := 596) F.1 F.2.1 dL_isTick_537 (by decide) (fun h9 => ?_) (fun h9 => ?_)
              · subst ex8
                subst ex6
                exact hJ20 _ _ _ _ ((if_pos h4).trans ((if_neg h5).trans ((if_pos h7).trans (if_pos h9)))).symm hW (lv_sub hl [0, 1, 2, 3, 4, 5, 6, 7, 8, 9, 10, 11, 12, 13, 14, 15, 16, 17, 18, 19, 20, 21, 22, 23, 24] rfl)
              · refine lv_iload F.1 F.2.1 dL_isTick_540 (lv_at hl 2 rfl) ?_
                have hJ13 : ∀ (v12 : Int32) (H : Heap) (locs : List Loc) (ls : Array Slot), v12 = (if 0 ≤ v1 then (let x11 : Int32 := p_L_present B v1 1 (A 1 (cn v1)); x11) else (-1)) → Wd E s H locs (fo μ 13 A) → lv_has ls 27 [(24, .int x3), (23, .int (nI j)), (22, .int v1), (0, .ref (ea E 11 0)), (1, .int (nI n)), (2, .ref (ea E 13 0)), (3, .ref (ea E 13 1)), (4, .ref (ea E 13 2)), (5, .ref (ea E 13 3)), (6, .ref (ea E 13 4)), (7, .ref (ea E 13 5)), (8, .ref (ea E 13 6)), (9, .ref (ea E 13 7)), (10, .ref (ea E 13 8)), (11, .ref (ea E 13 9)), (12, .ref (ea E 13 10)), (13, .ref (ea E 13 11)), (14, .ref (ea E 13 12)), (15, .ref (ea E 13 13)), (16, .ref (ea E 13 14)), (17, .int v17), (18, .int v18), (19, .int v19), (20, .int v20), (21, .int v21)] → W p l e (rmC 6 136 16 177) s m args below meth c H locs 15 165 Q (F0 m 560 ls [.int v12]) := by
                  intro v12 H locs ls ev12 hW hl
                  refine lv_istore (lv' := [(25, .int v12), (24, .int x3), (23, .int (nI j)), (22, .int v1), (0, .ref (ea E 11 0)), (1, .int (nI n)), (2, .ref (ea E 13 0)), (3, .ref (ea E 13 1)), (4, .ref (ea E 13 2)), (5, .ref (ea E 13 3)), (6, .ref (ea E 13 4)), (7, .ref (ea E 13 5)), (8, .ref (ea E 13 6)), (9, .ref (ea E 13 7)), (10, .ref (ea E 13 8)), (11, .ref (ea E 13 9)), (12, .ref (ea E 13 10)), (13, .ref (ea E 13 11)), (14, .ref (ea E 13 12)), (15, .ref (ea E 13 13)), (16, .ref (ea E 13 14)), (17, .int v17), (18, .int v18), (19, .int v19), (20, .int v20), (21, .int v21)]) F.1 F.2.1 dL_isTick_560 hl (by decide) rfl (fun ls hl => ?_)
                  refine lv_iload F.1 F.2.1 dL_isTick_562 (lv_at hl 1 rfl) ?_
                  refine lv_iload F.1 F.2.1 dL_isTick_564 (lv_at hl 0 rfl) ?_
                  have hJ18 : ∀ (v17 : Int32) (H : Heap) (locs : List Loc) (ls : Array Slot), v17 = (if v12 < x3 then nI j else (if x3 = v12 then (if (A 1 j) ≤ (A 1 (cn v1)) then v1 else nI j) else v1)) → Wd E s H locs (fo μ 13 A) → lv_has ls 27 [(25, .int v12), (24, .int x3), (23, .int (nI j)), (22, .int v1), (0, .ref (ea E 11 0)), (1, .int (nI n)), (2, .ref (ea E 13 0)), (3, .ref (ea E 13 1)), (4, .ref (ea E 13 2)), (5, .ref (ea E 13 3)), (6, .ref (ea E 13 4)), (7, .ref (ea E 13 5)), (8, .ref (ea E 13 6)), (9, .ref (ea E 13 7)), (10, .ref (ea E 13 8)), (11, .ref (ea E 13 9)), (12, .ref (ea E 13 10)), (13, .ref (ea E 13 11)), (14, .ref (ea E 13 12)), (15, .ref (ea E 13 13)), (16, .ref (ea E 13 14)), (17, .int v17), (18, .int v18), (19, .int v19), (20, .int v20), (21, .int v21)] → W p l e (rmC 6 136 16 177) s m args below meth c H locs 15 165 Q (F0 m 594 ls [.int v17]) := by
                    intro v17 H locs ls ev17 hW hl
                    refine lv_istore (lv' := [(22, .int v17), (25, .int v12), (24, .int x3), (23, .int (nI j)), (0, .ref (ea E 11 0)), (1, .int (nI n)), (2, .ref (ea E 13 0)), (3, .ref (ea E 13 1)), (4, .ref (ea E 13 2)), (5, .ref (ea E 13 3)), (6, .ref (ea E 13 4)), (7, .ref (ea E 13 5)), (8, .ref (ea E 13 6)), (9, .ref (ea E 13 7)), (10, .ref (ea E 13 8)), (11, .ref (ea E 13 9)), (12, .ref (ea E 13 10)), (13, .ref (ea E 13 11)), (14, .ref (ea E 13 12)), (15, .ref (ea E 13 13)), (16, .ref (ea E 13 14)), (17, .int v17), (18, .int v18), (19, .int v19), (20, .int v20), (21, .int v21)]) F.1 F.2.1 dL_isTick_594 hl (by decide) rfl (fun ls hl => ?_)
                    subst ev17
                    subst ev12
                    subst ex8
                    subst ex6
                    exact hJ20 _ _ _ _ ((if_pos h4).trans ((if_neg h5).trans ((if_pos h7).trans (if_neg h9)))).symm hW (lv_sub hl [2, 3, 0, 4, 5, 6, 7, 8, 9, 10, 11, 12, 13, 14, 15, 16, 17, 18, 19, 20, 21, 22, 23, 24, 25] rfl)
                  refine lv_icmp_gt (tgt := 587) F.1 F.2.1 dL_isTick_566 (by decide) (fun h14 => ?_) (fun h14 => ?_)
                  · refine lv_iload F.1 F.2.1 dL_isTick_587 (lv_at hl 2 rfl) ?_
                    refine lv_goto (tgt := 594) F.1 F.2.1 dL_isTick_589 (by decide) ?_
                    exact hJ18 _ _ _ _ (if_pos h14).symm hW (lv_sub hl [0, 1, 2, 3, 4, 5, 6, 7, 8, 9, 10, 11, 12, 13, 14, 15, 16, 17, 18, 19, 20, 21, 22, 23, 24, 25] rfl)
                  · refine lv_iload F.1 F.2.1 dL_isTick_569 (lv_at hl 1 rfl) ?_
                    refine lv_iload F.1 F.2.1 dL_isTick_571 (lv_at hl 0 rfl) ?_
                    refine lv_icmp_ne (tgt := 592) F.1 F.2.1 dL_isTick_573 (by decide) (fun h15 => ?_) (fun h15 => ?_)
                    · refine lv_iload F.1 F.2.1 dL_isTick_592 (lv_at hl 3 rfl) ?_
                      exact hJ18 _ _ _ _ ((if_neg h14).trans (if_neg h15)).symm hW (lv_sub hl [0, 1, 2, 3, 4, 5, 6, 7, 8, 9, 10, 11, 12, 13, 14, 15, 16, 17, 18, 19, 20, 21, 22, 23, 24, 25] rfl)
                    · refine lv_aload_n F.1 F.2.1 dL_isTick_576 rfl (lv_at hl 7 rfl) ?_
                      refine lv_iload F.1 F.2.1 dL_isTick_577 (lv_at hl 2 rfl) ?_
                      have h22 : 0 ≤ v1 := fb_0 (by rw [ex3]; exact hpr j (by omega)) ev12 (by assumption)
                      refine jiald F hT hW j (o13 1 (by omega)) (by omega) (by decide) rfl rfl dL_isTick_579 ?_
                      refine lv_aload_n F.1 F.2.1 dL_isTick_580 rfl (lv_at hl 7 rfl) ?_
                      refine lv_iload F.1 F.2.1 dL_isTick_581 (lv_at hl 3 rfl) ?_
                      refine jiald F hT hW (cn v1) (o13 1 (by omega)) (by first | exact fb_b hb (by assumption) (by decide) | exact fb_b2 hb (by assumption) (by decide)) (by decide) (by first | exact fb_n hb (by assumption) | exact fb_n2 hb (by assumption)) rfl dL_isTick_583 ?_
                      refine lv_icmp_le (tgt := 592) F.1 F.2.1 dL_isTick_584 (by decide) (fun h16 => ?_) (fun h16 => ?_)
                      · refine lv_iload F.1 F.2.1 dL_isTick_592 (lv_at hl 3 rfl) ?_
                        exact hJ18 _ _ _ _ ((if_neg h14).trans ((if_pos h15).trans (if_pos h16))).symm hW (lv_sub hl [0, 1, 2, 3, 4, 5, 6, 7, 8, 9, 10, 11, 12, 13, 14, 15, 16, 17, 18, 19, 20, 21, 22, 23, 24, 25] rfl)
                      · refine lv_iload F.1 F.2.1 dL_isTick_587 (lv_at hl 2 rfl) ?_
                        refine lv_goto (tgt := 594) F.1 F.2.1 dL_isTick_589 (by decide) ?_
                        exact hJ18 _ _ _ _ ((if_neg h14).trans ((if_pos h15).trans (if_neg h16))).symm hW (lv_sub hl [0, 1, 2, 3, 4, 5, 6, 7, 8, 9, 10, 11, 12, 13, 14, 15, 16, 17, 18, 19, 20, 21, 22, 23, 24, 25] rfl)
                refine lv_if_ge (tgt := 549) F.1 F.2.1 dL_isTick_542 (by decide) (fun h10 => ?_) (fun h10 => ?_)
                · refine lv_aload_n F.1 F.2.1 dL_isTick_549 rfl (lv_at hl 3 rfl) ?_
                  refine lv_iload F.1 F.2.1 dL_isTick_550 (lv_at hl 2 rfl) ?_
                  refine lv_iconst (v := 1) F.1 F.2.1 dL_isTick_552 (by decide) ?_
                  refine lv_aload_n F.1 F.2.1 dL_isTick_553 rfl (lv_at hl 6 rfl) ?_
                  refine lv_iload F.1 F.2.1 dL_isTick_554 (lv_at hl 2 rfl) ?_
                  refine jiald F hT hW (cn v1) (o13 1 (by omega)) (by first | exact fb_b hb (by assumption) (by decide) | exact fb_b2 hb (by assumption) (by decide)) (by decide) (by first | exact fb_n hb (by assumption) | exact fb_n2 hb (by assumption)) rfl dL_isTick_556 ?_
                  refine jcip (jrunS (As := [.ref (ea E 11 0), .int v1, .int 1, .int (A 1 (cn v1))]) (rest := []) F hT hW yc_L_present ys_L_present ml_L_18 (r_present l E (fo μ 13 A) B (hB13 hB) (wc13 hc) v1 1 (A 1 (cn v1))) rfl hl.1 ⟨Nat.le_of_ble_eq_true rfl, Nat.le_of_ble_eq_true rfl⟩ rfl (Nat.le_of_ble_eq_true rfl) ⟨by decide, by decide⟩ dL_isTick_557) hW (fun x11 H locs ex11 hW => ?_)
                  subst ex11
                  exact hJ13 _ _ _ _ (if_pos h10).symm hW (lv_sub hl [0, 1, 2, 3, 4, 5, 6, 7, 8, 9, 10, 11, 12, 13, 14, 15, 16, 17, 18, 19, 20, 21, 22, 23, 24] rfl)
                · refine lv_iconst (v := (-1)) F.1 F.2.1 dL_isTick_545 (by decide) ?_
                  refine lv_goto (tgt := 560) F.1 F.2.1 dL_isTick_546 (by decide) ?_
                  exact hJ13 _ _ _ _ (if_neg h10).symm hW (lv_sub hl [0, 1, 2, 3, 4, 5, 6, 7, 8, 9, 10, 11, 12, 13, 14, 15, 16, 17, 18, 19, 20, 21, 22, 23, 24] rfl)
  exact hL2 n 0 (-1) _ _ _ (by omega) rfl (Or.inl rfl) hW (lv_sub hl [0, 1, 2, 3, 4, 5, 6, 7, 8, 9, 10, 11, 12, 13, 14, 15, 16, 17, 18, 19, 20, 21, 22, 23] rfl)
