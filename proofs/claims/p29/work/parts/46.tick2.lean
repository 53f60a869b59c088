/-! the law: isTick, what is told behind it -/

set_option maxHeartbeats 4000000 in
set_option maxRecDepth 100000 in
theorem sg_T6 {p : Program} {l : Launch} {e : Env} {s : State} {m : MethodId} {args : Array Value} {below : List Frame} {meth : Method} {c : Code} {Q : State → Prop} {E : mE} {μ : Mu} {H : Heap} {locs : List Loc} {ls : Array Slot} (F : CallFix p m c cL_isTick 27 s args TB RL) (hT : Stat E s) (M M2 : Mu) (n d t : Nat) {u18 u19 u20 u21 : Int32} (hE : nlc E = 16) (hc : Wc M) (hM2 : (p_X6_ticks M 1).2 = M2) (hc2 : Wc M2) (hn12 : n ≤ 12) (hd8 : d ≤ 8) (ht6 : t ≤ 6) (hx1 : (p_X6_ticks M 1).1 = u18 + 1) (hF0 : p_X3_numberOfAll (M2 0) 0 = u18 + 1) (hF3 : p_X3_numberOfAll (M2 0) 3 = nI d) (hF6 : p_X3_numberOfAll (M2 0) 6 = u19) (hF7 : p_X3_numberOfAll (M2 0) 7 = u20) (hF9 : p_X3_numberOfAll (M2 0) 9 = u21) (hF2 : p_X3_numberOfAll (M2 0) 2 = nI t) (hG5 : ∀ j, j < n → p_X3_numberOfLine (M2 0) (nI j) 5 = M2 13 0 j) (hG6 : ∀ j, j < n → ¬ M2 13 0 j = 0 → p_X3_numberOfLine (M2 0) (nI j) 6 = M2 13 1 j) (hG8 : ∀ j, j < n → p_X3_numberOfLine (M2 0) (nI j) 8 = M2 13 3 j) (hG9 : ∀ j, j < n → p_X3_numberOfLine (M2 0) (nI j) 9 = M2 13 2 j) (hG4 : ∀ j, j < n → p_X3_numberOfLine (M2 0) (nI j) 4 = M2 13 15 j) (hG10 : ∀ j, j < n → p_X3_numberOfLine (M2 0) (nI j) 10 = M2 13 4 j) (hG11 : ∀ j, j < n → p_X3_numberOfLine (M2 0) (nI j) 11 = M2 13 5 j) (hG12 : ∀ j, j < n → p_X3_numberOfLine (M2 0) (nI j) 12 = M2 13 6 j) (hG13 : ∀ j, j < n → p_X3_numberOfLine (M2 0) (nI j) 13 = M2 13 7 j) (hG14 : ∀ j, j < n → p_X3_numberOfLine (M2 0) (nI j) 14 = M2 13 8 j) (hG15 : ∀ j, j < n → p_X3_numberOfLine (M2 0) (nI j) 15 = M2 13 9 j) (hG16 : ∀ j, j < n → p_X3_numberOfLine (M2 0) (nI j) 16 = M2 13 10 j) (hP0 : ∀ k, k < d → p_X3_numberOfPlace (M2 0) (nI k) 0 = M2 13 11 k) (hP1 : ∀ k, k < d → p_X3_numberOfPlace (M2 0) (nI k) 1 = M2 13 12 k) (hP2 : ∀ k, k < d → p_X3_numberOfPlace (M2 0) (nI k) 2 = M2 13 13 k) (hQ : ∀ i, i < t → p_X3_numberOfTimer (M2 0) (nI i) 2 = M2 13 14 i) (hW : Wd E s H locs M) (hl : lv_has ls 27 [(0, .ref (ea E 11 0)), (1, .int (nI n)), (2, .ref (ea E 13 0)), (3, .ref (ea E 13 1)), (4, .ref (ea E 13 2)), (5, .ref (ea E 13 3)), (6, .ref (ea E 13 4)), (7, .ref (ea E 13 5)), (8, .ref (ea E 13 6)), (9, .ref (ea E 13 7)), (10, .ref (ea E 13 8)), (11, .ref (ea E 13 9)), (12, .ref (ea E 13 10)), (13, .ref (ea E 13 11)), (14, .ref (ea E 13 12)), (15, .ref (ea E 13 13)), (16, .ref (ea E 13 14)), (17, .int (nI d)), (18, .int u18), (19, .int u19), (20, .int u20), (21, .int u21), (23, .ref (ea E 13 15))])
    (kk : ∀ (H : Heap) (locs : List Loc) (ls : Array Slot), Wd E s H locs M2 → W p l e (rmC 6 136 16 177) s m args below meth c H locs 16 177 Q (F0 m 1406 ls [.int 1])) : W p l e (rmC 6 136 16 177) s m args below meth c H locs 16 177 Q (F0 m 1001 ls []) := by
  refine lv_aload_n F.1 F.2.1 dL_isTick_1001 rfl (lv_at hl 0 rfl) ?_
  refine lv_iconst (v := 1) F.1 F.2.1 dL_isTick_1002 (by decide) ?_
  refine jciG (jrunV (As := [.int 1]) (rest := []) F hT hW yc_X6_ticks yv_X6_ticks ml_L_34 oH0 (by decide) rfl (c_X6_ticks l E M 1 hc) rfl hl.1 ⟨Nat.le_of_ble_eq_true rfl, Nat.le_of_ble_eq_true rfl⟩ rfl (Nat.le_of_ble_eq_true rfl) ⟨by decide, by decide⟩ dL_isTick_1003) hW (fun x1 S2 H locs ex1 eS2 hW => ?_)
  obtain rfl := eS2.trans hM2
  refine lv_iload F.1 F.2.1 dL_isTick_1006 (lv_at hl 18 rfl) ?_
  refine lv_iconst (v := 1) F.1 F.2.1 dL_isTick_1008 (by decide) ?_
  refine lv_iadd F.1 F.2.1 dL_isTick_1009 ?_
  refine lv_icmp_ne (tgt := 1068) F.1 F.2.1 dL_isTick_1010 (by decide) (fun h3 => ?_) (fun h3 => ?_)
  · exact absurd (ex1.trans hx1) h3
  · refine lv_aload_n F.1 F.2.1 dL_isTick_1013 rfl (lv_at hl 0 rfl) ?_
    refine lv_iconst (v := 0) F.1 F.2.1 dL_isTick_1014 (by decide) ?_
    refine jcir (jrunV (As := [.int 0]) (rest := []) F hT hW yc_X6_count yv_X6_count ml_L_14 oH0 (by decide) rfl (r_count l E S2 rfl hc2 0 (by decide) (by decide)) rfl hl.1 ⟨Nat.le_of_ble_eq_true rfl, Nat.le_of_ble_eq_true rfl⟩ rfl (Nat.le_of_ble_eq_true rfl) ⟨by decide, by decide⟩ dL_isTick_1015) hW (fun H locs hW => ?_)
    refine lv_iload F.1 F.2.1 dL_isTick_1018 (lv_at hl 18 rfl) ?_
    refine lv_iconst (v := 1) F.1 F.2.1 dL_isTick_1020 (by decide) ?_
    refine lv_iadd F.1 F.2.1 dL_isTick_1021 ?_
    refine lv_icmp_ne (tgt := 1068) F.1 F.2.1 dL_isTick_1022 (by decide) (fun h4 => ?_) (fun h4 => ?_)
    · exact absurd (hF0) h4
    · refine lv_aload_n F.1 F.2.1 dL_isTick_1025 rfl (lv_at hl 0 rfl) ?_
      refine lv_iconst (v := 3) F.1 F.2.1 dL_isTick_1026 (by decide) ?_
      refine jcir (jrunV (As := [.int 3]) (rest := []) F hT hW yc_X6_count yv_X6_count ml_L_14 oH0 (by decide) rfl (r_count l E S2 rfl hc2 3 (by decide) (by decide)) rfl hl.1 ⟨Nat.le_of_ble_eq_true rfl, Nat.le_of_ble_eq_true rfl⟩ rfl (Nat.le_of_ble_eq_true rfl) ⟨by decide, by decide⟩ dL_isTick_1027) hW (fun H locs hW => ?_)
      refine lv_iload F.1 F.2.1 dL_isTick_1030 (lv_at hl 17 rfl) ?_
      refine lv_icmp_ne (tgt := 1068) F.1 F.2.1 dL_isTick_1032 (by decide) (fun h5 => ?_) (fun h5 => ?_)
      · exact absurd (hF3) h5
      · refine lv_aload_n F.1 F.2.1 dL_isTick_1035 rfl (lv_at hl 0 rfl) ?_
        refine lv_bipush (v := 6) F.1 F.2.1 dL_isTick_1036 (by decide) ?_
        refine jcir (jrunV (As := [.int 6]) (rest := []) F hT hW yc_X6_count yv_X6_count ml_L_14 oH0 (by decide) rfl (r_count l E S2 rfl hc2 6 (by decide) (by decide)) rfl hl.1 ⟨Nat.le_of_ble_eq_true rfl, Nat.le_of_ble_eq_true rfl⟩ rfl (Nat.le_of_ble_eq_true rfl) ⟨by decide, by decide⟩ dL_isTick_1038) hW (fun H locs hW => ?_)
        refine lv_iload F.1 F.2.1 dL_isTick_1041 (lv_at hl 19 rfl) ?_
        refine lv_icmp_ne (tgt := 1068) F.1 F.2.1 dL_isTick_1043 (by decide) (fun h6 => ?_) (fun h6 => ?_)
        · exact absurd (hF6) h6
        · refine lv_aload_n F.1 F.2.1 dL_isTick_1046 rfl (lv_at hl 0 rfl) ?_
          refine lv_bipush (v := 7) F.1 F.2.1 dL_isTick_1047 (by decide) ?_
          refine jcir (jrunV (As := [.int 7]) (rest := []) F hT hW yc_X6_count yv_X6_count ml_L_14 oH0 (by decide) rfl (r_count l E S2 rfl hc2 7 (by decide) (by decide)) rfl hl.1 ⟨Nat.le_of_ble_eq_true rfl, Nat.le_of_ble_eq_true rfl⟩ rfl (Nat.le_of_ble_eq_true rfl) ⟨by decide, by decide⟩ dL_isTick_1049) hW (fun H locs hW => ?_)
          refine lv_iload F.1 F.2.1 dL_isTick_1052 (lv_at hl 20 rfl) ?_
          refine lv_icmp_ne (tgt := 1068) F.1 F.2.1 dL_isTick_1054 (by decide) (fun h7 => ?_) (fun h7 => ?_)
          · exact absurd (hF7) h7
          · refine lv_aload_n F.1 F.2.1 dL_isTick_1057 rfl (lv_at hl 0 rfl) ?_
            refine lv_bipush (v := 9) F.1 F.2.1 dL_isTick_1058 (by decide) ?_
            refine jcir (jrunV (As := [.int 9]) (rest := []) F hT hW yc_X6_count yv_X6_count ml_L_14 oH0 (by decide) rfl (r_count l E S2 rfl hc2 9 (by decide) (by decide)) rfl hl.1 ⟨Nat.le_of_ble_eq_true rfl, Nat.le_of_ble_eq_true rfl⟩ rfl (Nat.le_of_ble_eq_true rfl) ⟨by decide, by decide⟩ dL_isTick_1060) hW (fun H locs hW => ?_)
            refine lv_iload F.1 F.2.1 dL_isTick_1063 (lv_at hl 21 rfl) ?_
            refine lv_icmp_eq (tgt := 1070) F.1 F.2.1 dL_isTick_1065 (by decide) (fun h8 => ?_) (fun h8 => ?_)
            · refine lv_iconst (v := 0) F.1 F.2.1 dL_isTick_1070 (by decide) ?_
              refine lv_istore (lv' := [(24, .int 0), (0, .ref (ea E 11 0)), (1, .int (nI n)), (2, .ref (ea E 13 0)), (3, .ref (ea E 13 1)), (4, .ref (ea E 13 2)), (5, .ref (ea E 13 3)), (6, .ref (ea E 13 4)), (7, .ref (ea E 13 5)), (8, .ref (ea E 13 6)), (9, .ref (ea E 13 7)), (10, .ref (ea E 13 8)), (11, .ref (ea E 13 9)), (12, .ref (ea E 13 10)), (13, .ref (ea E 13 11)), (14, .ref (ea E 13 12)), (15, .ref (ea E 13 13)), (16, .ref (ea E 13 14)), (17, .int (nI d)), (18, .int u18), (19, .int u19), (20, .int u20), (21, .int u21), (23, .ref (ea E 13 15))]) F.1 F.2.1 dL_isTick_1071 hl (by decide) rfl (fun ls hl => ?_)
              have hL9 : ∀ (fu j : Nat) (H : Heap) (locs : List Loc) (ls : Array Slot), j + fu = n → True → Wd E s H locs S2 → lv_has ls 27 [(24, .int (nI j)), (0, .ref (ea E 11 0)), (1, .int (nI n)), (2, .ref (ea E 13 0)), (3, .ref (ea E 13 1)), (4, .ref (ea E 13 2)), (5, .ref (ea E 13 3)), (6, .ref (ea E 13 4)), (7, .ref (ea E 13 5)), (8, .ref (ea E 13 6)), (9, .ref (ea E 13 7)), (10, .ref (ea E 13 8)), (11, .ref (ea E 13 9)), (12, .ref (ea E 13 10)), (13, .ref (ea E 13 11)), (14, .ref (ea E 13 12)), (15, .ref (ea E 13 13)), (16, .ref (ea E 13 14)), (17, .int (nI d)), (18, .int u18), (19, .int u19), (20, .int u20), (21, .int u21), (23, .ref (ea E 13 15))] → W p l e (rmC 6 136 16 177) s m args below meth c H locs 16 177 Q (F0 m 1073 ls []) := by
                intro fu
                induction fu with
                | zero =>
                  intro j  H locs ls hj hs  hW hl
                  obtain rfl : n = j := by omega
                  refine lv_iload F.1 F.2.1 dL_isTick_1073 (lv_at hl 0 rfl) ?_
                  refine lv_iload_n F.1 F.2.1 dL_isTick_1075 rfl (lv_at hl 2 rfl) ?_
                  refine lv_icmp_ge (tgt := 1306) F.1 F.2.1 dL_isTick_1076 (by decide) (fun h10 => ?_) (fun h10 => ?_)
                  · refine lv_iconst (v := 0) F.1 F.2.1 dL_isTick_1306 (by decide) ?_
                    refine lv_istore (lv' := [(24, .int 0), (0, .ref (ea E 11 0)), (1, .int (nI n)), (2, .ref (ea E 13 0)), (3, .ref (ea E 13 1)), (4, .ref (ea E 13 2)), (5, .ref (ea E 13 3)), (6, .ref (ea E 13 4)), (7, .ref (ea E 13 5)), (8, .ref (ea E 13 6)), (9, .ref (ea E 13 7)), (10, .ref (ea E 13 8)), (11, .ref (ea E 13 9)), (12, .ref (ea E 13 10)), (13, .ref (ea E 13 11)), (14, .ref (ea E 13 12)), (15, .ref (ea E 13 13)), (16, .ref (ea E 13 14)), (17, .int (nI d)), (18, .int u18), (19, .int u19), (20, .int u20), (21, .int u21), (23, .ref (ea E 13 15))]) F.1 F.2.1 dL_isTick_1307 hl (by decide) rfl (fun ls hl => ?_)
                    have hL11 : ∀ (fu k : Nat) (H : Heap) (locs : List Loc) (ls : Array Slot), k + fu = d → True → Wd E s H locs S2 → lv_has ls 27 [(24, .int (nI k)), (0, .ref (ea E 11 0)), (1, .int (nI n)), (2, .ref (ea E 13 0)), (3, .ref (ea E 13 1)), (4, .ref (ea E 13 2)), (5, .ref (ea E 13 3)), (6, .ref (ea E 13 4)), (7, .ref (ea E 13 5)), (8, .ref (ea E 13 6)), (9, .ref (ea E 13 7)), (10, .ref (ea E 13 8)), (11, .ref (ea E 13 9)), (12, .ref (ea E 13 10)), (13, .ref (ea E 13 11)), (14, .ref (ea E 13 12)), (15, .ref (ea E 13 13)), (16, .ref (ea E 13 14)), (17, .int (nI d)), (18, .int u18), (19, .int u19), (20, .int u20), (21, .int u21), (23, .ref (ea E 13 15))] → W p l e (rmC 6 136 16 177) s m args below meth c H locs 16 177 Q (F0 m 1309 ls []) := by
                      intro fu
                      induction fu with
                      | zero =>
                        intro k  H locs ls hj hs  hW hl
                        obtain rfl : d = k := by omega
                        refine lv_iload F.1 F.2.1 dL_isTick_1309 (lv_at hl 0 rfl) ?_
                        refine lv_iload F.1 F.2.1 dL_isTick_1311 (lv_at hl 18 rfl) ?_
                        refine lv_icmp_ge (tgt := 1369) F.1 F.2.1 dL_isTick_1313 (by decide) (fun h12 => ?_) (fun h12 => ?_)
                        · refine lv_iconst (v := 0) F.1 F.2.1 dL_isTick_1369 (by decide) ?_
                          refine lv_istore (lv' := [(24, .int 0), (0, .ref (ea E 11 0)), (1, .int (nI n)), (2, .ref (ea E 13 0)), (3, .ref (ea E 13 1)), (4, .ref (ea E 13 2)), (5, .ref (ea E 13 3)), (6, .ref (ea E 13 4)), (7, .ref (ea E 13 5)), (8, .ref (ea E 13 6)), (9, .ref (ea E 13 7)), (10, .ref (ea E 13 8)), (11, .ref (ea E 13 9)), (12, .ref (ea E 13 10)), (13, .ref (ea E 13 11)), (14, .ref (ea E 13 12)), (15, .ref (ea E 13 13)), (16, .ref (ea E 13 14)), (17, .int (nI d)), (18, .int u18), (19, .int u19), (20, .int u20), (21, .int u21), (23, .ref (ea E 13 15))]) F.1 F.2.1 dL_isTick_1370 hl (by decide) rfl (fun ls hl => ?_)
                          have hL13 : ∀ (fu i : Nat) (H : Heap) (locs : List Loc) (ls : Array Slot), i + fu = t → True → Wd E s H locs S2 → lv_has ls 27 [(24, .int (nI i)), (0, .ref (ea E 11 0)), (1, .int (nI n)), (2, .ref (ea E 13 0)), (3, .ref (ea E 13 1)), (4, .ref (ea E 13 2)), (5, .ref (ea E 13 3)), (6, .ref (ea E 13 4)), (7, .ref (ea E 13 5)), (8, .ref (ea E 13 6)), (9, .ref (ea E 13 7)), (10, .ref (ea E 13 8)), (11, .ref (ea E 13 9)), (12, .ref (ea E 13 10)), (13, .ref (ea E 13 11)), (14, .ref (ea E 13 12)), (15, .ref (ea E 13 13)), (16, .ref (ea E 13 14)), (17, .int (nI d)), (18, .int u18), (19, .int u19), (20, .int u20), (21, .int u21), (23, .ref (ea E 13 15))] → W p l e (rmC 6 136 16 177) s m args below meth c H locs 16 177 Q (F0 m 1372 ls []) := by
                            intro fu
                            induction fu with
                            | zero =>
                              intro i  H locs ls hj hs  hW hl
                              obtain rfl : t = i := by omega
                              refine lv_iload F.1 F.2.1 dL_isTick_1372 (lv_at hl 0 rfl) ?_
                              refine lv_aload_n F.1 F.2.1 dL_isTick_1374 rfl (lv_at hl 1 rfl) ?_
                              refine lv_iconst (v := 2) F.1 F.2.1 dL_isTick_1375 (by decide) ?_
                              refine jcir (jrunV (As := [.int 2]) (rest := [.int (nI t)]) F hT hW yc_X6_count yv_X6_count ml_L_14 oH0 (by decide) rfl (r_count l E S2 rfl hc2 2 (by decide) (by decide)) rfl hl.1 ⟨Nat.le_of_ble_eq_true rfl, Nat.le_of_ble_eq_true rfl⟩ rfl (Nat.le_of_ble_eq_true rfl) ⟨by decide, by decide⟩ dL_isTick_1376) hW (fun H locs hW => ?_)
                              refine lv_icmp_ge (tgt := 1405) F.1 F.2.1 dL_isTick_1379 (by decide) (fun h14 => ?_) (fun h14 => ?_)
                              · refine lv_iconst (v := 1) F.1 F.2.1 dL_isTick_1405 (by decide) ?_
                                exact kk _ _ _ hW
                              · exact absurd (c_le hF2 rfl (by omega) (by omega)) h14
                            | succ fu ih =>
                              intro i  H locs ls hj hs  hW hl
                              refine lv_iload F.1 F.2.1 dL_isTick_1372 (lv_at hl 0 rfl) ?_
                              refine lv_aload_n F.1 F.2.1 dL_isTick_1374 rfl (lv_at hl 1 rfl) ?_
                              refine lv_iconst (v := 2) F.1 F.2.1 dL_isTick_1375 (by decide) ?_
                              refine jcir (jrunV (As := [.int 2]) (rest := [.int (nI i)]) F hT hW yc_X6_count yv_X6_count ml_L_14 oH0 (by decide) rfl (r_count l E S2 rfl hc2 2 (by decide) (by decide)) rfl hl.1 ⟨Nat.le_of_ble_eq_true rfl, Nat.le_of_ble_eq_true rfl⟩ rfl (Nat.le_of_ble_eq_true rfl) ⟨by decide, by decide⟩ dL_isTick_1376) hW (fun H locs hW => ?_)
                              refine lv_icmp_ge (tgt := 1405) F.1 F.2.1 dL_isTick_1379 (by decide) (fun h13 => ?_) (fun h13 => ?_)
                              · exact absurd h13 (c_nle hF2 rfl (by omega) (by omega))
                              · refine lv_aload_n F.1 F.2.1 dL_isTick_1382 rfl (lv_at hl 1 rfl) ?_
                                refine lv_iload F.1 F.2.1 dL_isTick_1383 (lv_at hl 0 rfl) ?_
                                refine lv_iconst (v := 2) F.1 F.2.1 dL_isTick_1385 (by decide) ?_
                                refine jcir (jrunV (As := [.int (nI i), .int 2]) (rest := []) F hT hW yc_X6_ofTimer yv_X6_ofTimer ml_L_27 oH0 (by decide) rfl (r_ofTimer l E S2 rfl hc2 (nI i) 2) rfl hl.1 ⟨Nat.le_of_ble_eq_true rfl, Nat.le_of_ble_eq_true rfl⟩ rfl (Nat.le_of_ble_eq_true rfl) ⟨by decide, by decide⟩ dL_isTick_1386) hW (fun H locs hW => ?_)
                                refine lv_aload F.1 F.2.1 dL_isTick_1389 (lv_at hl 17 rfl) ?_
                                refine lv_iload F.1 F.2.1 dL_isTick_1391 (lv_at hl 0 rfl) ?_
                                refine jiald F hT (hW.foc 13) i (o13 14 (k := 6) (by omega)) (by omega) (by decide) rfl rfl dL_isTick_1393 ?_
                                refine lv_icmp_eq (tgt := 1399) F.1 F.2.1 dL_isTick_1394 (by decide) (fun h14 => ?_) (fun h14 => ?_)
                                · refine lv_iinc (v := nI (i + 1)) (lv' := [(24, .int (nI (i + 1))), (0, .ref (ea E 11 0)), (1, .int (nI n)), (2, .ref (ea E 13 0)), (3, .ref (ea E 13 1)), (4, .ref (ea E 13 2)), (5, .ref (ea E 13 3)), (6, .ref (ea E 13 4)), (7, .ref (ea E 13 5)), (8, .ref (ea E 13 6)), (9, .ref (ea E 13 7)), (10, .ref (ea E 13 8)), (11, .ref (ea E 13 9)), (12, .ref (ea E 13 10)), (13, .ref (ea E 13 11)), (14, .ref (ea E 13 12)), (15, .ref (ea E 13 13)), (16, .ref (ea E 13 14)), (17, .int (nI d)), (18, .int u18), (19, .int u19), (20, .int u20), (21, .int u21), (23, .ref (ea E 13 15))]) F.1 F.2.1 dL_isTick_1399 hl (k := 0) rfl (ia rfl rfl) (by decide) rfl (fun ls hl => ?_)
                                  refine lv_goto (tgt := 1372) F.1 F.2.1 dL_isTick_1402 (by decide) ?_
                                  exact ih (i + 1) _ _ _ (by omega) trivial hW (lv_sub hl [0, 1, 2, 3, 4, 5, 6, 7, 8, 9, 10, 11, 12, 13, 14, 15, 16, 17, 18, 19, 20, 21, 22, 23] rfl)
                                · exact absurd (hQ i (by omega)) h14
                          exact hL13 t 0 _ _ _ (by omega) trivial hW (lv_sub hl [0, 1, 2, 3, 4, 5, 6, 7, 8, 9, 10, 11, 12, 13, 14, 15, 16, 17, 18, 19, 20, 21, 22, 23] rfl)
                        · exact absurd (c_le rfl rfl (by omega) (by omega)) h12
                      | succ fu ih =>
                        intro k  H locs ls hj hs  hW hl
                        refine lv_iload F.1 F.2.1 dL_isTick_1309 (lv_at hl 0 rfl) ?_
                        refine lv_iload F.1 F.2.1 dL_isTick_1311 (lv_at hl 18 rfl) ?_
                        refine lv_icmp_ge (tgt := 1369) F.1 F.2.1 dL_isTick_1313 (by decide) (fun h11 => ?_) (fun h11 => ?_)
                        · exact absurd h11 (c_nle rfl rfl (by omega) (by omega))
                        · refine lv_aload_n F.1 F.2.1 dL_isTick_1316 rfl (lv_at hl 1 rfl) ?_
                          refine lv_iload F.1 F.2.1 dL_isTick_1317 (lv_at hl 0 rfl) ?_
                          refine lv_iconst (v := 0) F.1 F.2.1 dL_isTick_1319 (by decide) ?_
                          refine jcir (jrunV (As := [.int (nI k), .int 0]) (rest := []) F hT hW yc_X6_ofNest yv_X6_ofNest ml_L_24 oH0 (by decide) rfl (r_ofNest l E S2 rfl hc2 (nI k) 0) rfl hl.1 ⟨Nat.le_of_ble_eq_true rfl, Nat.le_of_ble_eq_true rfl⟩ rfl (Nat.le_of_ble_eq_true rfl) ⟨by decide, by decide⟩ dL_isTick_1320) hW (fun H locs hW => ?_)
                          refine lv_aload F.1 F.2.1 dL_isTick_1323 (lv_at hl 14 rfl) ?_
                          refine lv_iload F.1 F.2.1 dL_isTick_1325 (lv_at hl 0 rfl) ?_
                          refine jiald F hT (hW.foc 13) k (o13 11 (k := 9) (by omega)) (by omega) (by decide) rfl rfl dL_isTick_1327 ?_
                          refine lv_icmp_ne (tgt := 1361) F.1 F.2.1 dL_isTick_1328 (by decide) (fun h12 => ?_) (fun h12 => ?_)
                          · exact absurd (hP0 k (by omega)) h12
                          · refine lv_aload_n F.1 F.2.1 dL_isTick_1331 rfl (lv_at hl 1 rfl) ?_
                            refine lv_iload F.1 F.2.1 dL_isTick_1332 (lv_at hl 0 rfl) ?_
                            refine lv_iconst (v := 1) F.1 F.2.1 dL_isTick_1334 (by decide) ?_
                            refine jcir (jrunV (As := [.int (nI k), .int 1]) (rest := []) F hT hW yc_X6_ofNest yv_X6_ofNest ml_L_24 oH0 (by decide) rfl (r_ofNest l E S2 rfl hc2 (nI k) 1) rfl hl.1 ⟨Nat.le_of_ble_eq_true rfl, Nat.le_of_ble_eq_true rfl⟩ rfl (Nat.le_of_ble_eq_true rfl) ⟨by decide, by decide⟩ dL_isTick_1335) hW (fun H locs hW => ?_)
                            refine lv_aload F.1 F.2.1 dL_isTick_1338 (lv_at hl 15 rfl) ?_
                            refine lv_iload F.1 F.2.1 dL_isTick_1340 (lv_at hl 0 rfl) ?_
                            refine jiald F hT (hW.foc 13) k (o13 12 (k := 9) (by omega)) (by omega) (by decide) rfl rfl dL_isTick_1342 ?_
                            refine lv_icmp_ne (tgt := 1361) F.1 F.2.1 dL_isTick_1343 (by decide) (fun h13 => ?_) (fun h13 => ?_)
                            · exact absurd (hP1 k (by omega)) h13
                            · refine lv_aload_n F.1 F.2.1 dL_isTick_1346 rfl (lv_at hl 1 rfl) ?_
                              refine lv_iload F.1 F.2.1 dL_isTick_1347 (lv_at hl 0 rfl) ?_
                              refine lv_iconst (v := 2) F.1 F.2.1 dL_isTick_1349 (by decide) ?_
                              refine jcir (jrunV (As := [.int (nI k), .int 2]) (rest := []) F hT hW yc_X6_ofNest yv_X6_ofNest ml_L_24 oH0 (by decide) rfl (r_ofNest l E S2 rfl hc2 (nI k) 2) rfl hl.1 ⟨Nat.le_of_ble_eq_true rfl, Nat.le_of_ble_eq_true rfl⟩ rfl (Nat.le_of_ble_eq_true rfl) ⟨by decide, by decide⟩ dL_isTick_1350) hW (fun H locs hW => ?_)
                              refine lv_aload F.1 F.2.1 dL_isTick_1353 (lv_at hl 16 rfl) ?_
                              refine lv_iload F.1 F.2.1 dL_isTick_1355 (lv_at hl 0 rfl) ?_
                              refine jiald F hT (hW.foc 13) k (o13 13 (k := 9) (by omega)) (by omega) (by decide) rfl rfl dL_isTick_1357 ?_
                              refine lv_icmp_eq (tgt := 1363) F.1 F.2.1 dL_isTick_1358 (by decide) (fun h14 => ?_) (fun h14 => ?_)
                              · refine lv_iinc (v := nI (k + 1)) (lv' := [(24, .int (nI (k + 1))), (0, .ref (ea E 11 0)), (1, .int (nI n)), (2, .ref (ea E 13 0)), (3, .ref (ea E 13 1)), (4, .ref (ea E 13 2)), (5, .ref (ea E 13 3)), (6, .ref (ea E 13 4)), (7, .ref (ea E 13 5)), (8, .ref (ea E 13 6)), (9, .ref (ea E 13 7)), (10, .ref (ea E 13 8)), (11, .ref (ea E 13 9)), (12, .ref (ea E 13 10)), (13, .ref (ea E 13 11)), (14, .ref (ea E 13 12)), (15, .ref (ea E 13 13)), (16, .ref (ea E 13 14)), (17, .int (nI d)), (18, .int u18), (19, .int u19), (20, .int u20), (21, .int u21), (23, .ref (ea E 13 15))]) F.1 F.2.1 dL_isTick_1363 hl (k := 0) rfl (ia rfl rfl) (by decide) rfl (fun ls hl => ?_)
                                refine lv_goto (tgt := 1309) F.1 F.2.1 dL_isTick_1366 (by decide) ?_
                                exact ih (k + 1) _ _ _ (by omega) trivial hW (lv_sub hl [0, 1, 2, 3, 4, 5, 6, 7, 8, 9, 10, 11, 12, 13, 14, 15, 16, 17, 18, 19, 20, 21, 22, 23] rfl)
                              · exact absurd (hP2 k (by omega)) h14
                    exact hL11 d 0 _ _ _ (by omega) trivial hW (lv_sub hl [0, 1, 2, 3, 4, 5, 6, 7, 8, 9, 10, 11, 12, 13, 14, 15, 16, 17, 18, 19, 20, 21, 22, 23] rfl)
                  · exact absurd (c_le rfl rfl (by omega) (by omega)) h10
                | succ fu ih =>
                  intro j  H locs ls hj hs  hW hl
                  refine lv_iload F.1 F.2.1 dL_isTick_1073 (lv_at hl 0 rfl) ?_
                  refine lv_iload_n F.1 F.2.1 dL_isTick_1075 rfl (lv_at hl 2 rfl) ?_
                  refine lv_icmp_ge (tgt := 1306) F.1 F.2.1 dL_isTick_1076 (by decide) (fun h9 => ?_) (fun h9 => ?_)
                  · exact absurd h9 (c_nle rfl rfl (by omega) (by omega))
                  · refine lv_aload_n F.1 F.2.1 dL_isTick_1079 rfl (lv_at hl 1 rfl) ?_
                    refine lv_iload F.1 F.2.1 dL_isTick_1080 (lv_at hl 0 rfl) ?_
                    refine lv_iconst (v := 5) F.1 F.2.1 dL_isTick_1082 (by decide) ?_
                    refine jcir (jrunV (As := [.int (nI j), .int 5]) (rest := []) F hT hW yc_X6_ofLine yv_X6_ofLine ml_L_8 oH0 (by decide) rfl (r_ofLine l E S2 rfl hc2 (nI j) 5) rfl hl.1 ⟨Nat.le_of_ble_eq_true rfl, Nat.le_of_ble_eq_true rfl⟩ rfl (Nat.le_of_ble_eq_true rfl) ⟨by decide, by decide⟩ dL_isTick_1083) hW (fun H locs hW => ?_)
                    refine lv_aload_n F.1 F.2.1 dL_isTick_1086 rfl (lv_at hl 3 rfl) ?_
                    refine lv_iload F.1 F.2.1 dL_isTick_1087 (lv_at hl 0 rfl) ?_
                    refine jiald F hT (hW.foc 13) j (o13 0 (k := 12) (by omega)) (by omega) (by decide) rfl rfl dL_isTick_1089 ?_
                    refine lv_icmp_ne (tgt := 1166) F.1 F.2.1 dL_isTick_1090 (by decide) (fun h10 => ?_) (fun h10 => ?_)
                    · exact absurd (hG5 j (by omega)) h10
                    · refine lv_aload_n F.1 F.2.1 dL_isTick_1093 rfl (lv_at hl 3 rfl) ?_
                      refine lv_iload F.1 F.2.1 dL_isTick_1094 (lv_at hl 0 rfl) ?_
                      refine jiald F hT (hW.foc 13) j (o13 0 (k := 12) (by omega)) (by omega) (by decide) rfl rfl dL_isTick_1096 ?_
                      have hJ13 : ∀ (H : Heap) (locs : List Loc) (ls : Array Slot), Wd E s H locs S2 → lv_has ls 27 [(24, .int (nI j)), (0, .ref (ea E 11 0)), (1, .int (nI n)), (2, .ref (ea E 13 0)), (3, .ref (ea E 13 1)), (4, .ref (ea E 13 2)), (5, .ref (ea E 13 3)), (6, .ref (ea E 13 4)), (7, .ref (ea E 13 5)), (8, .ref (ea E 13 6)), (9, .ref (ea E 13 7)), (10, .ref (ea E 13 8)), (11, .ref (ea E 13 9)), (12, .ref (ea E 13 10)), (13, .ref (ea E 13 11)), (14, .ref (ea E 13 12)), (15, .ref (ea E 13 13)), (16, .ref (ea E 13 14)), (17, .int (nI d)), (18, .int u18), (19, .int u19), (20, .int u20), (21, .int u21), (23, .ref (ea E 13 15))] → W p l e (rmC 6 136 16 177) s m args below meth c H locs 16 177 Q (F0 m 1115 ls []) := by
                        intro H locs ls hW hl
                        refine lv_aload_n F.1 F.2.1 dL_isTick_1115 rfl (lv_at hl 1 rfl) ?_
                        refine lv_iload F.1 F.2.1 dL_isTick_1116 (lv_at hl 0 rfl) ?_
                        refine lv_bipush (v := 8) F.1 F.2.1 dL_isTick_1118 (by decide) ?_
                        refine jcir (jrunV (As := [.int (nI j), .int 8]) (rest := []) F hT hW yc_X6_ofLine yv_X6_ofLine ml_L_8 oH0 (by decide) rfl (r_ofLine l E S2 rfl hc2 (nI j) 8) rfl hl.1 ⟨Nat.le_of_ble_eq_true rfl, Nat.le_of_ble_eq_true rfl⟩ rfl (Nat.le_of_ble_eq_true rfl) ⟨by decide, by decide⟩ dL_isTick_1120) hW (fun H locs hW => ?_)
                        refine lv_aload F.1 F.2.1 dL_isTick_1123 (lv_at hl 6 rfl) ?_
                        refine lv_iload F.1 F.2.1 dL_isTick_1125 (lv_at hl 0 rfl) ?_
                        refine jiald F hT (hW.foc 13) j (o13 3 (k := 12) (by omega)) (by omega) (by decide) rfl rfl dL_isTick_1127 ?_
                        refine lv_icmp_ne (tgt := 1166) F.1 F.2.1 dL_isTick_1128 (by decide) (fun h14 => ?_) (fun h14 => ?_)
                        · exact absurd (hG8 j (by omega)) h14
                        · refine lv_aload_n F.1 F.2.1 dL_isTick_1131 rfl (lv_at hl 1 rfl) ?_
                          refine lv_iload F.1 F.2.1 dL_isTick_1132 (lv_at hl 0 rfl) ?_
                          refine lv_bipush (v := 9) F.1 F.2.1 dL_isTick_1134 (by decide) ?_
                          refine jcir (jrunV (As := [.int (nI j), .int 9]) (rest := []) F hT hW yc_X6_ofLine yv_X6_ofLine ml_L_8 oH0 (by decide) rfl (r_ofLine l E S2 rfl hc2 (nI j) 9) rfl hl.1 ⟨Nat.le_of_ble_eq_true rfl, Nat.le_of_ble_eq_true rfl⟩ rfl (Nat.le_of_ble_eq_true rfl) ⟨by decide, by decide⟩ dL_isTick_1136) hW (fun H locs hW => ?_)
                          refine lv_aload F.1 F.2.1 dL_isTick_1139 (lv_at hl 5 rfl) ?_
                          refine lv_iload F.1 F.2.1 dL_isTick_1141 (lv_at hl 0 rfl) ?_
                          refine jiald F hT (hW.foc 13) j (o13 2 (k := 12) (by omega)) (by omega) (by decide) rfl rfl dL_isTick_1143 ?_
                          refine lv_icmp_ne (tgt := 1166) F.1 F.2.1 dL_isTick_1144 (by decide) (fun h15 => ?_) (fun h15 => ?_)
                          · exact absurd (hG9 j (by omega)) h15
                          · refine lv_aload_n F.1 F.2.1 dL_isTick_1147 rfl (lv_at hl 1 rfl) ?_
                            refine lv_iload F.1 F.2.1 dL_isTick_1148 (lv_at hl 0 rfl) ?_
                            refine lv_iconst (v := 4) F.1 F.2.1 dL_isTick_1150 (by decide) ?_
                            refine jcir (jrunV (As := [.int (nI j), .int 4]) (rest := []) F hT hW yc_X6_ofLine yv_X6_ofLine ml_L_8 oH0 (by decide) rfl (r_ofLine l E S2 rfl hc2 (nI j) 4) rfl hl.1 ⟨Nat.le_of_ble_eq_true rfl, Nat.le_of_ble_eq_true rfl⟩ rfl (Nat.le_of_ble_eq_true rfl) ⟨by decide, by decide⟩ dL_isTick_1151) hW (fun H locs hW => ?_)
                            refine lv_aload F.1 F.2.1 dL_isTick_1154 (lv_at hl 23 rfl) ?_
                            refine lv_iload F.1 F.2.1 dL_isTick_1156 (lv_at hl 0 rfl) ?_
                            refine jiald F hT (hW.foc 13) j (o13 15 (k := 12) (by omega)) (by omega) (by decide) rfl rfl dL_isTick_1158 ?_
                            refine lv_icmp_ne (tgt := 1166) F.1 F.2.1 dL_isTick_1159 (by decide) (fun h16 => ?_) (fun h16 => ?_)
                            · exact absurd (hG4 j (by omega)) h16
                            · refine lv_iconst (v := 1) F.1 F.2.1 dL_isTick_1162 (by decide) ?_
                              refine lv_goto (tgt := 1167) F.1 F.2.1 dL_isTick_1163 (by decide) ?_
                              refine lv_istore (lv' := [(25, .int 1), (24, .int (nI j)), (0, .ref (ea E 11 0)), (1, .int (nI n)), (2, .ref (ea E 13 0)), (3, .ref (ea E 13 1)), (4, .ref (ea E 13 2)), (5, .ref (ea E 13 3)), (6, .ref (ea E 13 4)), (7, .ref (ea E 13 5)), (8, .ref (ea E 13 6)), (9, .ref (ea E 13 7)), (10, .ref (ea E 13 8)), (11, .ref (ea E 13 9)), (12, .ref (ea E 13 10)), (13, .ref (ea E 13 11)), (14, .ref (ea E 13 12)), (15, .ref (ea E 13 13)), (16, .ref (ea E 13 14)), (17, .int (nI d)), (18, .int u18), (19, .int u19), (20, .int u20), (21, .int u21), (23, .ref (ea E 13 15))]) F.1 F.2.1 dL_isTick_1167 hl (by decide) rfl (fun ls hl => ?_)
                              refine lv_aload_n F.1 F.2.1 dL_isTick_1169 rfl (lv_at hl 2 rfl) ?_
                              refine lv_iload F.1 F.2.1 dL_isTick_1170 (lv_at hl 1 rfl) ?_
                              refine lv_bipush (v := 10) F.1 F.2.1 dL_isTick_1172 (by decide) ?_
                              refine jcir (jrunV (As := [.int (nI j), .int 10]) (rest := []) F hT hW yc_X6_ofLine yv_X6_ofLine ml_L_8 oH0 (by decide) rfl (r_ofLine l E S2 rfl hc2 (nI j) 10) rfl hl.1 ⟨Nat.le_of_ble_eq_true rfl, Nat.le_of_ble_eq_true rfl⟩ rfl (Nat.le_of_ble_eq_true rfl) ⟨by decide, by decide⟩ dL_isTick_1174) hW (fun H locs hW => ?_)
                              refine lv_aload F.1 F.2.1 dL_isTick_1177 (lv_at hl 8 rfl) ?_
                              refine lv_iload F.1 F.2.1 dL_isTick_1179 (lv_at hl 1 rfl) ?_
                              refine jiald F hT (hW.foc 13) j (o13 4 (k := 12) (by omega)) (by omega) (by decide) rfl rfl dL_isTick_1181 ?_
                              refine lv_icmp_ne (tgt := 1285) F.1 F.2.1 dL_isTick_1182 (by decide) (fun h17 => ?_) (fun h17 => ?_)
                              · exact absurd (hG10 j (by omega)) h17
                              · refine lv_aload_n F.1 F.2.1 dL_isTick_1185 rfl (lv_at hl 2 rfl) ?_
                                refine lv_iload F.1 F.2.1 dL_isTick_1186 (lv_at hl 1 rfl) ?_
                                refine lv_bipush (v := 11) F.1 F.2.1 dL_isTick_1188 (by decide) ?_
                                refine jcir (jrunV (As := [.int (nI j), .int 11]) (rest := []) F hT hW yc_X6_ofLine yv_X6_ofLine ml_L_8 oH0 (by decide) rfl (r_ofLine l E S2 rfl hc2 (nI j) 11) rfl hl.1 ⟨Nat.le_of_ble_eq_true rfl, Nat.le_of_ble_eq_true rfl⟩ rfl (Nat.le_of_ble_eq_true rfl) ⟨by decide, by decide⟩ dL_isTick_1190) hW (fun H locs hW => ?_)
                                refine lv_aload F.1 F.2.1 dL_isTick_1193 (lv_at hl 9 rfl) ?_
                                refine lv_iload F.1 F.2.1 dL_isTick_1195 (lv_at hl 1 rfl) ?_
                                refine jiald F hT (hW.foc 13) j (o13 5 (k := 12) (by omega)) (by omega) (by decide) rfl rfl dL_isTick_1197 ?_
                                refine lv_icmp_ne (tgt := 1285) F.1 F.2.1 dL_isTick_1198 (by decide) (fun h18 => ?_) (fun h18 => ?_)
                                · exact absurd (hG11 j (by omega)) h18
                                · refine lv_aload_n F.1 F.2.1 dL_isTick_1201 rfl (lv_at hl 2 rfl) ?_
                                  refine lv_iload F.1 F.2.1 dL_isTick_1202 (lv_at hl 1 rfl) ?_
                                  refine lv_bipush (v := 12) F.1 F.2.1 dL_isTick_1204 (by decide) ?_
                                  refine jcir (jrunV (As := [.int (nI j), .int 12]) (rest := []) F hT hW yc_X6_ofLine yv_X6_ofLine ml_L_8 oH0 (by decide) rfl (r_ofLine l E S2 rfl hc2 (nI j) 12) rfl hl.1 ⟨Nat.le_of_ble_eq_true rfl, Nat.le_of_ble_eq_true rfl⟩ rfl (Nat.le_of_ble_eq_true rfl) ⟨by decide, by decide⟩ dL_isTick_1206) hW (fun H locs hW => ?_)
                                  refine lv_aload F.1 F.2.1 dL_isTick_1209 (lv_at hl 10 rfl) ?_
                                  refine lv_iload F.1 F.2.1 dL_isTick_1211 (lv_at hl 1 rfl) ?_
                                  refine jiald F hT (hW.foc 13) j (o13 6 (k := 12) (by omega)) (by omega) (by decide) rfl rfl dL_isTick_1213 ?_
                                  refine lv_icmp_ne (tgt := 1285) F.1 F.2.1 dL_isTick_1214 (by decide) (fun h19 => ?_) (fun h19 => ?_)
                                  · exact absurd (hG12 j (by omega)) h19
                                  · refine lv_aload_n F.1 F.2.1 dL_isTick_1217 rfl (lv_at hl 2 rfl) ?_
                                    refine lv_iload F.1 F.2.1 dL_isTick_1218 (lv_at hl 1 rfl) ?_
                                    refine lv_bipush (v := 13) F.1 F.2.1 dL_isTick_1220 (by decide) ?_
                                    refine jcir (jrunV (As := [.int (nI j), .int 13]) (rest := []) F hT hW yc_X6_ofLine yv_X6_ofLine ml_L_8 oH0 (by decide) rfl (r_ofLine l E S2 rfl hc2 (nI j) 13) rfl hl.1 ⟨Nat.le_of_ble_eq_true rfl, Nat.le_of_ble_eq_true rfl⟩ rfl (Nat.le_of_ble_eq_true rfl) ⟨by decide, by decide⟩ dL_isTick_1222) hW (fun H locs hW => ?_)
                                    refine lv_aload F.1 F.2.1 dL_isTick_1225 (lv_at hl 11 rfl) ?_
                                    refine lv_iload F.1 F.2.1 dL_isTick_1227 (lv_at hl 1 rfl) ?_
                                    refine jiald F hT (hW.foc 13) j (o13 7 (k := 12) (by omega)) (by omega) (by decide) rfl rfl dL_isTick_1229 ?_
                                    refine lv_icmp_ne (tgt := 1285) F.1 F.2.1 dL_isTick_1230 (by decide) (fun h20 => ?_) (fun h20 => ?_)
                                    · exact absurd (hG13 j (by omega)) h20
                                    · refine lv_aload_n F.1 F.2.1 dL_isTick_1233 rfl (lv_at hl 2 rfl) ?_
                                      refine lv_iload F.1 F.2.1 dL_isTick_1234 (lv_at hl 1 rfl) ?_
                                      refine lv_bipush (v := 14) F.1 F.2.1 dL_isTick_1236 (by decide) ?_
                                      refine jcir (jrunV (As := [.int (nI j), .int 14]) (rest := []) F hT hW yc_X6_ofLine yv_X6_ofLine ml_L_8 oH0 (by decide) rfl (r_ofLine l E S2 rfl hc2 (nI j) 14) rfl hl.1 ⟨Nat.le_of_ble_eq_true rfl, Nat.le_of_ble_eq_true rfl⟩ rfl (Nat.le_of_ble_eq_true rfl) ⟨by decide, by decide⟩ dL_isTick_1238) hW (fun H locs hW => ?_)
                                      refine lv_aload F.1 F.2.1 dL_isTick_1241 (lv_at hl 12 rfl) ?_
                                      refine lv_iload F.1 F.2.1 dL_isTick_1243 (lv_at hl 1 rfl) ?_
                                      refine jiald F hT (hW.foc 13) j (o13 8 (k := 12) (by omega)) (by omega) (by decide) rfl rfl dL_isTick_1245 ?_
                                      refine lv_icmp_ne (tgt := 1285) F.1 F.2.1 dL_isTick_1246 (by decide) (fun h21 => ?_) (fun h21 => ?_)
                                      · exact absurd (hG14 j (by omega)) h21
                                      · refine lv_aload_n F.1 F.2.1 dL_isTick_1249 rfl (lv_at hl 2 rfl) ?_
                                        refine lv_iload F.1 F.2.1 dL_isTick_1250 (lv_at hl 1 rfl) ?_
                                        refine lv_bipush (v := 15) F.1 F.2.1 dL_isTick_1252 (by decide) ?_
                                        refine jcir (jrunV (As := [.int (nI j), .int 15]) (rest := []) F hT hW yc_X6_ofLine yv_X6_ofLine ml_L_8 oH0 (by decide) rfl (r_ofLine l E S2 rfl hc2 (nI j) 15) rfl hl.1 ⟨Nat.le_of_ble_eq_true rfl, Nat.le_of_ble_eq_true rfl⟩ rfl (Nat.le_of_ble_eq_true rfl) ⟨by decide, by decide⟩ dL_isTick_1254) hW (fun H locs hW => ?_)
                                        refine lv_aload F.1 F.2.1 dL_isTick_1257 (lv_at hl 13 rfl) ?_
                                        refine lv_iload F.1 F.2.1 dL_isTick_1259 (lv_at hl 1 rfl) ?_
                                        refine jiald F hT (hW.foc 13) j (o13 9 (k := 12) (by omega)) (by omega) (by decide) rfl rfl dL_isTick_1261 ?_
                                        refine lv_icmp_ne (tgt := 1285) F.1 F.2.1 dL_isTick_1262 (by decide) (fun h22 => ?_) (fun h22 => ?_)
                                        · exact absurd (hG15 j (by omega)) h22
                                        · refine lv_aload_n F.1 F.2.1 dL_isTick_1265 rfl (lv_at hl 2 rfl) ?_
                                          refine lv_iload F.1 F.2.1 dL_isTick_1266 (lv_at hl 1 rfl) ?_
                                          refine lv_bipush (v := 16) F.1 F.2.1 dL_isTick_1268 (by decide) ?_
                                          refine jcir (jrunV (As := [.int (nI j), .int 16]) (rest := []) F hT hW yc_X6_ofLine yv_X6_ofLine ml_L_8 oH0 (by decide) rfl (r_ofLine l E S2 rfl hc2 (nI j) 16) rfl hl.1 ⟨Nat.le_of_ble_eq_true rfl, Nat.le_of_ble_eq_true rfl⟩ rfl (Nat.le_of_ble_eq_true rfl) ⟨by decide, by decide⟩ dL_isTick_1270) hW (fun H locs hW => ?_)
                                          refine lv_aload F.1 F.2.1 dL_isTick_1273 (lv_at hl 14 rfl) ?_
                                          refine lv_iload F.1 F.2.1 dL_isTick_1275 (lv_at hl 1 rfl) ?_
                                          refine jiald F hT (hW.foc 13) j (o13 10 (k := 12) (by omega)) (by omega) (by decide) rfl rfl dL_isTick_1277 ?_
                                          refine lv_icmp_ne (tgt := 1285) F.1 F.2.1 dL_isTick_1278 (by decide) (fun h23 => ?_) (fun h23 => ?_)
                                          · exact absurd (hG16 j (by omega)) h23
                                          · refine lv_iconst (v := 1) F.1 F.2.1 dL_isTick_1281 (by decide) ?_
                                            refine lv_goto (tgt := 1286) F.1 F.2.1 dL_isTick_1282 (by decide) ?_
                                            refine lv_istore (lv' := [(26, .int 1), (25, .int 1), (24, .int (nI j)), (0, .ref (ea E 11 0)), (1, .int (nI n)), (2, .ref (ea E 13 0)), (3, .ref (ea E 13 1)), (4, .ref (ea E 13 2)), (5, .ref (ea E 13 3)), (6, .ref (ea E 13 4)), (7, .ref (ea E 13 5)), (8, .ref (ea E 13 6)), (9, .ref (ea E 13 7)), (10, .ref (ea E 13 8)), (11, .ref (ea E 13 9)), (12, .ref (ea E 13 10)), (13, .ref (ea E 13 11)), (14, .ref (ea E 13 12)), (15, .ref (ea E 13 13)), (16, .ref (ea E 13 14)), (17, .int (nI d)), (18, .int u18), (19, .int u19), (20, .int u20), (21, .int u21), (23, .ref (ea E 13 15))]) F.1 F.2.1 dL_isTick_1286 hl (by decide) rfl (fun ls hl => ?_)
                                            refine lv_iload F.1 F.2.1 dL_isTick_1288 (lv_at hl 1 rfl) ?_
                                            refine lv_if_eq (tgt := 1298) F.1 F.2.1 dL_isTick_1290 (by decide) (fun h24 => ?_) (fun h24 => ?_)
                                            · exact absurd h24 (by decide)
                                            · refine lv_iload F.1 F.2.1 dL_isTick_1293 (lv_at hl 0 rfl) ?_
                                              refine lv_if_ne (tgt := 1300) F.1 F.2.1 dL_isTick_1295 (by decide) (fun h25 => ?_) (fun h25 => ?_)
                                              · refine lv_iinc (v := nI (j + 1)) (lv' := [(24, .int (nI (j + 1))), (26, .int 1), (25, .int 1), (0, .ref (ea E 11 0)), (1, .int (nI n)), (2, .ref (ea E 13 0)), (3, .ref (ea E 13 1)), (4, .ref (ea E 13 2)), (5, .ref (ea E 13 3)), (6, .ref (ea E 13 4)), (7, .ref (ea E 13 5)), (8, .ref (ea E 13 6)), (9, .ref (ea E 13 7)), (10, .ref (ea E 13 8)), (11, .ref (ea E 13 9)), (12, .ref (ea E 13 10)), (13, .ref (ea E 13 11)), (14, .ref (ea E 13 12)), (15, .ref (ea E 13 13)), (16, .ref (ea E 13 14)), (17, .int (nI d)), (18, .int u18), (19, .int u19), (20, .int u20), (21, .int u21), (23, .ref (ea E 13 15))]) F.1 F.2.1 dL_isTick_1300 hl (k := 2) rfl (ia rfl rfl) (by decide) rfl (fun ls hl => ?_)
                                                refine lv_goto (tgt := 1073) F.1 F.2.1 dL_isTick_1303 (by decide) ?_
                                                exact ih (j + 1) _ _ _ (by omega) trivial hW (lv_sub hl [0, 3, 4, 5, 6, 7, 8, 9, 10, 11, 12, 13, 14, 15, 16, 17, 18, 19, 20, 21, 22, 23, 24, 25] rfl)
                                              · exact absurd h25 (by decide)
                      refine lv_if_eq (tgt := 1115) F.1 F.2.1 dL_isTick_1097 (by decide) (fun h11 => ?_) (fun h11 => ?_)
                      · exact hJ13 _ _ _ hW (lv_sub hl [0, 1, 2, 3, 4, 5, 6, 7, 8, 9, 10, 11, 12, 13, 14, 15, 16, 17, 18, 19, 20, 21, 22, 23] rfl)
                      · refine lv_aload_n F.1 F.2.1 dL_isTick_1100 rfl (lv_at hl 1 rfl) ?_
                        refine lv_iload F.1 F.2.1 dL_isTick_1101 (lv_at hl 0 rfl) ?_
                        refine lv_bipush (v := 6) F.1 F.2.1 dL_isTick_1103 (by decide) ?_
                        refine jcir (jrunV (As := [.int (nI j), .int 6]) (rest := []) F hT hW yc_X6_ofLine yv_X6_ofLine ml_L_8 oH0 (by decide) rfl (r_ofLine l E S2 rfl hc2 (nI j) 6) rfl hl.1 ⟨Nat.le_of_ble_eq_true rfl, Nat.le_of_ble_eq_true rfl⟩ rfl (Nat.le_of_ble_eq_true rfl) ⟨by decide, by decide⟩ dL_isTick_1105) hW (fun H locs hW => ?_)
                        refine lv_aload_n F.1 F.2.1 dL_isTick_1108 rfl (lv_at hl 4 rfl) ?_
                        refine lv_iload F.1 F.2.1 dL_isTick_1109 (lv_at hl 0 rfl) ?_
                        refine jiald F hT (hW.foc 13) j (o13 1 (k := 12) (by omega)) (by omega) (by decide) rfl rfl dL_isTick_1111 ?_
                        refine lv_icmp_ne (tgt := 1166) F.1 F.2.1 dL_isTick_1112 (by decide) (fun h12 => ?_) (fun h12 => ?_)
                        · exact absurd (hG6 j (by omega) (by assumption)) h12
                        · exact hJ13 _ _ _ hW (lv_sub hl [0, 1, 2, 3, 4, 5, 6, 7, 8, 9, 10, 11, 12, 13, 14, 15, 16, 17, 18, 19, 20, 21, 22, 23] rfl)
              exact hL9 n 0 _ _ _ (by omega) trivial hW (lv_sub hl [0, 1, 2, 3, 4, 5, 6, 7, 8, 9, 10, 11, 12, 13, 14, 15, 16, 17, 18, 19, 20, 21, 22, 23] rfl)
            · exact absurd (hF9) h8
