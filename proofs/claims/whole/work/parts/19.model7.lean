/-! the reference: bound, load -/
theorem l_i2l {x : Int32} {b : Nat} (h : Bn x b) (hb : b < 2 ^ 31) : x.toInt64.toInt = (cn x : Int) := by
  rw [Int32.toInt_toInt64, h.1, nI_toInt (Nat.lt_of_le_of_lt h.2 hb)]
  rw [← h.1]
theorem l_nz {x : Int64} {P : Nat} (h : x.toInt = (P : Int)) (h0 : 0 < P) : ¬ x = 0 := fun e => by
  rw [e] at h
  have e0 : (0 : Int64).toInt = 0 := by decide
  omega
theorem l_mul {x y : Int64} {P Q : Nat} (hx : x.toInt = (P : Int)) (hy : y.toInt = (Q : Int)) (hm : P * Q < 2 ^ 63) : (x * y).toInt = ((P * Q : Nat) : Int) := by
  rw [Int64.toInt_mul, hx, hy]
  rw [← Int.natCast_mul]
  rw [Int.bmod_eq_of_le (by omega) (by omega)]

def q_X7_bound_14 (S : Sv) (ln : Int32) (j : Nat) (σ : Int32) : Int32 :=
  let v3 : Int32 := σ
  let x5 : Int32 := p_X7_of S j 0
  let x6 : Int32 := p_X7_of S (cn ln) 0
  let v11 : Int32 := (if x6 ≤ x5 then v3 else (let x8 : Int32 := p_X7_costOf S j; (if x8 ≤ v3 then v3 else (let x10 : Int32 := p_X7_costOf S j; x10))))
  v11
def q_X7_bound_88 (S : Sv) (ln : Int32) (j : Nat) (i : Nat) (σ : Int32) : Int32 :=
  let v8 : Int32 := σ
  let v14 : Int32 := (if (S 1 (260 + 3 * i)) = ln then 0 else (let x11 : Int32 := p_X7_of S (cn (S 1 (260 + 3 * i))) 0; (let x12 : Int32 := p_X7_of S (cn ln) 0; (if x11 < x12 then 0 else 1))))
  let v18 : Int32 := (if v14 = 0 then 0 else (let x17 : Int32 := p_X7_costOf S (cn (S 1 (260 + 3 * i))); ((((nI j) + (S 1 (260 + 3 * i + 1))) - 1) / (S 1 (260 + 3 * i + 1))) * x17))
  v8 + v18
def q_X7_bound_67 (S : Sv) (ln : Int32) (v3 : Int32) : Nat → Nat → Int32
  | 0, j =>
    ((-6) : Int32)
  | fu + 1, j =>
    let x7 : Int32 := p_X7_costOf S (cn ln)
    let v8 : Int32 := (itN (q_X7_bound_88 S ln j) (cn (S 1 9)) (v3 + x7))
    if v8 = (nI j) then
      (nI j : Int32)
    else
      q_X7_bound_67 S ln v3 fu (j + 1) 
def p_X7_bound (S : Sv) (ln : Int32) : Int32 :=
  let x1 : Int32 := p_X7_isLine S ln
  if x1 = 0 then
    ((-1) : Int32)
  else
    let v3 : Int32 := (itN (q_X7_bound_14 S ln) (cn (S 1 8)) (0))
    q_X7_bound_67 S ln v3 3000 1 

set_option maxHeartbeats 4000000 in
set_option maxRecDepth 100000 in
theorem c_X7_bound (l : Launch) (E : mE) (μ : Mu) (S : Sv) (ln : Int32) (hn : Bn (S 1 8) 12) (ht : Bn (S 1 9) 6) (hq : ∀ q, q < cn (S 1 9) → Bn (S 1 (260 + 3 * q)) 11) (hpz : ∀ q, q < cn (S 1 9) → Bn (S 1 (260 + 3 * q + 1)) 200 ∧ 0 < cn (S 1 (260 + 3 * q + 1))) : CtI l E yX7_bound cX7_bound 7 (some .int) 2 43 [.ref (ea E 13 0), .int ln] (fo μ 13 S) (fun x μ' => x = p_X7_bound S ln ∧ μ' = (fo μ 13 S)) := by
  refine jMet (by decide +kernel) (Nat.le_of_ble_eq_true rfl) ?_
  intro p e s m below meth c ls F hT hr0 hlk hW hl
  have F : CallFix p m c cX7_bound 7 s _ TB RX7 := F
  have hl : lv_has ls 7 [(0, .ref (ea E 13 0)), (1, .int ln)] := hl
  refine lv_aload_n F.1 F.2.1 dX7_bound_0 rfl (lv_at hl 0 rfl) ?_
  refine lv_iload_n F.1 F.2.1 dX7_bound_1 rfl (lv_at hl 1 rfl) ?_
  refine jcip (jrunV (As := [.int ln]) (rest := []) F hT hW yc_X7_isLine yv_X7_isLine ml_X7_57 oM0 (by decide) rfl (c_X7_isLine l E μ S ln) rfl hl.1 ⟨Nat.le_of_ble_eq_true rfl, Nat.le_of_ble_eq_true rfl⟩ rfl (Nat.le_of_ble_eq_true rfl) ⟨Nat.le_refl _, Nat.le_refl _⟩ dX7_bound_2) hW (fun x1 H locs ex1 hW => ?_)
  refine lv_if_ne (tgt := 10) F.1 F.2.1 dX7_bound_5 (by decide) (fun h2 => ?_) (fun h2 => ?_)
  · obtain ⟨hl1, hl2⟩ := wI hn (by assumption) (by assumption)
    have hn2 := hn.2
    have ht2 := ht.2
    refine lv_iconst (v := 0) F.1 F.2.1 dX7_bound_10 (by decide) ?_
    refine lv_istore_n (lv' := [(2, .int 0), (0, .ref (ea E 13 0)), (1, .int ln)]) F.1 F.2.1 dX7_bound_11 rfl hl (by decide) rfl (fun ls hl => ?_)
    refine lv_iconst (v := 0) F.1 F.2.1 dX7_bound_12 (by decide) ?_
    refine lv_istore_n (lv' := [(3, .int 0), (2, .int 0), (0, .ref (ea E 13 0)), (1, .int ln)]) F.1 F.2.1 dX7_bound_13 rfl hl (by decide) rfl (fun ls hl => ?_)
    have hL4 : ∀ (fu j : Nat) (v3 : Int32) (H : Heap) (locs : List Loc) (ls : Array Slot), j + fu = cn (S 1 8) → (v3) = itN (q_X7_bound_14 S ln) j (0) → Wd E s H locs (fo μ 13 S) → lv_has ls 7 [(3, .int (nI j)), (2, .int v3), (0, .ref (ea E 13 0)), (1, .int ln)] → W p l e (rmO 2 43) s m ([.ref (ea E 13 0), .int ln] : List Value).toArray below meth c H locs 0 0 (MQ below (va_Qi (fun x μ' => x = p_X7_bound S ln ∧ μ' = (fo μ 13 S)) (fun μ' t => MB E μ' t.heap) (AA E)) ([.ref (ea E 13 0), .int ln] : List Value).toArray s 0 0 (AA E)) (F0 m 14 ls []) := by
      intro fu
      induction fu with
      | zero =>
        intro j v3 H locs ls hj hs  hW hl
        obtain rfl : j = cn (S 1 8) := by omega
        have ev3 := hs
        refine lv_iload_n F.1 F.2.1 dX7_bound_14 rfl (lv_at hl 0 rfl) ?_
        refine lv_aload_n F.1 F.2.1 dX7_bound_15 rfl (lv_at hl 2 rfl) ?_
        refine jgetR F hT hW fw_X7_7 oM0 (by decide) rfl dX7_bound_16 ?_
        refine lv_bipush (v := 8) F.1 F.2.1 dX7_bound_19 (by decide) ?_
        refine jiald F hT hW 8 oM1 (by omega) (by decide) (lI 8) rfl dX7_bound_21 ?_
        refine lv_icmp_ge (tgt := 65) F.1 F.2.1 dX7_bound_22 (by decide) (fun h5 => ?_) (fun h5 => ?_)
        · refine lv_iconst (v := 1) F.1 F.2.1 dX7_bound_65 (by decide) ?_
          refine lv_istore_n (lv' := [(3, .int 1), (2, .int v3), (0, .ref (ea E 13 0)), (1, .int ln)]) F.1 F.2.1 dX7_bound_66 rfl hl (by decide) rfl (fun ls hl => ?_)
          have hL6 : ∀ (fu j : Nat) (H : Heap) (locs : List Loc) (ls : Array Slot), j + fu = 3001 → p_X7_bound S ln = q_X7_bound_67 S ln v3 fu j  → Wd E s H locs (fo μ 13 S) → lv_has ls 7 [(3, .int (nI j)), (2, .int v3), (0, .ref (ea E 13 0)), (1, .int ln)] → W p l e (rmO 2 43) s m ([.ref (ea E 13 0), .int ln] : List Value).toArray below meth c H locs 0 0 (MQ below (va_Qi (fun x μ' => x = p_X7_bound S ln ∧ μ' = (fo μ 13 S)) (fun μ' t => MB E μ' t.heap) (AA E)) ([.ref (ea E 13 0), .int ln] : List Value).toArray s 0 0 (AA E)) (F0 m 67 ls []) := by
            intro fu
            induction fu with
            | zero =>
              intro j  H locs ls hj hres  hW hl
              refine lv_iload_n F.1 F.2.1 dX7_bound_67 rfl (lv_at hl 0 rfl) ?_
              refine lv_sipush (v := 3000) F.1 F.2.1 dX7_bound_68 (by decide) ?_
              refine lv_icmp_gt (tgt := 214) F.1 F.2.1 dX7_bound_71 (by decide) (fun h7 => ?_) (fun h7 => ?_)
              · refine lv_bipush (v := (-6)) F.1 F.2.1 dX7_bound_214 (by decide) ?_
                have hq : ((-6) : Int32) = p_X7_bound S ln := by
                  exact (hres).symm
                exact jri F hr0 hlk hW rfl dX7_bound_216 ⟨hq, rfl⟩
              · exact absurd (c_lt (lI 3000) rfl (by omega) (by omega)) h7
            | succ fu ih =>
              intro j  H locs ls hj hres  hW hl
              refine lv_iload_n F.1 F.2.1 dX7_bound_67 rfl (lv_at hl 0 rfl) ?_
              refine lv_sipush (v := 3000) F.1 F.2.1 dX7_bound_68 (by decide) ?_
              refine lv_icmp_gt (tgt := 214) F.1 F.2.1 dX7_bound_71 (by decide) (fun h6 => ?_) (fun h6 => ?_)
              · exact absurd h6 (c_nlt (lI 3000) rfl (by omega) (by omega))
              · refine lv_iload_n F.1 F.2.1 dX7_bound_74 rfl (lv_at hl 1 rfl) ?_
                refine lv_aload_n F.1 F.2.1 dX7_bound_75 rfl (lv_at hl 2 rfl) ?_
                refine lv_iload_n F.1 F.2.1 dX7_bound_76 rfl (lv_at hl 3 rfl) ?_
                refine jcip (jrunV (As := [.int ln]) (rest := [.int v3]) F hT hW yc_X7_costOf yv_X7_costOf ml_X7_120 oM0 (by decide) rfl (c_X7_costOf l E μ S ln (cn ln) hl1 (by first | assumption | omega)) rfl hl.1 ⟨Nat.le_of_ble_eq_true rfl, Nat.le_of_ble_eq_true rfl⟩ rfl (Nat.le_of_ble_eq_true rfl) ⟨Nat.le_refl _, Nat.le_refl _⟩ dX7_bound_77) hW (fun x7 H locs ex7 hW => ?_)
                refine lv_iadd F.1 F.2.1 dX7_bound_80 ?_
                refine lv_istore (lv' := [(4, .int (v3 + x7)), (3, .int (nI j)), (2, .int v3), (0, .ref (ea E 13 0)), (1, .int ln)]) F.1 F.2.1 dX7_bound_81 hl (by decide) rfl (fun ls hl => ?_)
                refine lv_sipush (v := 260) F.1 F.2.1 dX7_bound_83 (by decide) ?_
                refine lv_istore (lv' := [(5, .int 260), (4, .int (v3 + x7)), (3, .int (nI j)), (2, .int v3), (0, .ref (ea E 13 0)), (1, .int ln)]) F.1 F.2.1 dX7_bound_86 hl (by decide) rfl (fun ls hl => ?_)
                have hL9 : ∀ (fu i : Nat) (v8 : Int32) (H : Heap) (locs : List Loc) (ls : Array Slot), i + fu = cn (S 1 9) → (v8) = itN (q_X7_bound_88 S ln j) i (v3 + x7) → Wd E s H locs (fo μ 13 S) → lv_has ls 7 [(5, .int (nI (260 + 3 * i))), (4, .int v8), (3, .int (nI j)), (2, .int v3), (0, .ref (ea E 13 0)), (1, .int ln)] → W p l e (rmO 2 43) s m ([.ref (ea E 13 0), .int ln] : List Value).toArray below meth c H locs 0 0 (MQ below (va_Qi (fun x μ' => x = p_X7_bound S ln ∧ μ' = (fo μ 13 S)) (fun μ' t => MB E μ' t.heap) (AA E)) ([.ref (ea E 13 0), .int ln] : List Value).toArray s 0 0 (AA E)) (F0 m 88 ls []) := by
                  intro fu
                  induction fu with
                  | zero =>
                    intro i v8 H locs ls hj hs  hW hl
                    obtain rfl : i = cn (S 1 9) := by omega
                    have ev8 := hs
                    refine lv_iload F.1 F.2.1 dX7_bound_88 (lv_at hl 0 rfl) ?_
                    refine lv_sipush (v := 260) F.1 F.2.1 dX7_bound_90 (by decide) ?_
                    refine lv_iconst (v := 3) F.1 F.2.1 dX7_bound_93 (by decide) ?_
                    refine lv_aload_n F.1 F.2.1 dX7_bound_94 rfl (lv_at hl 4 rfl) ?_
                    refine jgetR F hT hW fw_X7_7 oM0 (by decide) rfl dX7_bound_95 ?_
                    refine lv_bipush (v := 9) F.1 F.2.1 dX7_bound_98 (by decide) ?_
                    refine jiald F hT hW 9 oM1 (by omega) (by decide) (lI 9) rfl dX7_bound_100 ?_
                    refine lv_imul F.1 F.2.1 dX7_bound_101 ?_
                    refine lv_iadd F.1 F.2.1 dX7_bound_102 ?_
                    refine lv_icmp_ge (tgt := 200) F.1 F.2.1 dX7_bound_103 (by decide) (fun h10 => ?_) (fun h10 => ?_)
                    · refine lv_iload F.1 F.2.1 dX7_bound_200 (lv_at hl 1 rfl) ?_
                      refine lv_iload_n F.1 F.2.1 dX7_bound_202 rfl (lv_at hl 2 rfl) ?_
                      refine lv_icmp_ne (tgt := 208) F.1 F.2.1 dX7_bound_203 (by decide) (fun h11 => ?_) (fun h11 => ?_)
                      · refine lv_iinc (v := nI (j + 1)) (lv' := [(3, .int (nI (j + 1))), (5, .int (nI (260 + 3 * (cn (S 1 9))))), (4, .int v8), (2, .int v3), (0, .ref (ea E 13 0)), (1, .int ln)]) F.1 F.2.1 dX7_bound_208 hl (k := 2) rfl (ia rfl rfl) (by decide) rfl (fun ls hl => ?_)
                        refine lv_goto (tgt := 67) F.1 F.2.1 dX7_bound_211 (by decide) ?_
                        subst ev8
                        subst ex7
                        exact ih (j + 1) _ _ _ (by omega) (hres.trans (if_neg h11)) hW (lv_sub hl [0, 3, 4, 5] rfl)
                      · refine lv_iload_n F.1 F.2.1 dX7_bound_206 rfl (lv_at hl 2 rfl) ?_
                        have hq : (nI j : Int32) = p_X7_bound S ln := by
                          subst ev8
                          subst ex7
                          exact ((hres).trans (if_pos h11)).symm
                        exact jri F hr0 hlk hW rfl dX7_bound_207 ⟨hq, rfl⟩
                    · exact absurd (c_le (ia (lI 260) (im (lI 3) ht.1)) rfl (by omega) (by omega)) h10
                  | succ fu ih =>
                    intro i v8 H locs ls hj hs  hW hl
                    have hl6 := (hq i (by omega)).2
                    refine lv_iload F.1 F.2.1 dX7_bound_88 (lv_at hl 0 rfl) ?_
                    refine lv_sipush (v := 260) F.1 F.2.1 dX7_bound_90 (by decide) ?_
                    refine lv_iconst (v := 3) F.1 F.2.1 dX7_bound_93 (by decide) ?_
                    refine lv_aload_n F.1 F.2.1 dX7_bound_94 rfl (lv_at hl 4 rfl) ?_
                    refine jgetR F hT hW fw_X7_7 oM0 (by decide) rfl dX7_bound_95 ?_
                    refine lv_bipush (v := 9) F.1 F.2.1 dX7_bound_98 (by decide) ?_
                    refine jiald F hT hW 9 oM1 (by omega) (by decide) (lI 9) rfl dX7_bound_100 ?_
                    refine lv_imul F.1 F.2.1 dX7_bound_101 ?_
                    refine lv_iadd F.1 F.2.1 dX7_bound_102 ?_
                    refine lv_icmp_ge (tgt := 200) F.1 F.2.1 dX7_bound_103 (by decide) (fun h9 => ?_) (fun h9 => ?_)
                    · exact absurd h9 (c_nle (ia (lI 260) (im (lI 3) ht.1)) rfl (by omega) (by omega))
                    · refine lv_aload_n F.1 F.2.1 dX7_bound_106 rfl (lv_at hl 4 rfl) ?_
                      refine jgetR F hT hW fw_X7_7 oM0 (by decide) rfl dX7_bound_107 ?_
                      refine lv_iload F.1 F.2.1 dX7_bound_110 (lv_at hl 0 rfl) ?_
                      refine jiald F hT hW (260 + 3 * i) oM1 (by omega) (by decide) rfl rfl dX7_bound_112 ?_
                      refine lv_iload_n F.1 F.2.1 dX7_bound_113 rfl (lv_at hl 5 rfl) ?_
                      have hJ15 : ∀ (v14 : Int32) (H : Heap) (locs : List Loc) (ls : Array Slot), v14 = (if (S 1 (260 + 3 * i)) = ln then 0 else (let x11 : Int32 := p_X7_of S (cn (S 1 (260 + 3 * i))) 0; (let x12 : Int32 := p_X7_of S (cn ln) 0; (if x11 < x12 then 0 else 1)))) → Wd E s H locs (fo μ 13 S) → lv_has ls 7 [(5, .int (nI (260 + 3 * i))), (4, .int v8), (3, .int (nI j)), (2, .int v3), (0, .ref (ea E 13 0)), (1, .int ln)] → W p l e (rmO 2 43) s m ([.ref (ea E 13 0), .int ln] : List Value).toArray below meth c H locs 0 0 (MQ below (va_Qi (fun x μ' => x = p_X7_bound S ln ∧ μ' = (fo μ 13 S)) (fun μ' t => MB E μ' t.heap) (AA E)) ([.ref (ea E 13 0), .int ln] : List Value).toArray s 0 0 (AA E)) (F0 m 143 ls [.int v14]) := by
                        intro v14 H locs ls ev14 hW hl
                        refine lv_istore (lv' := [(6, .int v14), (5, .int (nI (260 + 3 * i))), (4, .int v8), (3, .int (nI j)), (2, .int v3), (0, .ref (ea E 13 0)), (1, .int ln)]) F.1 F.2.1 dX7_bound_143 hl (by decide) rfl (fun ls hl => ?_)
                        refine lv_iload F.1 F.2.1 dX7_bound_145 (lv_at hl 2 rfl) ?_
                        refine lv_iload F.1 F.2.1 dX7_bound_147 (lv_at hl 0 rfl) ?_
                        have hJ19 : ∀ (v18 : Int32) (H : Heap) (locs : List Loc) (ls : Array Slot), v18 = (if v14 = 0 then 0 else (let x17 : Int32 := p_X7_costOf S (cn (S 1 (260 + 3 * i))); ((((nI j) + (S 1 (260 + 3 * i + 1))) - 1) / (S 1 (260 + 3 * i + 1))) * x17)) → Wd E s H locs (fo μ 13 S) → lv_has ls 7 [(6, .int v14), (5, .int (nI (260 + 3 * i))), (4, .int v8), (3, .int (nI j)), (2, .int v3), (0, .ref (ea E 13 0)), (1, .int ln)] → W p l e (rmO 2 43) s m ([.ref (ea E 13 0), .int ln] : List Value).toArray below meth c H locs 0 0 (MQ below (va_Qi (fun x μ' => x = p_X7_bound S ln ∧ μ' = (fo μ 13 S)) (fun μ' t => MB E μ' t.heap) (AA E)) ([.ref (ea E 13 0), .int ln] : List Value).toArray s 0 0 (AA E)) (F0 m 191 ls [.int v18, .int v8]) := by
                          intro v18 H locs ls ev18 hW hl
                          refine lv_iadd F.1 F.2.1 dX7_bound_191 ?_
                          refine lv_istore (lv' := [(4, .int (v8 + v18)), (6, .int v14), (5, .int (nI (260 + 3 * i))), (3, .int (nI j)), (2, .int v3), (0, .ref (ea E 13 0)), (1, .int ln)]) F.1 F.2.1 dX7_bound_192 hl (by decide) rfl (fun ls hl => ?_)
                          refine lv_iinc (v := nI (260 + 3 * i + 3)) (lv' := [(5, .int (nI (260 + 3 * i + 3))), (4, .int (v8 + v18)), (6, .int v14), (3, .int (nI j)), (2, .int v3), (0, .ref (ea E 13 0)), (1, .int ln)]) F.1 F.2.1 dX7_bound_194 hl (k := 2) rfl (ia rfl rfl) (by decide) rfl (fun ls hl => ?_)
                          refine lv_goto (tgt := 88) F.1 F.2.1 dX7_bound_197 (by decide) ?_
                          subst ev18
                          subst ev14
                          exact ih (i + 1) _ _ _ _ (by omega) (by rw [itN_s, ← hs]; exact (rfl).symm) hW (lv_sub hl [0, 1, 3, 4, 5, 6] rfl)
                        refine lv_if_eq (tgt := 190) F.1 F.2.1 dX7_bound_149 (by decide) (fun h16 => ?_) (fun h16 => ?_)
                        · refine lv_iconst (v := 0) F.1 F.2.1 dX7_bound_190 (by decide) ?_
                          exact hJ19 _ _ _ _ (if_pos h16).symm hW (lv_sub hl [0, 1, 2, 3, 4, 5, 6] rfl)
                        · refine lv_iload_n F.1 F.2.1 dX7_bound_152 rfl (lv_at hl 3 rfl) ?_
                          refine lv_aload_n F.1 F.2.1 dX7_bound_153 rfl (lv_at hl 5 rfl) ?_
                          refine jgetR F hT hW fw_X7_7 oM0 (by decide) rfl dX7_bound_154 ?_
                          refine lv_iload F.1 F.2.1 dX7_bound_157 (lv_at hl 1 rfl) ?_
                          refine lv_iconst (v := 1) F.1 F.2.1 dX7_bound_159 (by decide) ?_
                          refine lv_iadd F.1 F.2.1 dX7_bound_160 ?_
                          refine jiald F hT hW (260 + 3 * i + 1) oM1 (by omega) (by decide) (ia rfl (lI 1)) rfl dX7_bound_161 ?_
                          refine lv_iadd F.1 F.2.1 dX7_bound_162 ?_
                          refine lv_iconst (v := 1) F.1 F.2.1 dX7_bound_163 (by decide) ?_
                          refine lv_isub F.1 F.2.1 dX7_bound_164 ?_
                          refine lv_aload_n F.1 F.2.1 dX7_bound_165 rfl (lv_at hl 5 rfl) ?_
                          refine jgetR F hT hW fw_X7_7 oM0 (by decide) rfl dX7_bound_166 ?_
                          refine lv_iload F.1 F.2.1 dX7_bound_169 (lv_at hl 1 rfl) ?_
                          refine lv_iconst (v := 1) F.1 F.2.1 dX7_bound_171 (by decide) ?_
                          refine lv_iadd F.1 F.2.1 dX7_bound_172 ?_
                          refine jiald F hT hW (260 + 3 * i + 1) oM1 (by omega) (by decide) (ia rfl (lI 1)) rfl dX7_bound_173 ?_
                          refine lv_idiv F.1 F.2.1 dX7_bound_174 (fun z => Nat.lt_irrefl 0 (by have h := (hpz i (by omega)).2; rw [z] at h; exact h)) ?_
                          refine lv_aload_n F.1 F.2.1 dX7_bound_175 rfl (lv_at hl 5 rfl) ?_
                          refine lv_aload_n F.1 F.2.1 dX7_bound_176 rfl (lv_at hl 5 rfl) ?_
                          refine jgetR F hT hW fw_X7_7 oM0 (by decide) rfl dX7_bound_177 ?_
                          refine lv_iload F.1 F.2.1 dX7_bound_180 (lv_at hl 1 rfl) ?_
                          refine jiald F hT hW (260 + 3 * i) oM1 (by omega) (by decide) rfl rfl dX7_bound_182 ?_
                          refine jcip (jrunV (As := [.int (S 1 (260 + 3 * i))]) (rest := [.int ((((nI j) + (S 1 (260 + 3 * i + 1))) - 1) / (S 1 (260 + 3 * i + 1))), .int v8]) F hT hW yc_X7_costOf yv_X7_costOf ml_X7_120 oM0 (by decide) rfl (c_X7_costOf l E μ S (S 1 (260 + 3 * i)) (cn (S 1 (260 + 3 * i))) ((hq i (by omega)).1) (by first | assumption | omega)) rfl hl.1 ⟨Nat.le_of_ble_eq_true rfl, Nat.le_of_ble_eq_true rfl⟩ rfl (Nat.le_of_ble_eq_true rfl) ⟨Nat.le_refl _, Nat.le_refl _⟩ dX7_bound_183) hW (fun x17 H locs ex17 hW => ?_)
                          refine lv_imul F.1 F.2.1 dX7_bound_186 ?_
                          refine lv_goto (tgt := 191) F.1 F.2.1 dX7_bound_187 (by decide) ?_
                          subst ex17
                          exact hJ19 _ _ _ _ (if_neg h16).symm hW (lv_sub hl [0, 1, 2, 3, 4, 5, 6] rfl)
                      refine lv_icmp_eq (tgt := 142) F.1 F.2.1 dX7_bound_114 (by decide) (fun h10 => ?_) (fun h10 => ?_)
                      · refine lv_iconst (v := 0) F.1 F.2.1 dX7_bound_142 (by decide) ?_
                        exact hJ15 _ _ _ _ (if_pos h10).symm hW (lv_sub hl [0, 1, 2, 3, 4, 5] rfl)
                      · refine lv_aload_n F.1 F.2.1 dX7_bound_117 rfl (lv_at hl 4 rfl) ?_
                        refine lv_aload_n F.1 F.2.1 dX7_bound_118 rfl (lv_at hl 4 rfl) ?_
                        refine jgetR F hT hW fw_X7_7 oM0 (by decide) rfl dX7_bound_119 ?_
                        refine lv_iload F.1 F.2.1 dX7_bound_122 (lv_at hl 0 rfl) ?_
                        refine jiald F hT hW (260 + 3 * i) oM1 (by omega) (by decide) rfl rfl dX7_bound_124 ?_
                        refine lv_iconst (v := 0) F.1 F.2.1 dX7_bound_125 (by decide) ?_
                        refine jcip (jrunV (As := [.int (S 1 (260 + 3 * i)), .int 0]) (rest := []) F hT hW yc_X7_of yv_X7_of ml_X7_61 oM0 (by decide) rfl (c_X7_of l E μ S (S 1 (260 + 3 * i)) (cn (S 1 (260 + 3 * i))) ((hq i (by omega)).1) 0 0 (lI 0) (by first | assumption | omega) (by first | assumption | omega)) rfl hl.1 ⟨Nat.le_of_ble_eq_true rfl, Nat.le_of_ble_eq_true rfl⟩ rfl (Nat.le_of_ble_eq_true rfl) ⟨Nat.le_refl _, Nat.le_refl _⟩ dX7_bound_126) hW (fun x11 H locs ex11 hW => ?_)
                        refine lv_aload_n F.1 F.2.1 dX7_bound_129 rfl (lv_at hl 4 rfl) ?_
                        refine lv_iload_n F.1 F.2.1 dX7_bound_130 rfl (lv_at hl 5 rfl) ?_
                        refine lv_iconst (v := 0) F.1 F.2.1 dX7_bound_131 (by decide) ?_
                        refine jcip (jrunV (As := [.int ln, .int 0]) (rest := [.int x11]) F hT hW yc_X7_of yv_X7_of ml_X7_61 oM0 (by decide) rfl (c_X7_of l E μ S ln (cn ln) hl1 0 0 (lI 0) (by first | assumption | omega) (by first | assumption | omega)) rfl hl.1 ⟨Nat.le_of_ble_eq_true rfl, Nat.le_of_ble_eq_true rfl⟩ rfl (Nat.le_of_ble_eq_true rfl) ⟨Nat.le_refl _, Nat.le_refl _⟩ dX7_bound_132) hW (fun x12 H locs ex12 hW => ?_)
                        refine lv_icmp_lt (tgt := 142) F.1 F.2.1 dX7_bound_135 (by decide) (fun h13 => ?_) (fun h13 => ?_)
                        · refine lv_iconst (v := 0) F.1 F.2.1 dX7_bound_142 (by decide) ?_
                          subst ex12
                          subst ex11
                          exact hJ15 _ _ _ _ ((if_neg h10).trans (if_pos h13)).symm hW (lv_sub hl [0, 1, 2, 3, 4, 5] rfl)
                        · refine lv_iconst (v := 1) F.1 F.2.1 dX7_bound_138 (by decide) ?_
                          refine lv_goto (tgt := 143) F.1 F.2.1 dX7_bound_139 (by decide) ?_
                          subst ex12
                          subst ex11
                          exact hJ15 _ _ _ _ ((if_neg h10).trans (if_neg h13)).symm hW (lv_sub hl [0, 1, 2, 3, 4, 5] rfl)
                exact hL9 (cn (S 1 9)) 0 (v3 + x7) _ _ _ (by omega) rfl hW (lv_sub hl [0, 1, 2, 3, 4, 5] rfl)
          exact hL6 3000 1 _ _ _ (by omega) (by subst ev3; subst ex1; exact if_neg h2) hW (lv_sub hl [0, 1, 2, 3] rfl)
        · exact absurd (c_le hn.1 rfl (by omega) (by omega)) h5
      | succ fu ih =>
        intro j v3 H locs ls hj hs  hW hl
        refine lv_iload_n F.1 F.2.1 dX7_bound_14 rfl (lv_at hl 0 rfl) ?_
        refine lv_aload_n F.1 F.2.1 dX7_bound_15 rfl (lv_at hl 2 rfl) ?_
        refine jgetR F hT hW fw_X7_7 oM0 (by decide) rfl dX7_bound_16 ?_
        refine lv_bipush (v := 8) F.1 F.2.1 dX7_bound_19 (by decide) ?_
        refine jiald F hT hW 8 oM1 (by omega) (by decide) (lI 8) rfl dX7_bound_21 ?_
        refine lv_icmp_ge (tgt := 65) F.1 F.2.1 dX7_bound_22 (by decide) (fun h4 => ?_) (fun h4 => ?_)
        · exact absurd h4 (c_nle hn.1 rfl (by omega) (by omega))
        · refine lv_aload_n F.1 F.2.1 dX7_bound_25 rfl (lv_at hl 2 rfl) ?_
          refine lv_iload_n F.1 F.2.1 dX7_bound_26 rfl (lv_at hl 0 rfl) ?_
          refine lv_iconst (v := 0) F.1 F.2.1 dX7_bound_27 (by decide) ?_
          refine jcip (jrunV (As := [.int (nI j), .int 0]) (rest := []) F hT hW yc_X7_of yv_X7_of ml_X7_61 oM0 (by decide) rfl (c_X7_of l E μ S (nI j) j rfl 0 0 (lI 0) (by first | assumption | omega) (by first | assumption | omega)) rfl hl.1 ⟨Nat.le_of_ble_eq_true rfl, Nat.le_of_ble_eq_true rfl⟩ rfl (Nat.le_of_ble_eq_true rfl) ⟨Nat.le_refl _, Nat.le_refl _⟩ dX7_bound_28) hW (fun x5 H locs ex5 hW => ?_)
          refine lv_aload_n F.1 F.2.1 dX7_bound_31 rfl (lv_at hl 2 rfl) ?_
          refine lv_iload_n F.1 F.2.1 dX7_bound_32 rfl (lv_at hl 3 rfl) ?_
          refine lv_iconst (v := 0) F.1 F.2.1 dX7_bound_33 (by decide) ?_
          refine jcip (jrunV (As := [.int ln, .int 0]) (rest := [.int x5]) F hT hW yc_X7_of yv_X7_of ml_X7_61 oM0 (by decide) rfl (c_X7_of l E μ S ln (cn ln) hl1 0 0 (lI 0) (by first | assumption | omega) (by first | assumption | omega)) rfl hl.1 ⟨Nat.le_of_ble_eq_true rfl, Nat.le_of_ble_eq_true rfl⟩ rfl (Nat.le_of_ble_eq_true rfl) ⟨Nat.le_refl _, Nat.le_refl _⟩ dX7_bound_34) hW (fun x6 H locs ex6 hW => ?_)
          have hJ12 : ∀ (v11 : Int32) (H : Heap) (locs : List Loc) (ls : Array Slot), v11 = (if x6 ≤ x5 then v3 else (let x8 : Int32 := p_X7_costOf S j; (if x8 ≤ v3 then v3 else (let x10 : Int32 := p_X7_costOf S j; x10)))) → Wd E s H locs (fo μ 13 S) → lv_has ls 7 [(3, .int (nI j)), (2, .int v3), (0, .ref (ea E 13 0)), (1, .int ln)] → W p l e (rmO 2 43) s m ([.ref (ea E 13 0), .int ln] : List Value).toArray below meth c H locs 0 0 (MQ below (va_Qi (fun x μ' => x = p_X7_bound S ln ∧ μ' = (fo μ 13 S)) (fun μ' t => MB E μ' t.heap) (AA E)) ([.ref (ea E 13 0), .int ln] : List Value).toArray s 0 0 (AA E)) (F0 m 58 ls [.int v11]) := by
            intro v11 H locs ls ev11 hW hl
            refine lv_istore_n (lv' := [(2, .int v11), (3, .int (nI j)), (0, .ref (ea E 13 0)), (1, .int ln)]) F.1 F.2.1 dX7_bound_58 rfl hl (by decide) rfl (fun ls hl => ?_)
            refine lv_iinc (v := nI (j + 1)) (lv' := [(3, .int (nI (j + 1))), (2, .int v11), (0, .ref (ea E 13 0)), (1, .int ln)]) F.1 F.2.1 dX7_bound_59 hl (k := 1) rfl (ia rfl rfl) (by decide) rfl (fun ls hl => ?_)
            refine lv_goto (tgt := 14) F.1 F.2.1 dX7_bound_62 (by decide) ?_
            subst ev11
            subst ex6
            subst ex5
            exact ih (j + 1) _ _ _ _ (by omega) (by rw [itN_s, ← hs]; exact (rfl).symm) hW (lv_sub hl [0, 1, 2, 3] rfl)
          refine lv_icmp_ge (tgt := 57) F.1 F.2.1 dX7_bound_37 (by decide) (fun h7 => ?_) (fun h7 => ?_)
          · refine lv_iload_n F.1 F.2.1 dX7_bound_57 rfl (lv_at hl 1 rfl) ?_
            exact hJ12 _ _ _ _ (if_pos h7).symm hW (lv_sub hl [0, 1, 2, 3] rfl)
          · refine lv_aload_n F.1 F.2.1 dX7_bound_40 rfl (lv_at hl 2 rfl) ?_
            refine lv_iload_n F.1 F.2.1 dX7_bound_41 rfl (lv_at hl 0 rfl) ?_
            refine jcip (jrunV (As := [.int (nI j)]) (rest := []) F hT hW yc_X7_costOf yv_X7_costOf ml_X7_120 oM0 (by decide) rfl (c_X7_costOf l E μ S (nI j) j rfl (by first | assumption | omega)) rfl hl.1 ⟨Nat.le_of_ble_eq_true rfl, Nat.le_of_ble_eq_true rfl⟩ rfl (Nat.le_of_ble_eq_true rfl) ⟨Nat.le_refl _, Nat.le_refl _⟩ dX7_bound_42) hW (fun x8 H locs ex8 hW => ?_)
            refine lv_iload_n F.1 F.2.1 dX7_bound_45 rfl (lv_at hl 1 rfl) ?_
            refine lv_icmp_le (tgt := 57) F.1 F.2.1 dX7_bound_46 (by decide) (fun h9 => ?_) (fun h9 => ?_)
            · refine lv_iload_n F.1 F.2.1 dX7_bound_57 rfl (lv_at hl 1 rfl) ?_
              subst ex8
              exact hJ12 _ _ _ _ ((if_neg h7).trans (if_pos h9)).symm hW (lv_sub hl [0, 1, 2, 3] rfl)
            · refine lv_aload_n F.1 F.2.1 dX7_bound_49 rfl (lv_at hl 2 rfl) ?_
              refine lv_iload_n F.1 F.2.1 dX7_bound_50 rfl (lv_at hl 0 rfl) ?_
              refine jcip (jrunV (As := [.int (nI j)]) (rest := []) F hT hW yc_X7_costOf yv_X7_costOf ml_X7_120 oM0 (by decide) rfl (c_X7_costOf l E μ S (nI j) j rfl (by first | assumption | omega)) rfl hl.1 ⟨Nat.le_of_ble_eq_true rfl, Nat.le_of_ble_eq_true rfl⟩ rfl (Nat.le_of_ble_eq_true rfl) ⟨Nat.le_refl _, Nat.le_refl _⟩ dX7_bound_51) hW (fun x10 H locs ex10 hW => ?_)
              refine lv_goto (tgt := 58) F.1 F.2.1 dX7_bound_54 (by decide) ?_
              subst ex10
              subst ex8
              exact hJ12 _ _ _ _ ((if_neg h7).trans (if_neg h9)).symm hW (lv_sub hl [0, 1, 2, 3] rfl)
    exact hL4 (cn (S 1 8)) 0 0 _ _ _ (by omega) rfl hW (lv_sub hl [0, 1, 2, 3] rfl)
  · refine lv_iconst (v := (-1)) F.1 F.2.1 dX7_bound_8 (by decide) ?_
    have hq : ((-1) : Int32) = p_X7_bound S ln := by
      subst ex1
      exact (if_pos h2).symm
    exact jri F hr0 hlk hW rfl dX7_bound_9 ⟨hq, rfl⟩

def q_X7_load_9 (S : Sv) (i : Nat) (σ : Int64 × Int32) : Int64 × Int32 :=
  let v1 : Int64 := σ.1
  let v2 : Int32 := σ.2
  let x4 : Int32 := p_X7_costOf S (cn (S 1 (260 + 3 * i)))
  (v1 * ((S 1 (260 + 3 * i + 1)).toInt64), v2 + ((1000 * x4) / (S 1 (260 + 3 * i + 1))))
def q_X7_load_82 (S : Sv) (v1 : Int64) (i : Nat) (σ : Int64) : Int64 :=
  let v5 : Int64 := σ
  let x7 : Int32 := p_X7_costOf S (cn (S 1 (260 + 3 * i)))
  v5 + ((((1000 * x7) - (1000 * x7) / (S 1 (260 + 3 * i + 1)) * (S 1 (260 + 3 * i + 1))).toInt64) * (v1 / ((S 1 (260 + 3 * i + 1)).toInt64)))
def p_X7_load (S : Sv) : Int32 :=
  let v1 : Int64 := (itN (q_X7_load_9 S) (cn (S 1 9)) (1, 0)).1
  let v2 : Int32 := (itN (q_X7_load_9 S) (cn (S 1 9)) (1, 0)).2
  let v5 : Int64 := (itN (q_X7_load_82 S v1) (cn (S 1 9)) (0))
  (v2 + ((((v5 + v1) - 1) / v1).toInt32) : Int32)

theorem ld_p {S : Sv} (ht : cn (S 1 9) ≤ 6) (hpz : ∀ q, q < cn (S 1 9) → Bn (S 1 (260 + 3 * q + 1)) 200 ∧ 0 < cn (S 1 (260 + 3 * q + 1))) : ∀ n, n ≤ cn (S 1 9) → ∃ P : Nat, (itN (q_X7_load_9 S) n (1, 0)).1.toInt = (P : Int) ∧ 0 < P ∧ P ≤ 200 ^ n := by
  intro n
  induction n with
  | zero => intro _; exact ⟨1, (by show (1 : Int64).toInt = ((1 : Nat) : Int); decide), by decide, by decide⟩
  | succ n ih =>
    intro hn
    obtain ⟨P, h1, h2, h3⟩ := ih (by omega)
    obtain ⟨hb, h0⟩ := hpz n (by omega)
    have h4 : P * cn (S 1 (260 + 3 * n + 1)) ≤ 200 ^ n * 200 := Nat.mul_le_mul h3 hb.2
    have h5 : 200 ^ (n + 1) ≤ 200 ^ 6 := Nat.pow_le_pow_right (by decide) (by omega)
    rw [← Nat.pow_succ] at h4
    refine ⟨P * cn (S 1 (260 + 3 * n + 1)), ?_, Nat.mul_pos h2 h0, h4⟩
    rw [itN_s]
    exact l_mul h1 (l_i2l hb (by decide)) (Nat.lt_of_le_of_lt (Nat.le_trans h4 h5) (by decide))

set_option maxHeartbeats 4000000 in
set_option maxRecDepth 100000 in
theorem c_X7_load (l : Launch) (E : mE) (μ : Mu) (S : Sv) (ht : Bn (S 1 9) 6) (hq : ∀ q, q < cn (S 1 9) → Bn (S 1 (260 + 3 * q)) 11) (hpz : ∀ q, q < cn (S 1 9) → Bn (S 1 (260 + 3 * q + 1)) 200 ∧ 0 < cn (S 1 (260 + 3 * q + 1))) : CtI l E yX7_load cX7_load 7 (some .int) 2 43 [.ref (ea E 13 0)] (fo μ 13 S) (fun x μ' => x = p_X7_load S ∧ μ' = (fo μ 13 S)) := by
  refine jMet (by decide +kernel) (Nat.le_of_ble_eq_true rfl) ?_
  intro p e s m below meth c ls F hT hr0 hlk hW hl
  have F : CallFix p m c cX7_load 7 s _ TB RX7 := F
  have hl : lv_has ls 7 [(0, .ref (ea E 13 0))] := hl
  have ht2 := ht.2
  refine lv_iconst (v := 0) F.1 F.2.1 dX7_load_0 (by decide) ?_
  refine lv_istore_n (lv' := [(1, .int 0), (0, .ref (ea E 13 0))]) F.1 F.2.1 dX7_load_1 rfl hl (by decide) rfl (fun ls hl => ?_)
  refine lv_lconst (v := 1) F.1 F.2.1 dX7_load_2 (by decide) ?_
  refine lv_lstore_n (lv' := [(2, .long 1), (1, .int 0), (0, .ref (ea E 13 0))]) F.1 F.2.1 dX7_load_3 rfl hl (by decide) rfl (fun ls hl => ?_)
  refine lv_sipush (v := 260) F.1 F.2.1 dX7_load_4 (by decide) ?_
  refine lv_istore (lv' := [(4, .int 260), (2, .long 1), (1, .int 0), (0, .ref (ea E 13 0))]) F.1 F.2.1 dX7_load_7 hl (by decide) rfl (fun ls hl => ?_)
  have hL3 : ∀ (fu i : Nat) (v1 : Int64) (v2 : Int32) (H : Heap) (locs : List Loc) (ls : Array Slot), i + fu = cn (S 1 9) → (v1, v2) = itN (q_X7_load_9 S) i (1, 0) → Wd E s H locs (fo μ 13 S) → lv_has ls 7 [(4, .int (nI (260 + 3 * i))), (2, .long v1), (1, .int v2), (0, .ref (ea E 13 0))] → W p l e (rmO 2 43) s m ([.ref (ea E 13 0)] : List Value).toArray below meth c H locs 0 0 (MQ below (va_Qi (fun x μ' => x = p_X7_load S ∧ μ' = (fo μ 13 S)) (fun μ' t => MB E μ' t.heap) (AA E)) ([.ref (ea E 13 0)] : List Value).toArray s 0 0 (AA E)) (F0 m 9 ls []) := by
    intro fu
    induction fu with
    | zero =>
      intro i v1 v2 H locs ls hj hs  hW hl
      obtain rfl : i = cn (S 1 9) := by omega
      obtain ⟨ev1, ev2⟩ : v1 = (itN (q_X7_load_9 S) (cn (S 1 9)) (1, 0)).1 ∧ v2 = (itN (q_X7_load_9 S) (cn (S 1 9)) (1, 0)).2 := by rw [← hs]; exact ⟨rfl, rfl⟩
      obtain ⟨P, hP1, hP2, hP3⟩ := ld_p ht2 hpz (cn (S 1 9)) (Nat.le_refl _)
      rw [← ev1] at hP1
      refine lv_iload F.1 F.2.1 dX7_load_9 (lv_at hl 0 rfl) ?_
      refine lv_sipush (v := 260) F.1 F.2.1 dX7_load_11 (by decide) ?_
      refine lv_iconst (v := 3) F.1 F.2.1 dX7_load_14 (by decide) ?_
      refine lv_aload_n F.1 F.2.1 dX7_load_15 rfl (lv_at hl 3 rfl) ?_
      refine jgetR F hT hW fw_X7_7 oM0 (by decide) rfl dX7_load_16 ?_
      refine lv_bipush (v := 9) F.1 F.2.1 dX7_load_19 (by decide) ?_
      refine jiald F hT hW 9 oM1 (by omega) (by decide) (lI 9) rfl dX7_load_21 ?_
      refine lv_imul F.1 F.2.1 dX7_load_22 ?_
      refine lv_iadd F.1 F.2.1 dX7_load_23 ?_
      refine lv_icmp_ge (tgt := 74) F.1 F.2.1 dX7_load_24 (by decide) (fun h4 => ?_) (fun h4 => ?_)
      · refine lv_lconst (v := 0) F.1 F.2.1 dX7_load_74 (by decide) ?_
        refine lv_lstore (lv' := [(4, .long 0), (2, .long v1), (1, .int v2), (0, .ref (ea E 13 0))]) F.1 F.2.1 dX7_load_75 hl (by decide) rfl (fun ls hl => ?_)
        refine lv_sipush (v := 260) F.1 F.2.1 dX7_load_77 (by decide) ?_
        refine lv_istore (lv' := [(6, .int 260), (4, .long 0), (2, .long v1), (1, .int v2), (0, .ref (ea E 13 0))]) F.1 F.2.1 dX7_load_80 hl (by decide) rfl (fun ls hl => ?_)
        have hL6 : ∀ (fu i : Nat) (v5 : Int64) (H : Heap) (locs : List Loc) (ls : Array Slot), i + fu = cn (S 1 9) → (v5) = itN (q_X7_load_82 S v1) i (0) → Wd E s H locs (fo μ 13 S) → lv_has ls 7 [(6, .int (nI (260 + 3 * i))), (4, .long v5), (2, .long v1), (1, .int v2), (0, .ref (ea E 13 0))] → W p l e (rmO 2 43) s m ([.ref (ea E 13 0)] : List Value).toArray below meth c H locs 0 0 (MQ below (va_Qi (fun x μ' => x = p_X7_load S ∧ μ' = (fo μ 13 S)) (fun μ' t => MB E μ' t.heap) (AA E)) ([.ref (ea E 13 0)] : List Value).toArray s 0 0 (AA E)) (F0 m 82 ls []) := by
          intro fu
          induction fu with
          | zero =>
            intro i v5 H locs ls hj hs  hW hl
            obtain rfl : i = cn (S 1 9) := by omega
            have ev5 := hs
            refine lv_iload F.1 F.2.1 dX7_load_82 (lv_at hl 0 rfl) ?_
            refine lv_sipush (v := 260) F.1 F.2.1 dX7_load_84 (by decide) ?_
            refine lv_iconst (v := 3) F.1 F.2.1 dX7_load_87 (by decide) ?_
            refine lv_aload_n F.1 F.2.1 dX7_load_88 rfl (lv_at hl 4 rfl) ?_
            refine jgetR F hT hW fw_X7_7 oM0 (by decide) rfl dX7_load_89 ?_
            refine lv_bipush (v := 9) F.1 F.2.1 dX7_load_92 (by decide) ?_
            refine jiald F hT hW 9 oM1 (by omega) (by decide) (lI 9) rfl dX7_load_94 ?_
            refine lv_imul F.1 F.2.1 dX7_load_95 ?_
            refine lv_iadd F.1 F.2.1 dX7_load_96 ?_
            refine lv_icmp_ge (tgt := 150) F.1 F.2.1 dX7_load_97 (by decide) (fun h7 => ?_) (fun h7 => ?_)
            · refine lv_iload_n F.1 F.2.1 dX7_load_150 rfl (lv_at hl 3 rfl) ?_
              refine lv_lload F.1 F.2.1 dX7_load_151 (lv_at hl 1 rfl) ?_
              refine lv_lload_n F.1 F.2.1 dX7_load_153 rfl (lv_at hl 2 rfl) ?_
              refine lv_ladd F.1 F.2.1 dX7_load_154 ?_
              refine lv_lconst (v := 1) F.1 F.2.1 dX7_load_155 (by decide) ?_
              refine lv_lsub F.1 F.2.1 dX7_load_156 ?_
              refine lv_lload_n F.1 F.2.1 dX7_load_157 rfl (lv_at hl 2 rfl) ?_
              refine lv_ldiv F.1 F.2.1 dX7_load_158 (l_nz hP1 hP2) ?_
              refine lv_l2i F.1 F.2.1 dX7_load_159 rfl ?_
              refine lv_iadd F.1 F.2.1 dX7_load_160 ?_
              have hq : (v2 + ((((v5 + v1) - 1) / v1).toInt32) : Int32) = p_X7_load S := by
                subst ev5
                subst ev2
                subst ev1
                exact (rfl).symm
              exact jri F hr0 hlk hW rfl dX7_load_161 ⟨hq, rfl⟩
            · exact absurd (c_le (ia (lI 260) (im (lI 3) ht.1)) rfl (by omega) (by omega)) h7
          | succ fu ih =>
            intro i v5 H locs ls hj hs  hW hl
            have hl6 := (hq i (by omega)).2
            refine lv_iload F.1 F.2.1 dX7_load_82 (lv_at hl 0 rfl) ?_
            refine lv_sipush (v := 260) F.1 F.2.1 dX7_load_84 (by decide) ?_
            refine lv_iconst (v := 3) F.1 F.2.1 dX7_load_87 (by decide) ?_
            refine lv_aload_n F.1 F.2.1 dX7_load_88 rfl (lv_at hl 4 rfl) ?_
            refine jgetR F hT hW fw_X7_7 oM0 (by decide) rfl dX7_load_89 ?_
            refine lv_bipush (v := 9) F.1 F.2.1 dX7_load_92 (by decide) ?_
            refine jiald F hT hW 9 oM1 (by omega) (by decide) (lI 9) rfl dX7_load_94 ?_
            refine lv_imul F.1 F.2.1 dX7_load_95 ?_
            refine lv_iadd F.1 F.2.1 dX7_load_96 ?_
            refine lv_icmp_ge (tgt := 150) F.1 F.2.1 dX7_load_97 (by decide) (fun h6 => ?_) (fun h6 => ?_)
            · exact absurd h6 (c_nle (ia (lI 260) (im (lI 3) ht.1)) rfl (by omega) (by omega))
            · refine lv_lload F.1 F.2.1 dX7_load_100 (lv_at hl 1 rfl) ?_
              refine lv_sipush (v := 1000) F.1 F.2.1 dX7_load_102 (by decide) ?_
              refine lv_aload_n F.1 F.2.1 dX7_load_105 rfl (lv_at hl 4 rfl) ?_
              refine lv_aload_n F.1 F.2.1 dX7_load_106 rfl (lv_at hl 4 rfl) ?_
              refine jgetR F hT hW fw_X7_7 oM0 (by decide) rfl dX7_load_107 ?_
              refine lv_iload F.1 F.2.1 dX7_load_110 (lv_at hl 0 rfl) ?_
              refine jiald F hT hW (260 + 3 * i) oM1 (by omega) (by decide) rfl rfl dX7_load_112 ?_
              refine jcip (jrunV (As := [.int (S 1 (260 + 3 * i))]) (rest := [.int 1000, .long v5]) F hT hW yc_X7_costOf yv_X7_costOf ml_X7_120 oM0 (by decide) rfl (c_X7_costOf l E μ S (S 1 (260 + 3 * i)) (cn (S 1 (260 + 3 * i))) ((hq i (by omega)).1) (by first | assumption | omega)) rfl hl.1 ⟨Nat.le_of_ble_eq_true rfl, Nat.le_of_ble_eq_true rfl⟩ rfl (Nat.le_of_ble_eq_true rfl) ⟨Nat.le_refl _, Nat.le_refl _⟩ dX7_load_113) hW (fun x7 H locs ex7 hW => ?_)
              refine lv_imul F.1 F.2.1 dX7_load_116 ?_
              refine lv_aload_n F.1 F.2.1 dX7_load_117 rfl (lv_at hl 4 rfl) ?_
              refine jgetR F hT hW fw_X7_7 oM0 (by decide) rfl dX7_load_118 ?_
              refine lv_iload F.1 F.2.1 dX7_load_121 (lv_at hl 0 rfl) ?_
              refine lv_iconst (v := 1) F.1 F.2.1 dX7_load_123 (by decide) ?_
              refine lv_iadd F.1 F.2.1 dX7_load_124 ?_
              refine jiald F hT hW (260 + 3 * i + 1) oM1 (by omega) (by decide) (ia rfl (lI 1)) rfl dX7_load_125 ?_
              refine lv_irem F.1 F.2.1 dX7_load_126 (fun z => Nat.lt_irrefl 0 (by have h := (hpz i (by omega)).2; rw [z] at h; exact h)) ?_
              refine lv_i2l F.1 F.2.1 dX7_load_127 rfl ?_
              refine lv_lload_n F.1 F.2.1 dX7_load_128 rfl (lv_at hl 2 rfl) ?_
              refine lv_aload_n F.1 F.2.1 dX7_load_129 rfl (lv_at hl 4 rfl) ?_
              refine jgetR F hT hW fw_X7_7 oM0 (by decide) rfl dX7_load_130 ?_
              refine lv_iload F.1 F.2.1 dX7_load_133 (lv_at hl 0 rfl) ?_
              refine lv_iconst (v := 1) F.1 F.2.1 dX7_load_135 (by decide) ?_
              refine lv_iadd F.1 F.2.1 dX7_load_136 ?_
              refine jiald F hT hW (260 + 3 * i + 1) oM1 (by omega) (by decide) (ia rfl (lI 1)) rfl dX7_load_137 ?_
              refine lv_i2l F.1 F.2.1 dX7_load_138 rfl ?_
              refine lv_ldiv F.1 F.2.1 dX7_load_139 (l_nz (l_i2l (hpz i (by omega)).1 (by decide)) (hpz i (by omega)).2) ?_
              refine lv_lmul F.1 F.2.1 dX7_load_140 ?_
              refine lv_ladd F.1 F.2.1 dX7_load_141 ?_
              refine lv_lstore (lv' := [(4, .long (v5 + ((((1000 * x7) - (1000 * x7) / (S 1 (260 + 3 * i + 1)) * (S 1 (260 + 3 * i + 1))).toInt64) * (v1 / ((S 1 (260 + 3 * i + 1)).toInt64))))), (6, .int (nI (260 + 3 * i))), (2, .long v1), (1, .int v2), (0, .ref (ea E 13 0))]) F.1 F.2.1 dX7_load_142 hl (by decide) rfl (fun ls hl => ?_)
              refine lv_iinc (v := nI (260 + 3 * i + 3)) (lv' := [(6, .int (nI (260 + 3 * i + 3))), (4, .long (v5 + ((((1000 * x7) - (1000 * x7) / (S 1 (260 + 3 * i + 1)) * (S 1 (260 + 3 * i + 1))).toInt64) * (v1 / ((S 1 (260 + 3 * i + 1)).toInt64))))), (2, .long v1), (1, .int v2), (0, .ref (ea E 13 0))]) F.1 F.2.1 dX7_load_144 hl (k := 1) rfl (ia rfl rfl) (by decide) rfl (fun ls hl => ?_)
              refine lv_goto (tgt := 82) F.1 F.2.1 dX7_load_147 (by decide) ?_
              subst ex7
              exact ih (i + 1) _ _ _ _ (by omega) (by rw [itN_s, ← hs]; exact (rfl).symm) hW (lv_sub hl [0, 1, 2, 3, 4] rfl)
        exact hL6 (cn (S 1 9)) 0 0 _ _ _ (by omega) rfl hW (lv_sub hl [0, 1, 2, 3, 4] rfl)
      · exact absurd (c_le (ia (lI 260) (im (lI 3) ht.1)) rfl (by omega) (by omega)) h4
    | succ fu ih =>
      intro i v1 v2 H locs ls hj hs  hW hl
      have hl6 := (hq i (by omega)).2
      refine lv_iload F.1 F.2.1 dX7_load_9 (lv_at hl 0 rfl) ?_
      refine lv_sipush (v := 260) F.1 F.2.1 dX7_load_11 (by decide) ?_
      refine lv_iconst (v := 3) F.1 F.2.1 dX7_load_14 (by decide) ?_
      refine lv_aload_n F.1 F.2.1 dX7_load_15 rfl (lv_at hl 3 rfl) ?_
      refine jgetR F hT hW fw_X7_7 oM0 (by decide) rfl dX7_load_16 ?_
      refine lv_bipush (v := 9) F.1 F.2.1 dX7_load_19 (by decide) ?_
      refine jiald F hT hW 9 oM1 (by omega) (by decide) (lI 9) rfl dX7_load_21 ?_
      refine lv_imul F.1 F.2.1 dX7_load_22 ?_
      refine lv_iadd F.1 F.2.1 dX7_load_23 ?_
      refine lv_icmp_ge (tgt := 74) F.1 F.2.1 dX7_load_24 (by decide) (fun h3 => ?_) (fun h3 => ?_)
      · exact absurd h3 (c_nle (ia (lI 260) (im (lI 3) ht.1)) rfl (by omega) (by omega))
      · refine lv_iload_n F.1 F.2.1 dX7_load_27 rfl (lv_at hl 2 rfl) ?_
        refine lv_sipush (v := 1000) F.1 F.2.1 dX7_load_28 (by decide) ?_
        refine lv_aload_n F.1 F.2.1 dX7_load_31 rfl (lv_at hl 3 rfl) ?_
        refine lv_aload_n F.1 F.2.1 dX7_load_32 rfl (lv_at hl 3 rfl) ?_
        refine jgetR F hT hW fw_X7_7 oM0 (by decide) rfl dX7_load_33 ?_
        refine lv_iload F.1 F.2.1 dX7_load_36 (lv_at hl 0 rfl) ?_
        refine jiald F hT hW (260 + 3 * i) oM1 (by omega) (by decide) rfl rfl dX7_load_38 ?_
        refine jcip (jrunV (As := [.int (S 1 (260 + 3 * i))]) (rest := [.int 1000, .int v2]) F hT hW yc_X7_costOf yv_X7_costOf ml_X7_120 oM0 (by decide) rfl (c_X7_costOf l E μ S (S 1 (260 + 3 * i)) (cn (S 1 (260 + 3 * i))) ((hq i (by omega)).1) (by first | assumption | omega)) rfl hl.1 ⟨Nat.le_of_ble_eq_true rfl, Nat.le_of_ble_eq_true rfl⟩ rfl (Nat.le_of_ble_eq_true rfl) ⟨Nat.le_refl _, Nat.le_refl _⟩ dX7_load_39) hW (fun x4 H locs ex4 hW => ?_)
        refine lv_imul F.1 F.2.1 dX7_load_42 ?_
        refine lv_aload_n F.1 F.2.1 dX7_load_43 rfl (lv_at hl 3 rfl) ?_
        refine jgetR F hT hW fw_X7_7 oM0 (by decide) rfl dX7_load_44 ?_
        refine lv_iload F.1 F.2.1 dX7_load_47 (lv_at hl 0 rfl) ?_
        refine lv_iconst (v := 1) F.1 F.2.1 dX7_load_49 (by decide) ?_
        refine lv_iadd F.1 F.2.1 dX7_load_50 ?_
        refine jiald F hT hW (260 + 3 * i + 1) oM1 (by omega) (by decide) (ia rfl (lI 1)) rfl dX7_load_51 ?_
        refine lv_idiv F.1 F.2.1 dX7_load_52 (fun z => Nat.lt_irrefl 0 (by have h := (hpz i (by omega)).2; rw [z] at h; exact h)) ?_
        refine lv_iadd F.1 F.2.1 dX7_load_53 ?_
        refine lv_istore_n (lv' := [(1, .int (v2 + ((1000 * x4) / (S 1 (260 + 3 * i + 1))))), (4, .int (nI (260 + 3 * i))), (2, .long v1), (0, .ref (ea E 13 0))]) F.1 F.2.1 dX7_load_54 rfl hl (by decide) rfl (fun ls hl => ?_)
        refine lv_lload_n F.1 F.2.1 dX7_load_55 rfl (lv_at hl 2 rfl) ?_
        refine lv_aload_n F.1 F.2.1 dX7_load_56 rfl (lv_at hl 3 rfl) ?_
        refine jgetR F hT hW fw_X7_7 oM0 (by decide) rfl dX7_load_57 ?_
        refine lv_iload F.1 F.2.1 dX7_load_60 (lv_at hl 1 rfl) ?_
        refine lv_iconst (v := 1) F.1 F.2.1 dX7_load_62 (by decide) ?_
        refine lv_iadd F.1 F.2.1 dX7_load_63 ?_
        refine jiald F hT hW (260 + 3 * i + 1) oM1 (by omega) (by decide) (ia rfl (lI 1)) rfl dX7_load_64 ?_
        refine lv_i2l F.1 F.2.1 dX7_load_65 rfl ?_
        refine lv_lmul F.1 F.2.1 dX7_load_66 ?_
        refine lv_lstore_n (lv' := [(2, .long (v1 * ((S 1 (260 + 3 * i + 1)).toInt64))), (1, .int (v2 + ((1000 * x4) / (S 1 (260 + 3 * i + 1))))), (4, .int (nI (260 + 3 * i))), (0, .ref (ea E 13 0))]) F.1 F.2.1 dX7_load_67 rfl hl (by decide) rfl (fun ls hl => ?_)
        refine lv_iinc (v := nI (260 + 3 * i + 3)) (lv' := [(4, .int (nI (260 + 3 * i + 3))), (2, .long (v1 * ((S 1 (260 + 3 * i + 1)).toInt64))), (1, .int (v2 + ((1000 * x4) / (S 1 (260 + 3 * i + 1))))), (0, .ref (ea E 13 0))]) F.1 F.2.1 dX7_load_68 hl (k := 2) rfl (ia rfl rfl) (by decide) rfl (fun ls hl => ?_)
        refine lv_goto (tgt := 9) F.1 F.2.1 dX7_load_71 (by decide) ?_
        subst ex4
        exact ih (i + 1) _ _ _ _ _ (by omega) (by rw [itN_s, ← hs]; exact (rfl).symm) hW (lv_sub hl [0, 1, 2, 3] rfl)
  exact hL3 (cn (S 1 9)) 0 1 0 _ _ _ (by omega) rfl hW (lv_sub hl [0, 1, 2, 3] rfl)

