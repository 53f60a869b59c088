/-! the law: small methods, agree -/
def p_L_has (a : Int32) (b : Int32) : Int32 :=
  let v2 : Int32 := (if ((a >>> (b &&& 31)) &&& 1) = 1 then 1 else 0)
  (v2 : Int32)

set_option maxHeartbeats 4000000 in
set_option maxRecDepth 100000 in
theorem c_L_has (l : Launch) (E : mE) (μ : Mu) (a : Int32) (b : Int32) : CtI l E yL_has cL_has 2 (some .boolean) 0 0 [.int a, .int b] μ (fun x μ' => x = p_L_has a b ∧ μ' = μ) := by
  refine jMet (by decide +kernel) (Nat.le_of_ble_eq_true rfl) ?_
  intro p e s m below meth c ls F hT hr0 hlk hW hl
  have F : CallFix p m c cL_has 2 s _ TB RL := F
  have hl : lv_has ls 2 [(0, .int a), (1, .int b)] := hl
  refine lv_iload_n F.1 F.2.1 dL_has_0 rfl (lv_at hl 0 rfl) ?_
  refine lv_iload_n F.1 F.2.1 dL_has_1 rfl (lv_at hl 1 rfl) ?_
  refine lv_ishr F.1 F.2.1 dL_has_2 ?_
  refine lv_iconst (v := 1) F.1 F.2.1 dL_has_3 (by decide) ?_
  refine lv_iand F.1 F.2.1 dL_has_4 ?_
  refine lv_iconst (v := 1) F.1 F.2.1 dL_has_5 (by decide) ?_
  have hJ3 : ∀ (v2 : Int32) (H : Heap) (locs : List Loc) (ls : Array Slot), v2 = (if ((a >>> (b &&& 31)) &&& 1) = 1 then 1 else 0) → Wd E s H locs μ → lv_has ls 2 [(0, .int a), (1, .int b)] → W p l e (rmO 0 0) s m ([.int a, .int b] : List Value).toArray below meth c H locs 0 0 (MQ below (va_Qi (fun x μ' => x = p_L_has a b ∧ μ' = μ) (fun μ' t => MB E μ' t.heap) (AA E)) ([.int a, .int b] : List Value).toArray s 0 0 (AA E)) (F0 m 14 ls [.int v2]) := by
    intro v2 H locs ls ev2 hW hl
    have hq : (v2 : Int32) = p_L_has a b := by
      subst ev2
      exact (rfl).symm
    exact jri F hr0 hlk hW (znar (by rw [ev2]; repeat' (first | refine iteZ ?_ ?_ | exact Or.inl rfl | exact Or.inr rfl))) dL_has_14 ⟨hq, rfl⟩
  refine lv_icmp_ne (tgt := 13) F.1 F.2.1 dL_has_6 (by decide) (fun h1 => ?_) (fun h1 => ?_)
  · refine lv_iconst (v := 0) F.1 F.2.1 dL_has_13 (by decide) ?_
    exact hJ3 _ _ _ _ (if_neg h1).symm hW (lv_sub hl [0, 1] rfl)
  · refine lv_iconst (v := 1) F.1 F.2.1 dL_has_9 (by decide) ?_
    refine lv_goto (tgt := 14) F.1 F.2.1 dL_has_10 (by decide) ?_
    exact hJ3 _ _ _ _ (if_pos h1).symm hW (lv_sub hl [0, 1] rfl)

def p_L_present (B : Sv) (ln : Int32) (ws : Int32) (wd : Int32) : Int32 :=
  if ws = 0 then
    (p_X3_numberOfLine B ln 0 : Int32)
  else
    if (p_X3_numberOfAll B 12) = 0 then
      (p_X3_numberOfLine B ln 0 : Int32)
    else
      if (p_X3_numberOfLine B ln 0) < (p_X3_numberOfAll B 13) then
        let v5 : Int32 := (if (p_X3_numberOfAll B 13) ≤ ((p_X3_numberOfLine B ln 0) + (wd / (p_X3_numberOfAll B 12))) then p_X3_numberOfAll B 13 else (p_X3_numberOfLine B ln 0) + (wd / (p_X3_numberOfAll B 12)))
        (v5 : Int32)
      else
        (p_X3_numberOfLine B ln 0 : Int32)

set_option maxHeartbeats 4000000 in
set_option maxRecDepth 100000 in
theorem c_L_present (l : Launch) (E : mE) (μ : Mu) (B : Sv) (ln : Int32) (ws : Int32) (wd : Int32) (hB : μ 0 = B) (hc : Wc μ) : CtI l E yL_present cL_present 6 (some .int) 4 91 [.ref (ea E 11 0), .int ln, .int ws, .int wd] μ (fun x μ' => x = p_L_present B ln ws wd ∧ μ' = μ) := by
  refine jMet (by decide +kernel) (Nat.le_of_ble_eq_true rfl) ?_
  intro p e s m below meth c ls F hT hr0 hlk hW hl
  have F : CallFix p m c cL_present 6 s _ TB RL := F
  have hl : lv_has ls 6 [(0, .ref (ea E 11 0)), (1, .int ln), (2, .int ws), (3, .int wd)] := hl
  refine lv_aload_n F.1 F.2.1 dL_present_0 rfl (lv_at hl 0 rfl) ?_
  refine lv_iload_n F.1 F.2.1 dL_present_1 rfl (lv_at hl 1 rfl) ?_
  refine lv_iconst (v := 0) F.1 F.2.1 dL_present_2 (by decide) ?_
  refine jcir (jrunV (As := [.int ln, .int 0]) (rest := []) F hT hW yc_X6_ofLine yv_X6_ofLine ml_L_8 oH0 (by decide) rfl (r_ofLine l E μ hB hc ln 0) rfl hl.1 ⟨Nat.le_of_ble_eq_true rfl, Nat.le_of_ble_eq_true rfl⟩ rfl (Nat.le_of_ble_eq_true rfl) ⟨Nat.le_refl _, Nat.le_refl _⟩ dL_present_3) hW (fun H locs hW => ?_)
  refine lv_istore (lv' := [(4, .int (p_X3_numberOfLine B ln 0)), (0, .ref (ea E 11 0)), (1, .int ln), (2, .int ws), (3, .int wd)]) F.1 F.2.1 dL_present_6 hl (by decide) rfl (fun ls hl => ?_)
  refine lv_iload_n F.1 F.2.1 dL_present_8 rfl (lv_at hl 3 rfl) ?_
  refine lv_if_eq (tgt := 32) F.1 F.2.1 dL_present_9 (by decide) (fun h1 => ?_) (fun h1 => ?_)
  · refine lv_iload F.1 F.2.1 dL_present_32 (lv_at hl 0 rfl) ?_
    have hq : (p_X3_numberOfLine B ln 0 : Int32) = p_L_present B ln ws wd := by
      exact (if_pos h1).symm
    exact jri F hr0 hlk hW rfl dL_present_34 ⟨hq, rfl⟩
  · refine lv_aload_n F.1 F.2.1 dL_present_12 rfl (lv_at hl 1 rfl) ?_
    refine lv_bipush (v := 12) F.1 F.2.1 dL_present_13 (by decide) ?_
    refine jcir (jrunV (As := [.int 12]) (rest := []) F hT hW yc_X6_count yv_X6_count ml_L_14 oH0 (by decide) rfl (r_count l E μ hB hc 12 (by decide) (by decide)) rfl hl.1 ⟨Nat.le_of_ble_eq_true rfl, Nat.le_of_ble_eq_true rfl⟩ rfl (Nat.le_of_ble_eq_true rfl) ⟨Nat.le_refl _, Nat.le_refl _⟩ dL_present_15) hW (fun H locs hW => ?_)
    refine lv_if_eq (tgt := 32) F.1 F.2.1 dL_present_18 (by decide) (fun h2 => ?_) (fun h2 => ?_)
    · refine lv_iload F.1 F.2.1 dL_present_32 (lv_at hl 0 rfl) ?_
      have hq : (p_X3_numberOfLine B ln 0 : Int32) = p_L_present B ln ws wd := by
        exact ((if_neg h1).trans (if_pos h2)).symm
      exact jri F hr0 hlk hW rfl dL_present_34 ⟨hq, rfl⟩
    · refine lv_iload F.1 F.2.1 dL_present_21 (lv_at hl 0 rfl) ?_
      refine lv_aload_n F.1 F.2.1 dL_present_23 rfl (lv_at hl 1 rfl) ?_
      refine lv_bipush (v := 13) F.1 F.2.1 dL_present_24 (by decide) ?_
      refine jcir (jrunV (As := [.int 13]) (rest := [.int (p_X3_numberOfLine B ln 0)]) F hT hW yc_X6_count yv_X6_count ml_L_14 oH0 (by decide) rfl (r_count l E μ hB hc 13 (by decide) (by decide)) rfl hl.1 ⟨Nat.le_of_ble_eq_true rfl, Nat.le_of_ble_eq_true rfl⟩ rfl (Nat.le_of_ble_eq_true rfl) ⟨Nat.le_refl _, Nat.le_refl _⟩ dL_present_26) hW (fun H locs hW => ?_)
      refine lv_icmp_lt (tgt := 35) F.1 F.2.1 dL_present_29 (by decide) (fun h3 => ?_) (fun h3 => ?_)
      · refine lv_iload F.1 F.2.1 dL_present_35 (lv_at hl 0 rfl) ?_
        refine lv_iload_n F.1 F.2.1 dL_present_37 rfl (lv_at hl 4 rfl) ?_
        refine lv_aload_n F.1 F.2.1 dL_present_38 rfl (lv_at hl 1 rfl) ?_
        refine lv_bipush (v := 12) F.1 F.2.1 dL_present_39 (by decide) ?_
        refine jcir (jrunV (As := [.int 12]) (rest := [.int wd, .int (p_X3_numberOfLine B ln 0)]) F hT hW yc_X6_count yv_X6_count ml_L_14 oH0 (by decide) rfl (r_count l E μ hB hc 12 (by decide) (by decide)) rfl hl.1 ⟨Nat.le_of_ble_eq_true rfl, Nat.le_of_ble_eq_true rfl⟩ rfl (Nat.le_of_ble_eq_true rfl) ⟨Nat.le_refl _, Nat.le_refl _⟩ dL_present_41) hW (fun H locs hW => ?_)
        refine lv_idiv F.1 F.2.1 dL_present_44 (by assumption) ?_
        refine lv_iadd F.1 F.2.1 dL_present_45 ?_
        refine lv_istore (lv' := [(5, .int ((p_X3_numberOfLine B ln 0) + (wd / (p_X3_numberOfAll B 12)))), (4, .int (p_X3_numberOfLine B ln 0)), (0, .ref (ea E 11 0)), (1, .int ln), (2, .int ws), (3, .int wd)]) F.1 F.2.1 dL_present_46 hl (by decide) rfl (fun ls hl => ?_)
        refine lv_iload F.1 F.2.1 dL_present_48 (lv_at hl 0 rfl) ?_
        refine lv_aload_n F.1 F.2.1 dL_present_50 rfl (lv_at hl 2 rfl) ?_
        refine lv_bipush (v := 13) F.1 F.2.1 dL_present_51 (by decide) ?_
        refine jcir (jrunV (As := [.int 13]) (rest := [.int ((p_X3_numberOfLine B ln 0) + (wd / (p_X3_numberOfAll B 12)))]) F hT hW yc_X6_count yv_X6_count ml_L_14 oH0 (by decide) rfl (r_count l E μ hB hc 13 (by decide) (by decide)) rfl hl.1 ⟨Nat.le_of_ble_eq_true rfl, Nat.le_of_ble_eq_true rfl⟩ rfl (Nat.le_of_ble_eq_true rfl) ⟨Nat.le_refl _, Nat.le_refl _⟩ dL_present_53) hW (fun H locs hW => ?_)
        have hJ6 : ∀ (v5 : Int32) (H : Heap) (locs : List Loc) (ls : Array Slot), v5 = (if (p_X3_numberOfAll B 13) ≤ ((p_X3_numberOfLine B ln 0) + (wd / (p_X3_numberOfAll B 12))) then p_X3_numberOfAll B 13 else (p_X3_numberOfLine B ln 0) + (wd / (p_X3_numberOfAll B 12))) → Wd E s H locs μ → lv_has ls 6 [(5, .int ((p_X3_numberOfLine B ln 0) + (wd / (p_X3_numberOfAll B 12)))), (4, .int (p_X3_numberOfLine B ln 0)), (0, .ref (ea E 11 0)), (1, .int ln), (2, .int ws), (3, .int wd)] → W p l e (rmO 4 91) s m ([.ref (ea E 11 0), .int ln, .int ws, .int wd] : List Value).toArray below meth c H locs 0 0 (MQ below (va_Qi (fun x μ' => x = p_L_present B ln ws wd ∧ μ' = μ) (fun μ' t => MB E μ' t.heap) (AA E)) ([.ref (ea E 11 0), .int ln, .int ws, .int wd] : List Value).toArray s 0 0 (AA E)) (F0 m 70 ls [.int v5]) := by
          intro v5 H locs ls ev5 hW hl
          have hq : (v5 : Int32) = p_L_present B ln ws wd := by
            subst ev5
            exact ((if_neg h1).trans ((if_neg h2).trans (if_pos h3))).symm
          exact jri F hr0 hlk hW rfl dL_present_70 ⟨hq, rfl⟩
        refine lv_icmp_ge (tgt := 64) F.1 F.2.1 dL_present_56 (by decide) (fun h4 => ?_) (fun h4 => ?_)
        · refine lv_aload_n F.1 F.2.1 dL_present_64 rfl (lv_at hl 2 rfl) ?_
          refine lv_bipush (v := 13) F.1 F.2.1 dL_present_65 (by decide) ?_
          refine jcir (jrunV (As := [.int 13]) (rest := []) F hT hW yc_X6_count yv_X6_count ml_L_14 oH0 (by decide) rfl (r_count l E μ hB hc 13 (by decide) (by decide)) rfl hl.1 ⟨Nat.le_of_ble_eq_true rfl, Nat.le_of_ble_eq_true rfl⟩ rfl (Nat.le_of_ble_eq_true rfl) ⟨Nat.le_refl _, Nat.le_refl _⟩ dL_present_67) hW (fun H locs hW => ?_)
          exact hJ6 _ _ _ _ (if_pos h4).symm hW (lv_sub hl [0, 1, 2, 3, 4, 5] rfl)
        · refine lv_iload F.1 F.2.1 dL_present_59 (lv_at hl 0 rfl) ?_
          refine lv_goto (tgt := 70) F.1 F.2.1 dL_present_61 (by decide) ?_
          exact hJ6 _ _ _ _ (if_neg h4).symm hW (lv_sub hl [0, 1, 2, 3, 4, 5] rfl)
      · refine lv_iload F.1 F.2.1 dL_present_32 (lv_at hl 0 rfl) ?_
        have hq : (p_X3_numberOfLine B ln 0 : Int32) = p_L_present B ln ws wd := by
          exact ((if_neg h1).trans ((if_neg h2).trans (if_neg h3))).symm
        exact jri F hr0 hlk hW rfl dL_present_34 ⟨hq, rfl⟩

theorem r_present (l : Launch) (E : mE) (μ : Mu) {B : Sv} (hB : μ 0 = B) (hc : Wc μ) (ln ws wd : Int32) : CtI l E yL_present cL_present 6 (some .int) 4 91 [.ref (ea E 11 0), .int ln, .int ws, .int wd] μ (fun x μ' => x = p_L_present B ln ws wd ∧ μ' = μ) := c_L_present l E μ B ln ws wd hB hc
/-- the rank of the service below -/
def rkOf (B : Sv) (k : Nat) : Int32 := if k = 0 then (-1) else p_X3_numberOfPlace B (nI (k - 1)) 1
theorem rk_s (B : Sv) (k : Nat) : rkOf B (k + 1) = p_X3_numberOfPlace B (nI k) 1 := if_neg (Nat.succ_ne_zero k)
def q_L_agree_10 (B : Sv) (n : Nat) (d : Nat) (j : Nat) (σ : Int32 × Int32 × Int32) : Int32 × Int32 × Int32 :=
  let v1 : Int32 := σ.1
  let v2 : Int32 := σ.2.1
  let v3 : Int32 := σ.2.2
  let v24 : Int32 := (if 0 ≤ (p_X3_numberOfLine B (nI j) 8) then 1 else 0)
  let v33 : Int32 := (if (p_X3_numberOfLine B (nI j) 5) = 1 then (if 0 ≤ (p_X3_numberOfLine B (nI j) 8) then 0 else (if (p_X3_numberOfLine B (nI j) 4) = 0 then (if (p_X3_numberOfLine B (nI j) 7) < (p_X3_numberOfAll B 18) then 0 else 1) else 0)) else 0)
  let v39 : Int32 := (if v1 < 0 then 1 else (if (p_X3_numberOfLine B v1 7) < (p_X3_numberOfLine B (nI j) 7) then 1 else (if (p_X3_numberOfLine B (nI j) 7) = (p_X3_numberOfLine B v1 7) then (if (p_X3_numberOfLine B (nI j) 6) ≤ (p_X3_numberOfLine B v1 6) then 0 else 1) else 0)))
  let v43 : Int32 := (if v33 = 0 then v1 else (if v39 = 0 then v1 else nI j))
  (v43, v2 + (p_X3_numberOfLine B (nI j) 16), v3 ||| (((p_X3_numberOfLine B (nI j) 5) : Int32) <<< ((nI j) &&& 31)))
def q_L_agree_392 (B : Sv) (n : Nat) (d : Nat) (k : Nat) (σ : Int32) : Int32 :=
  let v6 : Int32 := σ
  p_X3_numberOfPlace B (nI k) 1
def p_L_agree (B : Sv) (n : Nat) (d : Nat) : Int32 :=
  let v1 : Int32 := (itN (q_L_agree_10 B n d) n ((-6), 0, 0)).1
  let v2 : Int32 := (itN (q_L_agree_10 B n d) n ((-6), 0, 0)).2.1
  let v3 : Int32 := (itN (q_L_agree_10 B n d) n ((-6), 0, 0)).2.2
  let v6 : Int32 := (itN (q_L_agree_392 B n d) d ((-1)))
  (1 : Int32)

set_option maxHeartbeats 4000000 in
set_option maxRecDepth 100000 in
theorem c_L_agree (l : Launch) (E : mE) (μ : Mu) (B : Sv) (n : Nat) (d : Nat) (hB : μ 0 = B) (hc : Wc μ) (hn : p_X3_numberOfAll B 1 = nI n) (hn12 : n ≤ 12) (hd : p_X3_numberOfAll B 3 = nI d) (hd8 : d ≤ 8) (hA1 : ∀ j, j < n → p_X3_numberOfLine B (nI j) 5 = 1 → 0 ≤ p_X3_numberOfLine B (nI j) 6) (hA2 : ∀ j, j < n → ¬ p_X3_numberOfLine B (nI j) 5 = 1 → p_X3_numberOfLine B (nI j) 6 = (-6)) (hA3 : ∀ j, j < n → p_X3_numberOfLine B (nI j) 7 = p_L_present B (nI j) (p_X3_numberOfLine B (nI j) 5) (p_X3_numberOfLine B (nI j) 6)) (hA4 : ∀ j, j < n → p_X3_numberOfLine B (nI j) 3 = 1 → p_X3_numberOfLine B (nI j) 5 = (if p_X3_numberOfLine B (nI j) 9 = 0 then 0 else (if 0 ≤ p_X3_numberOfLine B (nI j) 8 then 0 else 1))) (hA5 : ∀ j, j < n → p_X3_numberOfLine B (nI j) 3 = 0 → p_X3_numberOfLine B (nI j) 9 = 0) (hA6 : ∀ j, j < n → ¬ p_X3_numberOfLine B (nI j) 8 < 0 → p_X3_numberOfPlace B (p_X3_numberOfLine B (nI j) 8) 0 = nI j) (hA7 : ∀ j, j < n → p_X3_numberOfLine B (nI j) 12 - p_X3_numberOfLine B (nI j) 13 = (if 0 ≤ p_X3_numberOfLine B (nI j) 8 then 1 else 0)) (hA8 : ∀ j, j < n → ¬ p_X3_numberOfLine B (nI j) 15 < p_X3_numberOfLine B (nI j) 14) (hA9 : ∀ j, j < n → p_X3_numberOfLine B (nI j) 11 ≤ p_X3_numberOfLine B (nI j) 10) (hN1 : ∀ k, k < d → p_X3_numberOfLine B (p_X3_numberOfPlace B (nI k) 0) 8 = nI k) (hN2 : ∀ k, k < d → ¬ p_X3_numberOfPlace B (nI k) 1 ≤ rkOf B k) (hN3 : ∀ k, k < d → ¬ p_X3_numberOfPlace B (nI k) 2 < 1) (hN4 : ∀ k, k < d → p_X3_numberOfPlace B (nI k) 3 < p_X3_numberOfAll B 0) (hE1 : (itN (q_L_agree_10 B n d) n (-6, 0, 0)).2.2 = p_X3_numberOfAll B 4) (hE2 : (itN (q_L_agree_10 B n d) n (-6, 0, 0)).2.1 = p_X3_numberOfAll B 8) (hE3 : (itN (q_L_agree_10 B n d) n (-6, 0, 0)).1 = p_X3_numberOfAll B 5) (hE4 : ¬ p_X3_numberOfAll B 7 < p_X3_numberOfAll B 3) (hE5 : p_X3_numberOfPlace B (p_X3_numberOfAll B 3) 0 = (-1)) : CtI l E yL_agree cL_agree 10 (some .boolean) 5 116 [.ref (ea E 11 0)] μ (fun x μ' => x = p_L_agree B n d ∧ μ' = μ) := by
  refine jMet (by decide +kernel) (Nat.le_of_ble_eq_true rfl) ?_
  intro p e s m below meth c ls F hT hr0 hlk hW hl
  have F : CallFix p m c cL_agree 10 s _ TB RL := F
  have hl : lv_has ls 10 [(0, .ref (ea E 11 0))] := hl
  refine lv_iconst (v := 0) F.1 F.2.1 dL_agree_0 (by decide) ?_
  refine lv_istore_n (lv' := [(1, .int 0), (0, .ref (ea E 11 0))]) F.1 F.2.1 dL_agree_1 rfl hl (by decide) rfl (fun ls hl => ?_)
  refine lv_iconst (v := 0) F.1 F.2.1 dL_agree_2 (by decide) ?_
  refine lv_istore_n (lv' := [(2, .int 0), (1, .int 0), (0, .ref (ea E 11 0))]) F.1 F.2.1 dL_agree_3 rfl hl (by decide) rfl (fun ls hl => ?_)
  refine lv_bipush (v := (-6)) F.1 F.2.1 dL_agree_4 (by decide) ?_
  refine lv_istore_n (lv' := [(3, .int (-6)), (2, .int 0), (1, .int 0), (0, .ref (ea E 11 0))]) F.1 F.2.1 dL_agree_6 rfl hl (by decide) rfl (fun ls hl => ?_)
  refine lv_iconst (v := 0) F.1 F.2.1 dL_agree_7 (by decide) ?_
  refine lv_istore (lv' := [(4, .int 0), (3, .int (-6)), (2, .int 0), (1, .int 0), (0, .ref (ea E 11 0))]) F.1 F.2.1 dL_agree_8 hl (by decide) rfl (fun ls hl => ?_)
  have hL4 : ∀ (fu j : Nat) (v1 : Int32) (v2 : Int32) (v3 : Int32) (H : Heap) (locs : List Loc) (ls : Array Slot), j + fu = n → (v1, v2, v3) = itN (q_L_agree_10 B n d) j ((-6), 0, 0) → Wd E s H locs μ → lv_has ls 10 [(4, .int (nI j)), (3, .int v1), (2, .int v2), (1, .int v3), (0, .ref (ea E 11 0))] → W p l e (rmO 5 116) s m ([.ref (ea E 11 0)] : List Value).toArray below meth c H locs 0 0 (MQ below (va_Qi (fun x μ' => x = p_L_agree B n d ∧ μ' = μ) (fun μ' t => MB E μ' t.heap) (AA E)) ([.ref (ea E 11 0)] : List Value).toArray s 0 0 (AA E)) (F0 m 10 ls []) := by
    intro fu
    induction fu with
    | zero =>
      intro j v1 v2 v3 H locs ls hj hs  hW hl
      obtain rfl : n = j := by omega
      obtain ⟨ev1, ev2, ev3⟩ : v1 = (itN (q_L_agree_10 B n d) n ((-6), 0, 0)).1 ∧ v2 = (itN (q_L_agree_10 B n d) n ((-6), 0, 0)).2.1 ∧ v3 = (itN (q_L_agree_10 B n d) n ((-6), 0, 0)).2.2 := by rw [← hs]; exact ⟨rfl, rfl, rfl⟩
      refine lv_iload F.1 F.2.1 dL_agree_10 (lv_at hl 0 rfl) ?_
      refine lv_aload_n F.1 F.2.1 dL_agree_12 rfl (lv_at hl 4 rfl) ?_
      refine lv_iconst (v := 1) F.1 F.2.1 dL_agree_13 (by decide) ?_
      refine jcir (jrunV (As := [.int 1]) (rest := [.int (nI n)]) F hT hW yc_X6_count yv_X6_count ml_L_14 oH0 (by decide) rfl (r_count l E μ hB hc 1 (by decide) (by decide)) rfl hl.1 ⟨Nat.le_of_ble_eq_true rfl, Nat.le_of_ble_eq_true rfl⟩ rfl (Nat.le_of_ble_eq_true rfl) ⟨Nat.le_refl _, Nat.le_refl _⟩ dL_agree_14) hW (fun H locs hW => ?_)
      refine lv_icmp_ge (tgt := 386) F.1 F.2.1 dL_agree_17 (by decide) (fun h5 => ?_) (fun h5 => ?_)
      · refine lv_iconst (v := (-1)) F.1 F.2.1 dL_agree_386 (by decide) ?_
        refine lv_istore (lv' := [(4, .int (-1)), (3, .int v1), (2, .int v2), (1, .int v3), (0, .ref (ea E 11 0))]) F.1 F.2.1 dL_agree_387 hl (by decide) rfl (fun ls hl => ?_)
        refine lv_iconst (v := 0) F.1 F.2.1 dL_agree_389 (by decide) ?_
        refine lv_istore (lv' := [(5, .int 0), (4, .int (-1)), (3, .int v1), (2, .int v2), (1, .int v3), (0, .ref (ea E 11 0))]) F.1 F.2.1 dL_agree_390 hl (by decide) rfl (fun ls hl => ?_)
        have hL7 : ∀ (fu k : Nat) (v6 : Int32) (H : Heap) (locs : List Loc) (ls : Array Slot), k + fu = d → (v6) = itN (q_L_agree_392 B n d) k ((-1)) → v6 = rkOf B k → Wd E s H locs μ → lv_has ls 10 [(5, .int (nI k)), (4, .int v6), (3, .int v1), (2, .int v2), (1, .int v3), (0, .ref (ea E 11 0))] → W p l e (rmO 5 116) s m ([.ref (ea E 11 0)] : List Value).toArray below meth c H locs 0 0 (MQ below (va_Qi (fun x μ' => x = p_L_agree B n d ∧ μ' = μ) (fun μ' t => MB E μ' t.heap) (AA E)) ([.ref (ea E 11 0)] : List Value).toArray s 0 0 (AA E)) (F0 m 392 ls []) := by
          intro fu
          induction fu with
          | zero =>
            intro k v6 H locs ls hj hs hrk hW hl
            obtain rfl : d = k := by omega
            have ev6 := hs
            refine lv_iload F.1 F.2.1 dL_agree_392 (lv_at hl 0 rfl) ?_
            refine lv_aload_n F.1 F.2.1 dL_agree_394 rfl (lv_at hl 5 rfl) ?_
            refine lv_iconst (v := 3) F.1 F.2.1 dL_agree_395 (by decide) ?_
            refine jcir (jrunV (As := [.int 3]) (rest := [.int (nI d)]) F hT hW yc_X6_count yv_X6_count ml_L_14 oH0 (by decide) rfl (r_count l E μ hB hc 3 (by decide) (by decide)) rfl hl.1 ⟨Nat.le_of_ble_eq_true rfl, Nat.le_of_ble_eq_true rfl⟩ rfl (Nat.le_of_ble_eq_true rfl) ⟨Nat.le_refl _, Nat.le_refl _⟩ dL_agree_396) hW (fun H locs hW => ?_)
            refine lv_icmp_ge (tgt := 475) F.1 F.2.1 dL_agree_399 (by decide) (fun h8 => ?_) (fun h8 => ?_)
            · refine lv_iload_n F.1 F.2.1 dL_agree_475 rfl (lv_at hl 4 rfl) ?_
              refine lv_aload_n F.1 F.2.1 dL_agree_476 rfl (lv_at hl 5 rfl) ?_
              refine lv_iconst (v := 4) F.1 F.2.1 dL_agree_477 (by decide) ?_
              refine jcir (jrunV (As := [.int 4]) (rest := [.int v3]) F hT hW yc_X6_count yv_X6_count ml_L_14 oH0 (by decide) rfl (r_count l E μ hB hc 4 (by decide) (by decide)) rfl hl.1 ⟨Nat.le_of_ble_eq_true rfl, Nat.le_of_ble_eq_true rfl⟩ rfl (Nat.le_of_ble_eq_true rfl) ⟨Nat.le_refl _, Nat.le_refl _⟩ dL_agree_478) hW (fun H locs hW => ?_)
              refine lv_icmp_ne (tgt := 535) F.1 F.2.1 dL_agree_481 (by decide) (fun h9 => ?_) (fun h9 => ?_)
              · exact absurd hE1 (by rw [ev3] at h9; exact h9)
              · refine lv_iload_n F.1 F.2.1 dL_agree_484 rfl (lv_at hl 3 rfl) ?_
                refine lv_aload_n F.1 F.2.1 dL_agree_485 rfl (lv_at hl 5 rfl) ?_
                refine lv_bipush (v := 8) F.1 F.2.1 dL_agree_486 (by decide) ?_
                refine jcir (jrunV (As := [.int 8]) (rest := [.int v2]) F hT hW yc_X6_count yv_X6_count ml_L_14 oH0 (by decide) rfl (r_count l E μ hB hc 8 (by decide) (by decide)) rfl hl.1 ⟨Nat.le_of_ble_eq_true rfl, Nat.le_of_ble_eq_true rfl⟩ rfl (Nat.le_of_ble_eq_true rfl) ⟨Nat.le_refl _, Nat.le_refl _⟩ dL_agree_488) hW (fun H locs hW => ?_)
                refine lv_icmp_ne (tgt := 535) F.1 F.2.1 dL_agree_491 (by decide) (fun h10 => ?_) (fun h10 => ?_)
                · exact absurd hE2 (by rw [ev2] at h10; exact h10)
                · refine lv_iload_n F.1 F.2.1 dL_agree_494 rfl (lv_at hl 2 rfl) ?_
                  refine lv_aload_n F.1 F.2.1 dL_agree_495 rfl (lv_at hl 5 rfl) ?_
                  refine lv_iconst (v := 5) F.1 F.2.1 dL_agree_496 (by decide) ?_
                  refine jcir (jrunV (As := [.int 5]) (rest := [.int v1]) F hT hW yc_X6_count yv_X6_count ml_L_14 oH0 (by decide) rfl (r_count l E μ hB hc 5 (by decide) (by decide)) rfl hl.1 ⟨Nat.le_of_ble_eq_true rfl, Nat.le_of_ble_eq_true rfl⟩ rfl (Nat.le_of_ble_eq_true rfl) ⟨Nat.le_refl _, Nat.le_refl _⟩ dL_agree_497) hW (fun H locs hW => ?_)
                  refine lv_icmp_ne (tgt := 535) F.1 F.2.1 dL_agree_500 (by decide) (fun h11 => ?_) (fun h11 => ?_)
                  · exact absurd hE3 (by rw [ev1] at h11; exact h11)
                  · refine lv_aload_n F.1 F.2.1 dL_agree_503 rfl (lv_at hl 5 rfl) ?_
                    refine lv_iconst (v := 3) F.1 F.2.1 dL_agree_504 (by decide) ?_
                    refine jcir (jrunV (As := [.int 3]) (rest := []) F hT hW yc_X6_count yv_X6_count ml_L_14 oH0 (by decide) rfl (r_count l E μ hB hc 3 (by decide) (by decide)) rfl hl.1 ⟨Nat.le_of_ble_eq_true rfl, Nat.le_of_ble_eq_true rfl⟩ rfl (Nat.le_of_ble_eq_true rfl) ⟨Nat.le_refl _, Nat.le_refl _⟩ dL_agree_505) hW (fun H locs hW => ?_)
                    refine lv_aload_n F.1 F.2.1 dL_agree_508 rfl (lv_at hl 5 rfl) ?_
                    refine lv_bipush (v := 7) F.1 F.2.1 dL_agree_509 (by decide) ?_
                    refine jcir (jrunV (As := [.int 7]) (rest := [.int (p_X3_numberOfAll B 3)]) F hT hW yc_X6_count yv_X6_count ml_L_14 oH0 (by decide) rfl (r_count l E μ hB hc 7 (by decide) (by decide)) rfl hl.1 ⟨Nat.le_of_ble_eq_true rfl, Nat.le_of_ble_eq_true rfl⟩ rfl (Nat.le_of_ble_eq_true rfl) ⟨Nat.le_refl _, Nat.le_refl _⟩ dL_agree_511) hW (fun H locs hW => ?_)
                    refine lv_icmp_gt (tgt := 535) F.1 F.2.1 dL_agree_514 (by decide) (fun h12 => ?_) (fun h12 => ?_)
                    · exact absurd h12 (hE4)
                    · refine lv_aload_n F.1 F.2.1 dL_agree_517 rfl (lv_at hl 5 rfl) ?_
                      refine lv_aload_n F.1 F.2.1 dL_agree_518 rfl (lv_at hl 5 rfl) ?_
                      refine lv_iconst (v := 3) F.1 F.2.1 dL_agree_519 (by decide) ?_
                      refine jcir (jrunV (As := [.int 3]) (rest := [.ref (ea E 11 0)]) F hT hW yc_X6_count yv_X6_count ml_L_14 oH0 (by decide) rfl (r_count l E μ hB hc 3 (by decide) (by decide)) rfl hl.1 ⟨Nat.le_of_ble_eq_true rfl, Nat.le_of_ble_eq_true rfl⟩ rfl (Nat.le_of_ble_eq_true rfl) ⟨Nat.le_refl _, Nat.le_refl _⟩ dL_agree_520) hW (fun H locs hW => ?_)
                      refine lv_iconst (v := 0) F.1 F.2.1 dL_agree_523 (by decide) ?_
                      refine jcir (jrunV (As := [.int (p_X3_numberOfAll B 3), .int 0]) (rest := []) F hT hW yc_X6_ofNest yv_X6_ofNest ml_L_24 oH0 (by decide) rfl (r_ofNest l E μ hB hc (p_X3_numberOfAll B 3) 0) rfl hl.1 ⟨Nat.le_of_ble_eq_true rfl, Nat.le_of_ble_eq_true rfl⟩ rfl (Nat.le_of_ble_eq_true rfl) ⟨Nat.le_refl _, Nat.le_refl _⟩ dL_agree_524) hW (fun H locs hW => ?_)
                      refine lv_iconst (v := (-1)) F.1 F.2.1 dL_agree_527 (by decide) ?_
                      refine lv_icmp_ne (tgt := 535) F.1 F.2.1 dL_agree_528 (by decide) (fun h13 => ?_) (fun h13 => ?_)
                      · exact absurd (hE5) h13
                      · refine lv_iconst (v := 1) F.1 F.2.1 dL_agree_531 (by decide) ?_
                        refine lv_goto (tgt := 536) F.1 F.2.1 dL_agree_532 (by decide) ?_
                        have hq : (1 : Int32) = p_L_agree B n d := by
                          subst ev6
                          subst ev3
                          subst ev2
                          subst ev1
                          exact (rfl).symm
                        exact jri F hr0 hlk hW (znar (Or.inr rfl)) dL_agree_536 ⟨hq, rfl⟩
            · exact absurd (c_le hd rfl (by omega) (by omega)) h8
          | succ fu ih =>
            intro k v6 H locs ls hj hs hrk hW hl
            refine lv_iload F.1 F.2.1 dL_agree_392 (lv_at hl 0 rfl) ?_
            refine lv_aload_n F.1 F.2.1 dL_agree_394 rfl (lv_at hl 5 rfl) ?_
            refine lv_iconst (v := 3) F.1 F.2.1 dL_agree_395 (by decide) ?_
            refine jcir (jrunV (As := [.int 3]) (rest := [.int (nI k)]) F hT hW yc_X6_count yv_X6_count ml_L_14 oH0 (by decide) rfl (r_count l E μ hB hc 3 (by decide) (by decide)) rfl hl.1 ⟨Nat.le_of_ble_eq_true rfl, Nat.le_of_ble_eq_true rfl⟩ rfl (Nat.le_of_ble_eq_true rfl) ⟨Nat.le_refl _, Nat.le_refl _⟩ dL_agree_396) hW (fun H locs hW => ?_)
            refine lv_icmp_ge (tgt := 475) F.1 F.2.1 dL_agree_399 (by decide) (fun h7 => ?_) (fun h7 => ?_)
            · exact absurd h7 (c_nle hd rfl (by omega) (by omega))
            · refine lv_aload_n F.1 F.2.1 dL_agree_402 rfl (lv_at hl 5 rfl) ?_
              refine lv_aload_n F.1 F.2.1 dL_agree_403 rfl (lv_at hl 5 rfl) ?_
              refine lv_iload F.1 F.2.1 dL_agree_404 (lv_at hl 0 rfl) ?_
              refine lv_iconst (v := 0) F.1 F.2.1 dL_agree_406 (by decide) ?_
              refine jcir (jrunV (As := [.int (nI k), .int 0]) (rest := [.ref (ea E 11 0)]) F hT hW yc_X6_ofNest yv_X6_ofNest ml_L_24 oH0 (by decide) rfl (r_ofNest l E μ hB hc (nI k) 0) rfl hl.1 ⟨Nat.le_of_ble_eq_true rfl, Nat.le_of_ble_eq_true rfl⟩ rfl (Nat.le_of_ble_eq_true rfl) ⟨Nat.le_refl _, Nat.le_refl _⟩ dL_agree_407) hW (fun H locs hW => ?_)
              refine lv_bipush (v := 8) F.1 F.2.1 dL_agree_410 (by decide) ?_
              refine jcir (jrunV (As := [.int (p_X3_numberOfPlace B (nI k) 0), .int 8]) (rest := []) F hT hW yc_X6_ofLine yv_X6_ofLine ml_L_8 oH0 (by decide) rfl (r_ofLine l E μ hB hc (p_X3_numberOfPlace B (nI k) 0) 8) rfl hl.1 ⟨Nat.le_of_ble_eq_true rfl, Nat.le_of_ble_eq_true rfl⟩ rfl (Nat.le_of_ble_eq_true rfl) ⟨Nat.le_refl _, Nat.le_refl _⟩ dL_agree_412) hW (fun H locs hW => ?_)
              refine lv_iload F.1 F.2.1 dL_agree_415 (lv_at hl 0 rfl) ?_
              refine lv_icmp_ne (tgt := 458) F.1 F.2.1 dL_agree_417 (by decide) (fun h8 => ?_) (fun h8 => ?_)
              · exact absurd (hN1 k (by omega)) h8
              · refine lv_aload_n F.1 F.2.1 dL_agree_420 rfl (lv_at hl 5 rfl) ?_
                refine lv_iload F.1 F.2.1 dL_agree_421 (lv_at hl 0 rfl) ?_
                refine lv_iconst (v := 1) F.1 F.2.1 dL_agree_423 (by decide) ?_
                refine jcir (jrunV (As := [.int (nI k), .int 1]) (rest := []) F hT hW yc_X6_ofNest yv_X6_ofNest ml_L_24 oH0 (by decide) rfl (r_ofNest l E μ hB hc (nI k) 1) rfl hl.1 ⟨Nat.le_of_ble_eq_true rfl, Nat.le_of_ble_eq_true rfl⟩ rfl (Nat.le_of_ble_eq_true rfl) ⟨Nat.le_refl _, Nat.le_refl _⟩ dL_agree_424) hW (fun H locs hW => ?_)
                refine lv_iload F.1 F.2.1 dL_agree_427 (lv_at hl 1 rfl) ?_
                refine lv_icmp_le (tgt := 458) F.1 F.2.1 dL_agree_429 (by decide) (fun h9 => ?_) (fun h9 => ?_)
                · exact absurd (by rw [hrk] at h9; exact h9) (hN2 k (by omega))
                · refine lv_aload_n F.1 F.2.1 dL_agree_432 rfl (lv_at hl 5 rfl) ?_
                  refine lv_iload F.1 F.2.1 dL_agree_433 (lv_at hl 0 rfl) ?_
                  refine lv_iconst (v := 2) F.1 F.2.1 dL_agree_435 (by decide) ?_
                  refine jcir (jrunV (As := [.int (nI k), .int 2]) (rest := []) F hT hW yc_X6_ofNest yv_X6_ofNest ml_L_24 oH0 (by decide) rfl (r_ofNest l E μ hB hc (nI k) 2) rfl hl.1 ⟨Nat.le_of_ble_eq_true rfl, Nat.le_of_ble_eq_true rfl⟩ rfl (Nat.le_of_ble_eq_true rfl) ⟨Nat.le_refl _, Nat.le_refl _⟩ dL_agree_436) hW (fun H locs hW => ?_)
                  refine lv_iconst (v := 1) F.1 F.2.1 dL_agree_439 (by decide) ?_
                  refine lv_icmp_lt (tgt := 458) F.1 F.2.1 dL_agree_440 (by decide) (fun h10 => ?_) (fun h10 => ?_)
                  · exact absurd h10 (hN3 k (by omega))
                  · refine lv_aload_n F.1 F.2.1 dL_agree_443 rfl (lv_at hl 5 rfl) ?_
                    refine lv_iload F.1 F.2.1 dL_agree_444 (lv_at hl 0 rfl) ?_
                    refine lv_iconst (v := 3) F.1 F.2.1 dL_agree_446 (by decide) ?_
                    refine jcir (jrunV (As := [.int (nI k), .int 3]) (rest := []) F hT hW yc_X6_ofNest yv_X6_ofNest ml_L_24 oH0 (by decide) rfl (r_ofNest l E μ hB hc (nI k) 3) rfl hl.1 ⟨Nat.le_of_ble_eq_true rfl, Nat.le_of_ble_eq_true rfl⟩ rfl (Nat.le_of_ble_eq_true rfl) ⟨Nat.le_refl _, Nat.le_refl _⟩ dL_agree_447) hW (fun H locs hW => ?_)
                    refine lv_aload_n F.1 F.2.1 dL_agree_450 rfl (lv_at hl 5 rfl) ?_
                    refine lv_iconst (v := 0) F.1 F.2.1 dL_agree_451 (by decide) ?_
                    refine jcir (jrunV (As := [.int 0]) (rest := [.int (p_X3_numberOfPlace B (nI k) 3)]) F hT hW yc_X6_count yv_X6_count ml_L_14 oH0 (by decide) rfl (r_count l E μ hB hc 0 (by decide) (by decide)) rfl hl.1 ⟨Nat.le_of_ble_eq_true rfl, Nat.le_of_ble_eq_true rfl⟩ rfl (Nat.le_of_ble_eq_true rfl) ⟨Nat.le_refl _, Nat.le_refl _⟩ dL_agree_452) hW (fun H locs hW => ?_)
                    refine lv_icmp_lt (tgt := 460) F.1 F.2.1 dL_agree_455 (by decide) (fun h11 => ?_) (fun h11 => ?_)
                    · refine lv_aload_n F.1 F.2.1 dL_agree_460 rfl (lv_at hl 5 rfl) ?_
                      refine lv_iload F.1 F.2.1 dL_agree_461 (lv_at hl 0 rfl) ?_
                      refine lv_iconst (v := 1) F.1 F.2.1 dL_agree_463 (by decide) ?_
                      refine jcir (jrunV (As := [.int (nI k), .int 1]) (rest := []) F hT hW yc_X6_ofNest yv_X6_ofNest ml_L_24 oH0 (by decide) rfl (r_ofNest l E μ hB hc (nI k) 1) rfl hl.1 ⟨Nat.le_of_ble_eq_true rfl, Nat.le_of_ble_eq_true rfl⟩ rfl (Nat.le_of_ble_eq_true rfl) ⟨Nat.le_refl _, Nat.le_refl _⟩ dL_agree_464) hW (fun H locs hW => ?_)
                      refine lv_istore (lv' := [(4, .int (p_X3_numberOfPlace B (nI k) 1)), (5, .int (nI k)), (3, .int v1), (2, .int v2), (1, .int v3), (0, .ref (ea E 11 0))]) F.1 F.2.1 dL_agree_467 hl (by decide) rfl (fun ls hl => ?_)
                      refine lv_iinc (v := nI (k + 1)) (lv' := [(5, .int (nI (k + 1))), (4, .int (p_X3_numberOfPlace B (nI k) 1)), (3, .int v1), (2, .int v2), (1, .int v3), (0, .ref (ea E 11 0))]) F.1 F.2.1 dL_agree_469 hl (k := 1) rfl (ia rfl rfl) (by decide) rfl (fun ls hl => ?_)
                      refine lv_goto (tgt := 392) F.1 F.2.1 dL_agree_472 (by decide) ?_
                      exact ih (k + 1) _ _ _ _ (by omega) (by rw [itN_s, ← hs]; exact (rfl).symm) (rk_s B k).symm hW (lv_sub hl [0, 1, 2, 3, 4, 5] rfl)
                    · exact absurd (hN4 k (by omega)) h11
        exact hL7 d 0 (-1) _ _ _ (by omega) rfl rfl hW (lv_sub hl [0, 1, 2, 3, 4, 5] rfl)
      · exact absurd (c_le hn rfl (by omega) (by omega)) h5
    | succ fu ih =>
      intro j v1 v2 v3 H locs ls hj hs  hW hl
      refine lv_iload F.1 F.2.1 dL_agree_10 (lv_at hl 0 rfl) ?_
      refine lv_aload_n F.1 F.2.1 dL_agree_12 rfl (lv_at hl 4 rfl) ?_
      refine lv_iconst (v := 1) F.1 F.2.1 dL_agree_13 (by decide) ?_
      refine jcir (jrunV (As := [.int 1]) (rest := [.int (nI j)]) F hT hW yc_X6_count yv_X6_count ml_L_14 oH0 (by decide) rfl (r_count l E μ hB hc 1 (by decide) (by decide)) rfl hl.1 ⟨Nat.le_of_ble_eq_true rfl, Nat.le_of_ble_eq_true rfl⟩ rfl (Nat.le_of_ble_eq_true rfl) ⟨Nat.le_refl _, Nat.le_refl _⟩ dL_agree_14) hW (fun H locs hW => ?_)
      refine lv_icmp_ge (tgt := 386) F.1 F.2.1 dL_agree_17 (by decide) (fun h4 => ?_) (fun h4 => ?_)
      · exact absurd h4 (c_nle hn rfl (by omega) (by omega))
      · refine lv_aload_n F.1 F.2.1 dL_agree_20 rfl (lv_at hl 4 rfl) ?_
        refine lv_iload F.1 F.2.1 dL_agree_21 (lv_at hl 0 rfl) ?_
        refine lv_iconst (v := 5) F.1 F.2.1 dL_agree_23 (by decide) ?_
        refine jcir (jrunV (As := [.int (nI j), .int 5]) (rest := []) F hT hW yc_X6_ofLine yv_X6_ofLine ml_L_8 oH0 (by decide) rfl (r_ofLine l E μ hB hc (nI j) 5) rfl hl.1 ⟨Nat.le_of_ble_eq_true rfl, Nat.le_of_ble_eq_true rfl⟩ rfl (Nat.le_of_ble_eq_true rfl) ⟨Nat.le_refl _, Nat.le_refl _⟩ dL_agree_24) hW (fun H locs hW => ?_)
        refine lv_istore (lv' := [(5, .int (p_X3_numberOfLine B (nI j) 5)), (4, .int (nI j)), (3, .int v1), (2, .int v2), (1, .int v3), (0, .ref (ea E 11 0))]) F.1 F.2.1 dL_agree_27 hl (by decide) rfl (fun ls hl => ?_)
        refine lv_aload_n F.1 F.2.1 dL_agree_29 rfl (lv_at hl 5 rfl) ?_
        refine lv_iload F.1 F.2.1 dL_agree_30 (lv_at hl 1 rfl) ?_
        refine lv_bipush (v := 8) F.1 F.2.1 dL_agree_32 (by decide) ?_
        refine jcir (jrunV (As := [.int (nI j), .int 8]) (rest := []) F hT hW yc_X6_ofLine yv_X6_ofLine ml_L_8 oH0 (by decide) rfl (r_ofLine l E μ hB hc (nI j) 8) rfl hl.1 ⟨Nat.le_of_ble_eq_true rfl, Nat.le_of_ble_eq_true rfl⟩ rfl (Nat.le_of_ble_eq_true rfl) ⟨Nat.le_refl _, Nat.le_refl _⟩ dL_agree_34) hW (fun H locs hW => ?_)
        refine lv_istore (lv' := [(6, .int (p_X3_numberOfLine B (nI j) 8)), (5, .int (p_X3_numberOfLine B (nI j) 5)), (4, .int (nI j)), (3, .int v1), (2, .int v2), (1, .int v3), (0, .ref (ea E 11 0))]) F.1 F.2.1 dL_agree_37 hl (by decide) rfl (fun ls hl => ?_)
        refine lv_aload_n F.1 F.2.1 dL_agree_39 rfl (lv_at hl 6 rfl) ?_
        refine lv_iload F.1 F.2.1 dL_agree_40 (lv_at hl 2 rfl) ?_
        refine lv_bipush (v := 6) F.1 F.2.1 dL_agree_42 (by decide) ?_
        refine jcir (jrunV (As := [.int (nI j), .int 6]) (rest := []) F hT hW yc_X6_ofLine yv_X6_ofLine ml_L_8 oH0 (by decide) rfl (r_ofLine l E μ hB hc (nI j) 6) rfl hl.1 ⟨Nat.le_of_ble_eq_true rfl, Nat.le_of_ble_eq_true rfl⟩ rfl (Nat.le_of_ble_eq_true rfl) ⟨Nat.le_refl _, Nat.le_refl _⟩ dL_agree_44) hW (fun H locs hW => ?_)
        refine lv_istore (lv' := [(7, .int (p_X3_numberOfLine B (nI j) 6)), (6, .int (p_X3_numberOfLine B (nI j) 8)), (5, .int (p_X3_numberOfLine B (nI j) 5)), (4, .int (nI j)), (3, .int v1), (2, .int v2), (1, .int v3), (0, .ref (ea E 11 0))]) F.1 F.2.1 dL_agree_47 hl (by decide) rfl (fun ls hl => ?_)
        refine lv_iload_n F.1 F.2.1 dL_agree_49 rfl (lv_at hl 6 rfl) ?_
        refine lv_iload F.1 F.2.1 dL_agree_50 (lv_at hl 2 rfl) ?_
        refine lv_iload F.1 F.2.1 dL_agree_52 (lv_at hl 3 rfl) ?_
        refine lv_ishl F.1 F.2.1 dL_agree_54 ?_
        refine lv_ior F.1 F.2.1 dL_agree_55 ?_
        refine lv_istore_n (lv' := [(1, .int (v3 ||| (((p_X3_numberOfLine B (nI j) 5) : Int32) <<< ((nI j) &&& 31)))), (7, .int (p_X3_numberOfLine B (nI j) 6)), (6, .int (p_X3_numberOfLine B (nI j) 8)), (5, .int (p_X3_numberOfLine B (nI j) 5)), (4, .int (nI j)), (3, .int v1), (2, .int v2), (0, .ref (ea E 11 0))]) F.1 F.2.1 dL_agree_56 rfl hl (by decide) rfl (fun ls hl => ?_)
        refine lv_iload_n F.1 F.2.1 dL_agree_57 rfl (lv_at hl 6 rfl) ?_
        refine lv_aload_n F.1 F.2.1 dL_agree_58 rfl (lv_at hl 7 rfl) ?_
        refine lv_iload F.1 F.2.1 dL_agree_59 (lv_at hl 4 rfl) ?_
        refine lv_bipush (v := 16) F.1 F.2.1 dL_agree_61 (by decide) ?_
        refine jcir (jrunV (As := [.int (nI j), .int 16]) (rest := [.int v2]) F hT hW yc_X6_ofLine yv_X6_ofLine ml_L_8 oH0 (by decide) rfl (r_ofLine l E μ hB hc (nI j) 16) rfl hl.1 ⟨Nat.le_of_ble_eq_true rfl, Nat.le_of_ble_eq_true rfl⟩ rfl (Nat.le_of_ble_eq_true rfl) ⟨Nat.le_refl _, Nat.le_refl _⟩ dL_agree_63) hW (fun H locs hW => ?_)
        refine lv_iadd F.1 F.2.1 dL_agree_66 ?_
        refine lv_istore_n (lv' := [(2, .int (v2 + (p_X3_numberOfLine B (nI j) 16))), (1, .int (v3 ||| (((p_X3_numberOfLine B (nI j) 5) : Int32) <<< ((nI j) &&& 31)))), (7, .int (p_X3_numberOfLine B (nI j) 6)), (6, .int (p_X3_numberOfLine B (nI j) 8)), (5, .int (p_X3_numberOfLine B (nI j) 5)), (4, .int (nI j)), (3, .int v1), (0, .ref (ea E 11 0))]) F.1 F.2.1 dL_agree_67 rfl hl (by decide) rfl (fun ls hl => ?_)
        refine lv_iload F.1 F.2.1 dL_agree_68 (lv_at hl 4 rfl) ?_
        refine lv_iconst (v := 1) F.1 F.2.1 dL_agree_70 (by decide) ?_
        have hJ8 : ∀ (H : Heap) (locs : List Loc) (ls : Array Slot), Wd E s H locs μ → lv_has ls 10 [(2, .int (v2 + (p_X3_numberOfLine B (nI j) 16))), (1, .int (v3 ||| (((p_X3_numberOfLine B (nI j) 5) : Int32) <<< ((nI j) &&& 31)))), (7, .int (p_X3_numberOfLine B (nI j) 6)), (6, .int (p_X3_numberOfLine B (nI j) 8)), (5, .int (p_X3_numberOfLine B (nI j) 5)), (4, .int (nI j)), (3, .int v1), (0, .ref (ea E 11 0))] → W p l e (rmO 5 116) s m ([.ref (ea E 11 0)] : List Value).toArray below meth c H locs 0 0 (MQ below (va_Qi (fun x μ' => x = p_L_agree B n d ∧ μ' = μ) (fun μ' t => MB E μ' t.heap) (AA E)) ([.ref (ea E 11 0)] : List Value).toArray s 0 0 (AA E)) (F0 m 91 ls []) := by
          intro H locs ls hW hl
          refine lv_aload_n F.1 F.2.1 dL_agree_91 rfl (lv_at hl 7 rfl) ?_
          refine lv_iload F.1 F.2.1 dL_agree_92 (lv_at hl 5 rfl) ?_
          refine lv_bipush (v := 7) F.1 F.2.1 dL_agree_94 (by decide) ?_
          refine jcir (jrunV (As := [.int (nI j), .int 7]) (rest := []) F hT hW yc_X6_ofLine yv_X6_ofLine ml_L_8 oH0 (by decide) rfl (r_ofLine l E μ hB hc (nI j) 7) rfl hl.1 ⟨Nat.le_of_ble_eq_true rfl, Nat.le_of_ble_eq_true rfl⟩ rfl (Nat.le_of_ble_eq_true rfl) ⟨Nat.le_refl _, Nat.le_refl _⟩ dL_agree_96) hW (fun H locs hW => ?_)
          refine lv_aload_n F.1 F.2.1 dL_agree_99 rfl (lv_at hl 7 rfl) ?_
          refine lv_iload F.1 F.2.1 dL_agree_100 (lv_at hl 5 rfl) ?_
          refine lv_iload F.1 F.2.1 dL_agree_102 (lv_at hl 4 rfl) ?_
          refine lv_iload F.1 F.2.1 dL_agree_104 (lv_at hl 2 rfl) ?_
          refine jcir (jrunS (As := [.ref (ea E 11 0), .int (nI j), .int (p_X3_numberOfLine B (nI j) 5), .int (p_X3_numberOfLine B (nI j) 6)]) (rest := [.int (p_X3_numberOfLine B (nI j) 7)]) F hT hW yc_L_present ys_L_present ml_L_18 (r_present l E μ hB hc (nI j) (p_X3_numberOfLine B (nI j) 5) (p_X3_numberOfLine B (nI j) 6)) rfl hl.1 ⟨Nat.le_of_ble_eq_true rfl, Nat.le_of_ble_eq_true rfl⟩ rfl (Nat.le_of_ble_eq_true rfl) ⟨Nat.le_refl _, Nat.le_refl _⟩ dL_agree_106) hW (fun H locs hW => ?_)
          refine lv_icmp_ne (tgt := 170) F.1 F.2.1 dL_agree_109 (by decide) (fun h9 => ?_) (fun h9 => ?_)
          · exact absurd (hA3 j (by omega)) h9
          · refine lv_aload_n F.1 F.2.1 dL_agree_112 rfl (lv_at hl 7 rfl) ?_
            refine lv_iload F.1 F.2.1 dL_agree_113 (lv_at hl 5 rfl) ?_
            refine lv_iconst (v := 3) F.1 F.2.1 dL_agree_115 (by decide) ?_
            refine jcir (jrunV (As := [.int (nI j), .int 3]) (rest := []) F hT hW yc_X6_ofLine yv_X6_ofLine ml_L_8 oH0 (by decide) rfl (r_ofLine l E μ hB hc (nI j) 3) rfl hl.1 ⟨Nat.le_of_ble_eq_true rfl, Nat.le_of_ble_eq_true rfl⟩ rfl (Nat.le_of_ble_eq_true rfl) ⟨Nat.le_refl _, Nat.le_refl _⟩ dL_agree_116) hW (fun H locs hW => ?_)
            refine lv_iconst (v := 1) F.1 F.2.1 dL_agree_119 (by decide) ?_
            have hJ16 : ∀ (H : Heap) (locs : List Loc) (ls : Array Slot), Wd E s H locs μ → lv_has ls 10 [(2, .int (v2 + (p_X3_numberOfLine B (nI j) 16))), (1, .int (v3 ||| (((p_X3_numberOfLine B (nI j) 5) : Int32) <<< ((nI j) &&& 31)))), (7, .int (p_X3_numberOfLine B (nI j) 6)), (6, .int (p_X3_numberOfLine B (nI j) 8)), (5, .int (p_X3_numberOfLine B (nI j) 5)), (4, .int (nI j)), (3, .int v1), (0, .ref (ea E 11 0))] → W p l e (rmO 5 116) s m ([.ref (ea E 11 0)] : List Value).toArray below meth c H locs 0 0 (MQ below (va_Qi (fun x μ' => x = p_L_agree B n d ∧ μ' = μ) (fun μ' t => MB E μ' t.heap) (AA E)) ([.ref (ea E 11 0)] : List Value).toArray s 0 0 (AA E)) (F0 m 149 ls []) := by
              intro H locs ls hW hl
              refine lv_aload_n F.1 F.2.1 dL_agree_149 rfl (lv_at hl 7 rfl) ?_
              refine lv_iload F.1 F.2.1 dL_agree_150 (lv_at hl 5 rfl) ?_
              refine lv_iconst (v := 3) F.1 F.2.1 dL_agree_152 (by decide) ?_
              refine jcir (jrunV (As := [.int (nI j), .int 3]) (rest := []) F hT hW yc_X6_ofLine yv_X6_ofLine ml_L_8 oH0 (by decide) rfl (r_ofLine l E μ hB hc (nI j) 3) rfl hl.1 ⟨Nat.le_of_ble_eq_true rfl, Nat.le_of_ble_eq_true rfl⟩ rfl (Nat.le_of_ble_eq_true rfl) ⟨Nat.le_refl _, Nat.le_refl _⟩ dL_agree_153) hW (fun H locs hW => ?_)
              have hJ19 : ∀ (H : Heap) (locs : List Loc) (ls : Array Slot), Wd E s H locs μ → lv_has ls 10 [(2, .int (v2 + (p_X3_numberOfLine B (nI j) 16))), (1, .int (v3 ||| (((p_X3_numberOfLine B (nI j) 5) : Int32) <<< ((nI j) &&& 31)))), (7, .int (p_X3_numberOfLine B (nI j) 6)), (6, .int (p_X3_numberOfLine B (nI j) 8)), (5, .int (p_X3_numberOfLine B (nI j) 5)), (4, .int (nI j)), (3, .int v1), (0, .ref (ea E 11 0))] → W p l e (rmO 5 116) s m ([.ref (ea E 11 0)] : List Value).toArray below meth c H locs 0 0 (MQ below (va_Qi (fun x μ' => x = p_L_agree B n d ∧ μ' = μ) (fun μ' t => MB E μ' t.heap) (AA E)) ([.ref (ea E 11 0)] : List Value).toArray s 0 0 (AA E)) (F0 m 172 ls []) := by
                intro H locs ls hW hl
                refine lv_iload F.1 F.2.1 dL_agree_172 (lv_at hl 3 rfl) ?_
                have hJ22 : ∀ (H : Heap) (locs : List Loc) (ls : Array Slot), Wd E s H locs μ → lv_has ls 10 [(2, .int (v2 + (p_X3_numberOfLine B (nI j) 16))), (1, .int (v3 ||| (((p_X3_numberOfLine B (nI j) 5) : Int32) <<< ((nI j) &&& 31)))), (7, .int (p_X3_numberOfLine B (nI j) 6)), (6, .int (p_X3_numberOfLine B (nI j) 8)), (5, .int (p_X3_numberOfLine B (nI j) 5)), (4, .int (nI j)), (3, .int v1), (0, .ref (ea E 11 0))] → W p l e (rmO 5 116) s m ([.ref (ea E 11 0)] : List Value).toArray below meth c H locs 0 0 (MQ below (va_Qi (fun x μ' => x = p_L_agree B n d ∧ μ' = μ) (fun μ' t => MB E μ' t.heap) (AA E)) ([.ref (ea E 11 0)] : List Value).toArray s 0 0 (AA E)) (F0 m 189 ls []) := by
                  intro H locs ls hW hl
                  refine lv_aload_n F.1 F.2.1 dL_agree_189 rfl (lv_at hl 7 rfl) ?_
                  refine lv_iload F.1 F.2.1 dL_agree_190 (lv_at hl 5 rfl) ?_
                  refine lv_bipush (v := 12) F.1 F.2.1 dL_agree_192 (by decide) ?_
                  refine jcir (jrunV (As := [.int (nI j), .int 12]) (rest := []) F hT hW yc_X6_ofLine yv_X6_ofLine ml_L_8 oH0 (by decide) rfl (r_ofLine l E μ hB hc (nI j) 12) rfl hl.1 ⟨Nat.le_of_ble_eq_true rfl, Nat.le_of_ble_eq_true rfl⟩ rfl (Nat.le_of_ble_eq_true rfl) ⟨Nat.le_refl _, Nat.le_refl _⟩ dL_agree_194) hW (fun H locs hW => ?_)
                  refine lv_aload_n F.1 F.2.1 dL_agree_197 rfl (lv_at hl 7 rfl) ?_
                  refine lv_iload F.1 F.2.1 dL_agree_198 (lv_at hl 5 rfl) ?_
                  refine lv_bipush (v := 13) F.1 F.2.1 dL_agree_200 (by decide) ?_
                  refine jcir (jrunV (As := [.int (nI j), .int 13]) (rest := [.int (p_X3_numberOfLine B (nI j) 12)]) F hT hW yc_X6_ofLine yv_X6_ofLine ml_L_8 oH0 (by decide) rfl (r_ofLine l E μ hB hc (nI j) 13) rfl hl.1 ⟨Nat.le_of_ble_eq_true rfl, Nat.le_of_ble_eq_true rfl⟩ rfl (Nat.le_of_ble_eq_true rfl) ⟨Nat.le_refl _, Nat.le_refl _⟩ dL_agree_202) hW (fun H locs hW => ?_)
                  refine lv_isub F.1 F.2.1 dL_agree_205 ?_
                  refine lv_iload F.1 F.2.1 dL_agree_206 (lv_at hl 3 rfl) ?_
                  have hJ25 : ∀ (v24 : Int32) (H : Heap) (locs : List Loc) (ls : Array Slot), v24 = (if 0 ≤ (p_X3_numberOfLine B (nI j) 8) then 1 else 0) → Wd E s H locs μ → lv_has ls 10 [(2, .int (v2 + (p_X3_numberOfLine B (nI j) 16))), (1, .int (v3 ||| (((p_X3_numberOfLine B (nI j) 5) : Int32) <<< ((nI j) &&& 31)))), (7, .int (p_X3_numberOfLine B (nI j) 6)), (6, .int (p_X3_numberOfLine B (nI j) 8)), (5, .int (p_X3_numberOfLine B (nI j) 5)), (4, .int (nI j)), (3, .int v1), (0, .ref (ea E 11 0))] → W p l e (rmO 5 116) s m ([.ref (ea E 11 0)] : List Value).toArray below meth c H locs 0 0 (MQ below (va_Qi (fun x μ' => x = p_L_agree B n d ∧ μ' = μ) (fun μ' t => MB E μ' t.heap) (AA E)) ([.ref (ea E 11 0)] : List Value).toArray s 0 0 (AA E)) (F0 m 216 ls [.int v24, .int ((p_X3_numberOfLine B (nI j) 12) - (p_X3_numberOfLine B (nI j) 13))]) := by
                    intro v24 H locs ls ev24 hW hl
                    refine lv_icmp_ne (tgt := 257) F.1 F.2.1 dL_agree_216 (by decide) (fun h26 => ?_) (fun h26 => ?_)
                    · exact absurd (hA7 j (by omega)) (by rw [ev24] at h26; exact h26)
                    · refine lv_aload_n F.1 F.2.1 dL_agree_219 rfl (lv_at hl 7 rfl) ?_
                      refine lv_iload F.1 F.2.1 dL_agree_220 (lv_at hl 5 rfl) ?_
                      refine lv_bipush (v := 14) F.1 F.2.1 dL_agree_222 (by decide) ?_
                      refine jcir (jrunV (As := [.int (nI j), .int 14]) (rest := []) F hT hW yc_X6_ofLine yv_X6_ofLine ml_L_8 oH0 (by decide) rfl (r_ofLine l E μ hB hc (nI j) 14) rfl hl.1 ⟨Nat.le_of_ble_eq_true rfl, Nat.le_of_ble_eq_true rfl⟩ rfl (Nat.le_of_ble_eq_true rfl) ⟨Nat.le_refl _, Nat.le_refl _⟩ dL_agree_224) hW (fun H locs hW => ?_)
                      refine lv_aload_n F.1 F.2.1 dL_agree_227 rfl (lv_at hl 7 rfl) ?_
                      refine lv_iload F.1 F.2.1 dL_agree_228 (lv_at hl 5 rfl) ?_
                      refine lv_bipush (v := 15) F.1 F.2.1 dL_agree_230 (by decide) ?_
                      refine jcir (jrunV (As := [.int (nI j), .int 15]) (rest := [.int (p_X3_numberOfLine B (nI j) 14)]) F hT hW yc_X6_ofLine yv_X6_ofLine ml_L_8 oH0 (by decide) rfl (r_ofLine l E μ hB hc (nI j) 15) rfl hl.1 ⟨Nat.le_of_ble_eq_true rfl, Nat.le_of_ble_eq_true rfl⟩ rfl (Nat.le_of_ble_eq_true rfl) ⟨Nat.le_refl _, Nat.le_refl _⟩ dL_agree_232) hW (fun H locs hW => ?_)
                      refine lv_icmp_gt (tgt := 257) F.1 F.2.1 dL_agree_235 (by decide) (fun h27 => ?_) (fun h27 => ?_)
                      · exact absurd h27 (hA8 j (by omega))
                      · refine lv_aload_n F.1 F.2.1 dL_agree_238 rfl (lv_at hl 7 rfl) ?_
                        refine lv_iload F.1 F.2.1 dL_agree_239 (lv_at hl 5 rfl) ?_
                        refine lv_bipush (v := 11) F.1 F.2.1 dL_agree_241 (by decide) ?_
                        refine jcir (jrunV (As := [.int (nI j), .int 11]) (rest := []) F hT hW yc_X6_ofLine yv_X6_ofLine ml_L_8 oH0 (by decide) rfl (r_ofLine l E μ hB hc (nI j) 11) rfl hl.1 ⟨Nat.le_of_ble_eq_true rfl, Nat.le_of_ble_eq_true rfl⟩ rfl (Nat.le_of_ble_eq_true rfl) ⟨Nat.le_refl _, Nat.le_refl _⟩ dL_agree_243) hW (fun H locs hW => ?_)
                        refine lv_aload_n F.1 F.2.1 dL_agree_246 rfl (lv_at hl 7 rfl) ?_
                        refine lv_iload F.1 F.2.1 dL_agree_247 (lv_at hl 5 rfl) ?_
                        refine lv_bipush (v := 10) F.1 F.2.1 dL_agree_249 (by decide) ?_
                        refine jcir (jrunV (As := [.int (nI j), .int 10]) (rest := [.int (p_X3_numberOfLine B (nI j) 11)]) F hT hW yc_X6_ofLine yv_X6_ofLine ml_L_8 oH0 (by decide) rfl (r_ofLine l E μ hB hc (nI j) 10) rfl hl.1 ⟨Nat.le_of_ble_eq_true rfl, Nat.le_of_ble_eq_true rfl⟩ rfl (Nat.le_of_ble_eq_true rfl) ⟨Nat.le_refl _, Nat.le_refl _⟩ dL_agree_251) hW (fun H locs hW => ?_)
                        refine lv_icmp_le (tgt := 259) F.1 F.2.1 dL_agree_254 (by decide) (fun h28 => ?_) (fun h28 => ?_)
                        · refine lv_iload F.1 F.2.1 dL_agree_259 (lv_at hl 4 rfl) ?_
                          refine lv_iconst (v := 1) F.1 F.2.1 dL_agree_261 (by decide) ?_
                          have hJ34 : ∀ (v33 : Int32) (H : Heap) (locs : List Loc) (ls : Array Slot), v33 = (if (p_X3_numberOfLine B (nI j) 5) = 1 then (if 0 ≤ (p_X3_numberOfLine B (nI j) 8) then 0 else (if (p_X3_numberOfLine B (nI j) 4) = 0 then (if (p_X3_numberOfLine B (nI j) 7) < (p_X3_numberOfAll B 18) then 0 else 1) else 0)) else 0) → Wd E s H locs μ → lv_has ls 10 [(2, .int (v2 + (p_X3_numberOfLine B (nI j) 16))), (1, .int (v3 ||| (((p_X3_numberOfLine B (nI j) 5) : Int32) <<< ((nI j) &&& 31)))), (7, .int (p_X3_numberOfLine B (nI j) 6)), (6, .int (p_X3_numberOfLine B (nI j) 8)), (5, .int (p_X3_numberOfLine B (nI j) 5)), (4, .int (nI j)), (3, .int v1), (0, .ref (ea E 11 0))] → W p l e (rmO 5 116) s m ([.ref (ea E 11 0)] : List Value).toArray below meth c H locs 0 0 (MQ below (va_Qi (fun x μ' => x = p_L_agree B n d ∧ μ' = μ) (fun μ' t => MB E μ' t.heap) (AA E)) ([.ref (ea E 11 0)] : List Value).toArray s 0 0 (AA E)) (F0 m 302 ls [.int v33]) := by
                            intro v33 H locs ls ev33 hW hl
                            refine lv_istore (lv' := [(8, .int v33), (2, .int (v2 + (p_X3_numberOfLine B (nI j) 16))), (1, .int (v3 ||| (((p_X3_numberOfLine B (nI j) 5) : Int32) <<< ((nI j) &&& 31)))), (7, .int (p_X3_numberOfLine B (nI j) 6)), (6, .int (p_X3_numberOfLine B (nI j) 8)), (5, .int (p_X3_numberOfLine B (nI j) 5)), (4, .int (nI j)), (3, .int v1), (0, .ref (ea E 11 0))]) F.1 F.2.1 dL_agree_302 hl (by decide) rfl (fun ls hl => ?_)
                            refine lv_iload_n F.1 F.2.1 dL_agree_304 rfl (lv_at hl 7 rfl) ?_
                            have hJ40 : ∀ (v39 : Int32) (H : Heap) (locs : List Loc) (ls : Array Slot), v39 = (if v1 < 0 then 1 else (if (p_X3_numberOfLine B v1 7) < (p_X3_numberOfLine B (nI j) 7) then 1 else (if (p_X3_numberOfLine B (nI j) 7) = (p_X3_numberOfLine B v1 7) then (if (p_X3_numberOfLine B (nI j) 6) ≤ (p_X3_numberOfLine B v1 6) then 0 else 1) else 0))) → Wd E s H locs μ → lv_has ls 10 [(8, .int v33), (2, .int (v2 + (p_X3_numberOfLine B (nI j) 16))), (1, .int (v3 ||| (((p_X3_numberOfLine B (nI j) 5) : Int32) <<< ((nI j) &&& 31)))), (7, .int (p_X3_numberOfLine B (nI j) 6)), (6, .int (p_X3_numberOfLine B (nI j) 8)), (5, .int (p_X3_numberOfLine B (nI j) 5)), (4, .int (nI j)), (3, .int v1), (0, .ref (ea E 11 0))] → W p l e (rmO 5 116) s m ([.ref (ea E 11 0)] : List Value).toArray below meth c H locs 0 0 (MQ below (va_Qi (fun x μ' => x = p_L_agree B n d ∧ μ' = μ) (fun μ' t => MB E μ' t.heap) (AA E)) ([.ref (ea E 11 0)] : List Value).toArray s 0 0 (AA E)) (F0 m 361 ls [.int v39]) := by
                              intro v39 H locs ls ev39 hW hl
                              refine lv_istore (lv' := [(9, .int v39), (8, .int v33), (2, .int (v2 + (p_X3_numberOfLine B (nI j) 16))), (1, .int (v3 ||| (((p_X3_numberOfLine B (nI j) 5) : Int32) <<< ((nI j) &&& 31)))), (7, .int (p_X3_numberOfLine B (nI j) 6)), (6, .int (p_X3_numberOfLine B (nI j) 8)), (5, .int (p_X3_numberOfLine B (nI j) 5)), (4, .int (nI j)), (3, .int v1), (0, .ref (ea E 11 0))]) F.1 F.2.1 dL_agree_361 hl (by decide) rfl (fun ls hl => ?_)
                              refine lv_iload F.1 F.2.1 dL_agree_363 (lv_at hl 1 rfl) ?_
                              have hJ44 : ∀ (v43 : Int32) (H : Heap) (locs : List Loc) (ls : Array Slot), v43 = (if v33 = 0 then v1 else (if v39 = 0 then v1 else nI j)) → Wd E s H locs μ → lv_has ls 10 [(9, .int v39), (8, .int v33), (2, .int (v2 + (p_X3_numberOfLine B (nI j) 16))), (1, .int (v3 ||| (((p_X3_numberOfLine B (nI j) 5) : Int32) <<< ((nI j) &&& 31)))), (7, .int (p_X3_numberOfLine B (nI j) 6)), (6, .int (p_X3_numberOfLine B (nI j) 8)), (5, .int (p_X3_numberOfLine B (nI j) 5)), (4, .int (nI j)), (3, .int v1), (0, .ref (ea E 11 0))] → W p l e (rmO 5 116) s m ([.ref (ea E 11 0)] : List Value).toArray below meth c H locs 0 0 (MQ below (va_Qi (fun x μ' => x = p_L_agree B n d ∧ μ' = μ) (fun μ' t => MB E μ' t.heap) (AA E)) ([.ref (ea E 11 0)] : List Value).toArray s 0 0 (AA E)) (F0 m 379 ls [.int v43]) := by
                                intro v43 H locs ls ev43 hW hl
                                refine lv_istore_n (lv' := [(3, .int v43), (9, .int v39), (8, .int v33), (2, .int (v2 + (p_X3_numberOfLine B (nI j) 16))), (1, .int (v3 ||| (((p_X3_numberOfLine B (nI j) 5) : Int32) <<< ((nI j) &&& 31)))), (7, .int (p_X3_numberOfLine B (nI j) 6)), (6, .int (p_X3_numberOfLine B (nI j) 8)), (5, .int (p_X3_numberOfLine B (nI j) 5)), (4, .int (nI j)), (0, .ref (ea E 11 0))]) F.1 F.2.1 dL_agree_379 rfl hl (by decide) rfl (fun ls hl => ?_)
                                refine lv_iinc (v := nI (j + 1)) (lv' := [(4, .int (nI (j + 1))), (3, .int v43), (9, .int v39), (8, .int v33), (2, .int (v2 + (p_X3_numberOfLine B (nI j) 16))), (1, .int (v3 ||| (((p_X3_numberOfLine B (nI j) 5) : Int32) <<< ((nI j) &&& 31)))), (7, .int (p_X3_numberOfLine B (nI j) 6)), (6, .int (p_X3_numberOfLine B (nI j) 8)), (5, .int (p_X3_numberOfLine B (nI j) 5)), (0, .ref (ea E 11 0))]) F.1 F.2.1 dL_agree_380 hl (k := 8) rfl (ia rfl rfl) (by decide) rfl (fun ls hl => ?_)
                                refine lv_goto (tgt := 10) F.1 F.2.1 dL_agree_383 (by decide) ?_
                                subst ev43
                                subst ev39
                                subst ev33
                                subst ev24
                                exact ih (j + 1) _ _ _ _ _ _ (by omega) (by rw [itN_s, ← hs]; exact (rfl).symm) hW (lv_sub hl [0, 1, 4, 5, 9] rfl)
                              refine lv_if_eq (tgt := 378) F.1 F.2.1 dL_agree_365 (by decide) (fun h41 => ?_) (fun h41 => ?_)
                              · refine lv_iload_n F.1 F.2.1 dL_agree_378 rfl (lv_at hl 8 rfl) ?_
                                exact hJ44 _ _ _ _ (if_pos h41).symm hW (lv_sub hl [0, 1, 2, 3, 4, 5, 6, 7, 8, 9] rfl)
                              · refine lv_iload F.1 F.2.1 dL_agree_368 (lv_at hl 0 rfl) ?_
                                refine lv_if_eq (tgt := 378) F.1 F.2.1 dL_agree_370 (by decide) (fun h42 => ?_) (fun h42 => ?_)
                                · refine lv_iload_n F.1 F.2.1 dL_agree_378 rfl (lv_at hl 8 rfl) ?_
                                  exact hJ44 _ _ _ _ ((if_neg h41).trans (if_pos h42)).symm hW (lv_sub hl [0, 1, 2, 3, 4, 5, 6, 7, 8, 9] rfl)
                                · refine lv_iload F.1 F.2.1 dL_agree_373 (lv_at hl 7 rfl) ?_
                                  refine lv_goto (tgt := 379) F.1 F.2.1 dL_agree_375 (by decide) ?_
                                  exact hJ44 _ _ _ _ ((if_neg h41).trans (if_neg h42)).symm hW (lv_sub hl [0, 1, 2, 3, 4, 5, 6, 7, 8, 9] rfl)
                            refine lv_if_lt (tgt := 356) F.1 F.2.1 dL_agree_305 (by decide) (fun h35 => ?_) (fun h35 => ?_)
                            · refine lv_iconst (v := 1) F.1 F.2.1 dL_agree_356 (by decide) ?_
                              refine lv_goto (tgt := 361) F.1 F.2.1 dL_agree_357 (by decide) ?_
                              exact hJ40 _ _ _ _ (if_pos h35).symm hW (lv_sub hl [0, 1, 2, 3, 4, 5, 6, 7, 8] rfl)
                            · refine lv_aload_n F.1 F.2.1 dL_agree_308 rfl (lv_at hl 8 rfl) ?_
                              refine lv_iload F.1 F.2.1 dL_agree_309 (lv_at hl 6 rfl) ?_
                              refine lv_bipush (v := 7) F.1 F.2.1 dL_agree_311 (by decide) ?_
                              refine jcir (jrunV (As := [.int (nI j), .int 7]) (rest := []) F hT hW yc_X6_ofLine yv_X6_ofLine ml_L_8 oH0 (by decide) rfl (r_ofLine l E μ hB hc (nI j) 7) rfl hl.1 ⟨Nat.le_of_ble_eq_true rfl, Nat.le_of_ble_eq_true rfl⟩ rfl (Nat.le_of_ble_eq_true rfl) ⟨Nat.le_refl _, Nat.le_refl _⟩ dL_agree_313) hW (fun H locs hW => ?_)
                              refine lv_aload_n F.1 F.2.1 dL_agree_316 rfl (lv_at hl 8 rfl) ?_
                              refine lv_iload_n F.1 F.2.1 dL_agree_317 rfl (lv_at hl 7 rfl) ?_
                              refine lv_bipush (v := 7) F.1 F.2.1 dL_agree_318 (by decide) ?_
                              refine jcir (jrunV (As := [.int v1, .int 7]) (rest := [.int (p_X3_numberOfLine B (nI j) 7)]) F hT hW yc_X6_ofLine yv_X6_ofLine ml_L_8 oH0 (by decide) rfl (r_ofLine l E μ hB hc v1 7) rfl hl.1 ⟨Nat.le_of_ble_eq_true rfl, Nat.le_of_ble_eq_true rfl⟩ rfl (Nat.le_of_ble_eq_true rfl) ⟨Nat.le_refl _, Nat.le_refl _⟩ dL_agree_320) hW (fun H locs hW => ?_)
                              refine lv_icmp_gt (tgt := 356) F.1 F.2.1 dL_agree_323 (by decide) (fun h36 => ?_) (fun h36 => ?_)
                              · refine lv_iconst (v := 1) F.1 F.2.1 dL_agree_356 (by decide) ?_
                                refine lv_goto (tgt := 361) F.1 F.2.1 dL_agree_357 (by decide) ?_
                                exact hJ40 _ _ _ _ ((if_neg h35).trans (if_pos h36)).symm hW (lv_sub hl [0, 1, 2, 3, 4, 5, 6, 7, 8] rfl)
                              · refine lv_aload_n F.1 F.2.1 dL_agree_326 rfl (lv_at hl 8 rfl) ?_
                                refine lv_iload F.1 F.2.1 dL_agree_327 (lv_at hl 6 rfl) ?_
                                refine lv_bipush (v := 7) F.1 F.2.1 dL_agree_329 (by decide) ?_
                                refine jcir (jrunV (As := [.int (nI j), .int 7]) (rest := []) F hT hW yc_X6_ofLine yv_X6_ofLine ml_L_8 oH0 (by decide) rfl (r_ofLine l E μ hB hc (nI j) 7) rfl hl.1 ⟨Nat.le_of_ble_eq_true rfl, Nat.le_of_ble_eq_true rfl⟩ rfl (Nat.le_of_ble_eq_true rfl) ⟨Nat.le_refl _, Nat.le_refl _⟩ dL_agree_331) hW (fun H locs hW => ?_)
                                refine lv_aload_n F.1 F.2.1 dL_agree_334 rfl (lv_at hl 8 rfl) ?_
                                refine lv_iload_n F.1 F.2.1 dL_agree_335 rfl (lv_at hl 7 rfl) ?_
                                refine lv_bipush (v := 7) F.1 F.2.1 dL_agree_336 (by decide) ?_
                                refine jcir (jrunV (As := [.int v1, .int 7]) (rest := [.int (p_X3_numberOfLine B (nI j) 7)]) F hT hW yc_X6_ofLine yv_X6_ofLine ml_L_8 oH0 (by decide) rfl (r_ofLine l E μ hB hc v1 7) rfl hl.1 ⟨Nat.le_of_ble_eq_true rfl, Nat.le_of_ble_eq_true rfl⟩ rfl (Nat.le_of_ble_eq_true rfl) ⟨Nat.le_refl _, Nat.le_refl _⟩ dL_agree_338) hW (fun H locs hW => ?_)
                                refine lv_icmp_ne (tgt := 360) F.1 F.2.1 dL_agree_341 (by decide) (fun h37 => ?_) (fun h37 => ?_)
                                · refine lv_iconst (v := 0) F.1 F.2.1 dL_agree_360 (by decide) ?_
                                  exact hJ40 _ _ _ _ ((if_neg h35).trans ((if_neg h36).trans (if_neg h37))).symm hW (lv_sub hl [0, 1, 2, 3, 4, 5, 6, 7, 8] rfl)
                                · refine lv_iload F.1 F.2.1 dL_agree_344 (lv_at hl 3 rfl) ?_
                                  refine lv_aload_n F.1 F.2.1 dL_agree_346 rfl (lv_at hl 8 rfl) ?_
                                  refine lv_iload_n F.1 F.2.1 dL_agree_347 rfl (lv_at hl 7 rfl) ?_
                                  refine lv_bipush (v := 6) F.1 F.2.1 dL_agree_348 (by decide) ?_
                                  refine jcir (jrunV (As := [.int v1, .int 6]) (rest := [.int (p_X3_numberOfLine B (nI j) 6)]) F hT hW yc_X6_ofLine yv_X6_ofLine ml_L_8 oH0 (by decide) rfl (r_ofLine l E μ hB hc v1 6) rfl hl.1 ⟨Nat.le_of_ble_eq_true rfl, Nat.le_of_ble_eq_true rfl⟩ rfl (Nat.le_of_ble_eq_true rfl) ⟨Nat.le_refl _, Nat.le_refl _⟩ dL_agree_350) hW (fun H locs hW => ?_)
                                  refine lv_icmp_le (tgt := 360) F.1 F.2.1 dL_agree_353 (by decide) (fun h38 => ?_) (fun h38 => ?_)
                                  · refine lv_iconst (v := 0) F.1 F.2.1 dL_agree_360 (by decide) ?_
                                    exact hJ40 _ _ _ _ ((if_neg h35).trans ((if_neg h36).trans ((if_pos h37).trans (if_pos h38)))).symm hW (lv_sub hl [0, 1, 2, 3, 4, 5, 6, 7, 8] rfl)
                                  · refine lv_iconst (v := 1) F.1 F.2.1 dL_agree_356 (by decide) ?_
                                    refine lv_goto (tgt := 361) F.1 F.2.1 dL_agree_357 (by decide) ?_
                                    exact hJ40 _ _ _ _ ((if_neg h35).trans ((if_neg h36).trans ((if_pos h37).trans (if_neg h38)))).symm hW (lv_sub hl [0, 1, 2, 3, 4, 5, 6, 7, 8] rfl)
                          refine lv_icmp_ne (tgt := 301) F.1 F.2.1 dL_agree_262 (by decide) (fun h29 => ?_) (fun h29 => ?_)
                          · refine lv_iconst (v := 0) F.1 F.2.1 dL_agree_301 (by decide) ?_
                            exact hJ34 _ _ _ _ (if_neg h29).symm hW (lv_sub hl [0, 1, 2, 3, 4, 5, 6, 7] rfl)
                          · refine lv_iload F.1 F.2.1 dL_agree_265 (lv_at hl 3 rfl) ?_
                            refine lv_if_ge (tgt := 301) F.1 F.2.1 dL_agree_267 (by decide) (fun h30 => ?_) (fun h30 => ?_)
                            · refine lv_iconst (v := 0) F.1 F.2.1 dL_agree_301 (by decide) ?_
                              exact hJ34 _ _ _ _ ((if_pos h29).trans (if_pos h30)).symm hW (lv_sub hl [0, 1, 2, 3, 4, 5, 6, 7] rfl)
                            · refine lv_aload_n F.1 F.2.1 dL_agree_270 rfl (lv_at hl 7 rfl) ?_
                              refine lv_iload F.1 F.2.1 dL_agree_271 (lv_at hl 5 rfl) ?_
                              refine lv_iconst (v := 4) F.1 F.2.1 dL_agree_273 (by decide) ?_
                              refine jcir (jrunV (As := [.int (nI j), .int 4]) (rest := []) F hT hW yc_X6_ofLine yv_X6_ofLine ml_L_8 oH0 (by decide) rfl (r_ofLine l E μ hB hc (nI j) 4) rfl hl.1 ⟨Nat.le_of_ble_eq_true rfl, Nat.le_of_ble_eq_true rfl⟩ rfl (Nat.le_of_ble_eq_true rfl) ⟨Nat.le_refl _, Nat.le_refl _⟩ dL_agree_274) hW (fun H locs hW => ?_)
                              refine lv_if_ne (tgt := 301) F.1 F.2.1 dL_agree_277 (by decide) (fun h31 => ?_) (fun h31 => ?_)
                              · refine lv_iconst (v := 0) F.1 F.2.1 dL_agree_301 (by decide) ?_
                                exact hJ34 _ _ _ _ ((if_pos h29).trans ((if_neg h30).trans (if_neg h31))).symm hW (lv_sub hl [0, 1, 2, 3, 4, 5, 6, 7] rfl)
                              · refine lv_aload_n F.1 F.2.1 dL_agree_280 rfl (lv_at hl 7 rfl) ?_
                                refine lv_iload F.1 F.2.1 dL_agree_281 (lv_at hl 5 rfl) ?_
                                refine lv_bipush (v := 7) F.1 F.2.1 dL_agree_283 (by decide) ?_
                                refine jcir (jrunV (As := [.int (nI j), .int 7]) (rest := []) F hT hW yc_X6_ofLine yv_X6_ofLine ml_L_8 oH0 (by decide) rfl (r_ofLine l E μ hB hc (nI j) 7) rfl hl.1 ⟨Nat.le_of_ble_eq_true rfl, Nat.le_of_ble_eq_true rfl⟩ rfl (Nat.le_of_ble_eq_true rfl) ⟨Nat.le_refl _, Nat.le_refl _⟩ dL_agree_285) hW (fun H locs hW => ?_)
                                refine lv_aload_n F.1 F.2.1 dL_agree_288 rfl (lv_at hl 7 rfl) ?_
                                refine lv_bipush (v := 18) F.1 F.2.1 dL_agree_289 (by decide) ?_
                                refine jcir (jrunV (As := [.int 18]) (rest := [.int (p_X3_numberOfLine B (nI j) 7)]) F hT hW yc_X6_count yv_X6_count ml_L_14 oH0 (by decide) rfl (r_count l E μ hB hc 18 (by decide) (by decide)) rfl hl.1 ⟨Nat.le_of_ble_eq_true rfl, Nat.le_of_ble_eq_true rfl⟩ rfl (Nat.le_of_ble_eq_true rfl) ⟨Nat.le_refl _, Nat.le_refl _⟩ dL_agree_291) hW (fun H locs hW => ?_)
                                refine lv_icmp_lt (tgt := 301) F.1 F.2.1 dL_agree_294 (by decide) (fun h32 => ?_) (fun h32 => ?_)
                                · refine lv_iconst (v := 0) F.1 F.2.1 dL_agree_301 (by decide) ?_
                                  exact hJ34 _ _ _ _ ((if_pos h29).trans ((if_neg h30).trans ((if_pos h31).trans (if_pos h32)))).symm hW (lv_sub hl [0, 1, 2, 3, 4, 5, 6, 7] rfl)
                                · refine lv_iconst (v := 1) F.1 F.2.1 dL_agree_297 (by decide) ?_
                                  refine lv_goto (tgt := 302) F.1 F.2.1 dL_agree_298 (by decide) ?_
                                  exact hJ34 _ _ _ _ ((if_pos h29).trans ((if_neg h30).trans ((if_pos h31).trans (if_neg h32)))).symm hW (lv_sub hl [0, 1, 2, 3, 4, 5, 6, 7] rfl)
                        · exact absurd (hA9 j (by omega)) h28
                  refine lv_if_ge (tgt := 215) F.1 F.2.1 dL_agree_208 (by decide) (fun h23 => ?_) (fun h23 => ?_)
                  · refine lv_iconst (v := 1) F.1 F.2.1 dL_agree_215 (by decide) ?_
                    exact hJ25 _ _ _ _ (if_pos h23).symm hW (lv_sub hl [0, 1, 2, 3, 4, 5, 6, 7] rfl)
                  · refine lv_iconst (v := 0) F.1 F.2.1 dL_agree_211 (by decide) ?_
                    refine lv_goto (tgt := 216) F.1 F.2.1 dL_agree_212 (by decide) ?_
                    exact hJ25 _ _ _ _ (if_neg h23).symm hW (lv_sub hl [0, 1, 2, 3, 4, 5, 6, 7] rfl)
                refine lv_if_lt (tgt := 189) F.1 F.2.1 dL_agree_174 (by decide) (fun h20 => ?_) (fun h20 => ?_)
                · exact hJ22 _ _ _ hW (lv_sub hl [0, 1, 2, 3, 4, 5, 6, 7] rfl)
                · refine lv_aload_n F.1 F.2.1 dL_agree_177 rfl (lv_at hl 7 rfl) ?_
                  refine lv_iload F.1 F.2.1 dL_agree_178 (lv_at hl 3 rfl) ?_
                  refine lv_iconst (v := 0) F.1 F.2.1 dL_agree_180 (by decide) ?_
                  refine jcir (jrunV (As := [.int (p_X3_numberOfLine B (nI j) 8), .int 0]) (rest := []) F hT hW yc_X6_ofNest yv_X6_ofNest ml_L_24 oH0 (by decide) rfl (r_ofNest l E μ hB hc (p_X3_numberOfLine B (nI j) 8) 0) rfl hl.1 ⟨Nat.le_of_ble_eq_true rfl, Nat.le_of_ble_eq_true rfl⟩ rfl (Nat.le_of_ble_eq_true rfl) ⟨Nat.le_refl _, Nat.le_refl _⟩ dL_agree_181) hW (fun H locs hW => ?_)
                  refine lv_iload F.1 F.2.1 dL_agree_184 (lv_at hl 5 rfl) ?_
                  refine lv_icmp_ne (tgt := 257) F.1 F.2.1 dL_agree_186 (by decide) (fun h21 => ?_) (fun h21 => ?_)
                  · exact absurd (hA6 j (by omega) (by assumption)) h21
                  · exact hJ22 _ _ _ hW (lv_sub hl [0, 1, 2, 3, 4, 5, 6, 7] rfl)
              refine lv_if_ne (tgt := 172) F.1 F.2.1 dL_agree_156 (by decide) (fun h17 => ?_) (fun h17 => ?_)
              · exact hJ19 _ _ _ hW (lv_sub hl [0, 1, 2, 3, 4, 5, 6, 7] rfl)
              · refine lv_aload_n F.1 F.2.1 dL_agree_159 rfl (lv_at hl 7 rfl) ?_
                refine lv_iload F.1 F.2.1 dL_agree_160 (lv_at hl 5 rfl) ?_
                refine lv_bipush (v := 9) F.1 F.2.1 dL_agree_162 (by decide) ?_
                refine jcir (jrunV (As := [.int (nI j), .int 9]) (rest := []) F hT hW yc_X6_ofLine yv_X6_ofLine ml_L_8 oH0 (by decide) rfl (r_ofLine l E μ hB hc (nI j) 9) rfl hl.1 ⟨Nat.le_of_ble_eq_true rfl, Nat.le_of_ble_eq_true rfl⟩ rfl (Nat.le_of_ble_eq_true rfl) ⟨Nat.le_refl _, Nat.le_refl _⟩ dL_agree_164) hW (fun H locs hW => ?_)
                refine lv_if_eq (tgt := 172) F.1 F.2.1 dL_agree_167 (by decide) (fun h18 => ?_) (fun h18 => ?_)
                · exact hJ19 _ _ _ hW (lv_sub hl [0, 1, 2, 3, 4, 5, 6, 7] rfl)
                · exact absurd (hA5 j (by omega) (by assumption)) h18
            refine lv_icmp_ne (tgt := 149) F.1 F.2.1 dL_agree_120 (by decide) (fun h10 => ?_) (fun h10 => ?_)
            · exact hJ16 _ _ _ hW (lv_sub hl [0, 1, 2, 3, 4, 5, 6, 7] rfl)
            · refine lv_iload F.1 F.2.1 dL_agree_123 (lv_at hl 4 rfl) ?_
              refine lv_aload_n F.1 F.2.1 dL_agree_125 rfl (lv_at hl 7 rfl) ?_
              refine lv_iload F.1 F.2.1 dL_agree_126 (lv_at hl 5 rfl) ?_
              refine lv_bipush (v := 9) F.1 F.2.1 dL_agree_128 (by decide) ?_
              refine jcir (jrunV (As := [.int (nI j), .int 9]) (rest := [.int (p_X3_numberOfLine B (nI j) 5)]) F hT hW yc_X6_ofLine yv_X6_ofLine ml_L_8 oH0 (by decide) rfl (r_ofLine l E μ hB hc (nI j) 9) rfl hl.1 ⟨Nat.le_of_ble_eq_true rfl, Nat.le_of_ble_eq_true rfl⟩ rfl (Nat.le_of_ble_eq_true rfl) ⟨Nat.le_refl _, Nat.le_refl _⟩ dL_agree_130) hW (fun H locs hW => ?_)
              have hJ14 : ∀ (v13 : Int32) (H : Heap) (locs : List Loc) (ls : Array Slot), v13 = (if (p_X3_numberOfLine B (nI j) 9) = 0 then 0 else (if 0 ≤ (p_X3_numberOfLine B (nI j) 8) then 0 else 1)) → Wd E s H locs μ → lv_has ls 10 [(2, .int (v2 + (p_X3_numberOfLine B (nI j) 16))), (1, .int (v3 ||| (((p_X3_numberOfLine B (nI j) 5) : Int32) <<< ((nI j) &&& 31)))), (7, .int (p_X3_numberOfLine B (nI j) 6)), (6, .int (p_X3_numberOfLine B (nI j) 8)), (5, .int (p_X3_numberOfLine B (nI j) 5)), (4, .int (nI j)), (3, .int v1), (0, .ref (ea E 11 0))] → W p l e (rmO 5 116) s m ([.ref (ea E 11 0)] : List Value).toArray below meth c H locs 0 0 (MQ below (va_Qi (fun x μ' => x = p_L_agree B n d ∧ μ' = μ) (fun μ' t => MB E μ' t.heap) (AA E)) ([.ref (ea E 11 0)] : List Value).toArray s 0 0 (AA E)) (F0 m 146 ls [.int v13, .int (p_X3_numberOfLine B (nI j) 5)]) := by
                intro v13 H locs ls ev13 hW hl
                refine lv_icmp_ne (tgt := 170) F.1 F.2.1 dL_agree_146 (by decide) (fun h15 => ?_) (fun h15 => ?_)
                · exact absurd (hA4 j (by omega) (by assumption)) (by rw [ev13] at h15; exact h15)
                · subst ev13
                  exact hJ16 _ _ _ hW (lv_sub hl [0, 1, 2, 3, 4, 5, 6, 7] rfl)
              refine lv_if_eq (tgt := 145) F.1 F.2.1 dL_agree_133 (by decide) (fun h11 => ?_) (fun h11 => ?_)
              · refine lv_iconst (v := 0) F.1 F.2.1 dL_agree_145 (by decide) ?_
                exact hJ14 _ _ _ _ (if_pos h11).symm hW (lv_sub hl [0, 1, 2, 3, 4, 5, 6, 7] rfl)
              · refine lv_iload F.1 F.2.1 dL_agree_136 (lv_at hl 3 rfl) ?_
                refine lv_if_ge (tgt := 145) F.1 F.2.1 dL_agree_138 (by decide) (fun h12 => ?_) (fun h12 => ?_)
                · refine lv_iconst (v := 0) F.1 F.2.1 dL_agree_145 (by decide) ?_
                  exact hJ14 _ _ _ _ ((if_neg h11).trans (if_pos h12)).symm hW (lv_sub hl [0, 1, 2, 3, 4, 5, 6, 7] rfl)
                · refine lv_iconst (v := 1) F.1 F.2.1 dL_agree_141 (by decide) ?_
                  refine lv_goto (tgt := 146) F.1 F.2.1 dL_agree_142 (by decide) ?_
                  exact hJ14 _ _ _ _ ((if_neg h11).trans (if_neg h12)).symm hW (lv_sub hl [0, 1, 2, 3, 4, 5, 6, 7] rfl)
        refine lv_icmp_ne (tgt := 82) F.1 F.2.1 dL_agree_71 (by decide) (fun h5 => ?_) (fun h5 => ?_)
        · refine lv_iload F.1 F.2.1 dL_agree_82 (lv_at hl 2 rfl) ?_
          refine lv_bipush (v := (-6)) F.1 F.2.1 dL_agree_84 (by decide) ?_
          refine lv_icmp_eq (tgt := 91) F.1 F.2.1 dL_agree_86 (by decide) (fun h6 => ?_) (fun h6 => ?_)
          · exact hJ8 _ _ _ hW (lv_sub hl [0, 1, 2, 3, 4, 5, 6, 7] rfl)
          · exact absurd (hA2 j (by omega) (by assumption)) h6
        · refine lv_iload F.1 F.2.1 dL_agree_74 (lv_at hl 2 rfl) ?_
          refine lv_if_ge (tgt := 91) F.1 F.2.1 dL_agree_76 (by decide) (fun h7 => ?_) (fun h7 => ?_)
          · exact hJ8 _ _ _ hW (lv_sub hl [0, 1, 2, 3, 4, 5, 6, 7] rfl)
          · exact absurd (hA1 j (by omega) (by assumption)) h7
  exact hL4 n 0 (-6) 0 0 _ _ _ (by omega) rfl hW (lv_sub hl [0, 1, 2, 3, 4] rfl)

def p_L_isRaised (μ : Mu) (ln : Int32) : Int32 × Mu :=
  let v4 : Int32 := (if (p_X3_numberOfLine (μ 0) ln 5) = 0 then (if (p_X3_numberOfLine (μ 0) ln 4) = 0 then 1 else (if (p_X3_numberOfAll (μ 0) 17) = 1 then 1 else 0)) else 0)
  let x6 : Int32 := (p_X6_raise μ ln).1
  let S7 : Mu := (p_X6_raise μ ln).2
  if (p_X3_numberOfLine (S7 0) ln 3) = 1 then
    let v26 : Int32 := (if x6 = (-5) then (if (p_X3_numberOfLine (S7 0) ln 5) = (p_X3_numberOfLine (μ 0) ln 5) then 1 else 0) else 0)
    ((v26 : Int32), S7)
  else
    let v10 : Int32 := (if v4 = 0 then 0 else 1)
    let v22 : Int32 := (if x6 = v10 then (if (p_X3_numberOfLine (S7 0) ln 10) = ((p_X3_numberOfLine (μ 0) ln 10) + 1) then (let v15 : Int32 := (if v4 = 0 then 1 else 0); (if (p_X3_numberOfLine (S7 0) ln 11) = ((p_X3_numberOfLine (μ 0) ln 11) + v15) then (let v19 : Int32 := (if v4 = 0 then p_X3_numberOfLine (μ 0) ln 6 else 0); (if (p_X3_numberOfLine (S7 0) ln 6) = v19 then 1 else 0)) else 0)) else 0) else 0)
    ((v22 : Int32), S7)

set_option maxHeartbeats 4000000 in
set_option maxRecDepth 100000 in
theorem c_L_isRaised (l : Launch) (E : mE) (μ : Mu) (ln : Int32) (hc : Wc μ) (hc2 : Wc (p_X6_raise μ ln).2) : CtI l E yL_isRaised cL_isRaised 8 (some .boolean) 4 91 [.ref (ea E 11 0), .int ln] μ (fun x μ' => x = (p_L_isRaised μ ln).1 ∧ μ' = (p_L_isRaised μ ln).2) := by
  refine jMet (by decide +kernel) (Nat.le_of_ble_eq_true rfl) ?_
  intro p e s m below meth c ls F hT hr0 hlk hW hl
  have F : CallFix p m c cL_isRaised 8 s _ TB RL := F
  have hl : lv_has ls 8 [(0, .ref (ea E 11 0)), (1, .int ln)] := hl
  refine lv_aload_n F.1 F.2.1 dL_isRaised_0 rfl (lv_at hl 0 rfl) ?_
  refine lv_iload_n F.1 F.2.1 dL_isRaised_1 rfl (lv_at hl 1 rfl) ?_
  refine lv_iconst (v := 5) F.1 F.2.1 dL_isRaised_2 (by decide) ?_
  refine jcir (jrunV (As := [.int ln, .int 5]) (rest := []) F hT hW yc_X6_ofLine yv_X6_ofLine ml_L_8 oH0 (by decide) rfl (r_ofLine l E μ rfl hc ln 5) rfl hl.1 ⟨Nat.le_of_ble_eq_true rfl, Nat.le_of_ble_eq_true rfl⟩ rfl (Nat.le_of_ble_eq_true rfl) ⟨Nat.le_refl _, Nat.le_refl _⟩ dL_isRaised_3) hW (fun H locs hW => ?_)
  refine lv_istore_n (lv' := [(2, .int (p_X3_numberOfLine (μ 0) ln 5)), (0, .ref (ea E 11 0)), (1, .int ln)]) F.1 F.2.1 dL_isRaised_6 rfl hl (by decide) rfl (fun ls hl => ?_)
  refine lv_aload_n F.1 F.2.1 dL_isRaised_7 rfl (lv_at hl 1 rfl) ?_
  refine lv_iload_n F.1 F.2.1 dL_isRaised_8 rfl (lv_at hl 2 rfl) ?_
  refine lv_bipush (v := 10) F.1 F.2.1 dL_isRaised_9 (by decide) ?_
  refine jcir (jrunV (As := [.int ln, .int 10]) (rest := []) F hT hW yc_X6_ofLine yv_X6_ofLine ml_L_8 oH0 (by decide) rfl (r_ofLine l E μ rfl hc ln 10) rfl hl.1 ⟨Nat.le_of_ble_eq_true rfl, Nat.le_of_ble_eq_true rfl⟩ rfl (Nat.le_of_ble_eq_true rfl) ⟨Nat.le_refl _, Nat.le_refl _⟩ dL_isRaised_11) hW (fun H locs hW => ?_)
  refine lv_istore_n (lv' := [(3, .int (p_X3_numberOfLine (μ 0) ln 10)), (2, .int (p_X3_numberOfLine (μ 0) ln 5)), (0, .ref (ea E 11 0)), (1, .int ln)]) F.1 F.2.1 dL_isRaised_14 rfl hl (by decide) rfl (fun ls hl => ?_)
  refine lv_aload_n F.1 F.2.1 dL_isRaised_15 rfl (lv_at hl 2 rfl) ?_
  refine lv_iload_n F.1 F.2.1 dL_isRaised_16 rfl (lv_at hl 3 rfl) ?_
  refine lv_bipush (v := 11) F.1 F.2.1 dL_isRaised_17 (by decide) ?_
  refine jcir (jrunV (As := [.int ln, .int 11]) (rest := []) F hT hW yc_X6_ofLine yv_X6_ofLine ml_L_8 oH0 (by decide) rfl (r_ofLine l E μ rfl hc ln 11) rfl hl.1 ⟨Nat.le_of_ble_eq_true rfl, Nat.le_of_ble_eq_true rfl⟩ rfl (Nat.le_of_ble_eq_true rfl) ⟨Nat.le_refl _, Nat.le_refl _⟩ dL_isRaised_19) hW (fun H locs hW => ?_)
  refine lv_istore (lv' := [(4, .int (p_X3_numberOfLine (μ 0) ln 11)), (3, .int (p_X3_numberOfLine (μ 0) ln 10)), (2, .int (p_X3_numberOfLine (μ 0) ln 5)), (0, .ref (ea E 11 0)), (1, .int ln)]) F.1 F.2.1 dL_isRaised_22 hl (by decide) rfl (fun ls hl => ?_)
  refine lv_aload_n F.1 F.2.1 dL_isRaised_24 rfl (lv_at hl 3 rfl) ?_
  refine lv_iload_n F.1 F.2.1 dL_isRaised_25 rfl (lv_at hl 4 rfl) ?_
  refine lv_bipush (v := 6) F.1 F.2.1 dL_isRaised_26 (by decide) ?_
  refine jcir (jrunV (As := [.int ln, .int 6]) (rest := []) F hT hW yc_X6_ofLine yv_X6_ofLine ml_L_8 oH0 (by decide) rfl (r_ofLine l E μ rfl hc ln 6) rfl hl.1 ⟨Nat.le_of_ble_eq_true rfl, Nat.le_of_ble_eq_true rfl⟩ rfl (Nat.le_of_ble_eq_true rfl) ⟨Nat.le_refl _, Nat.le_refl _⟩ dL_isRaised_28) hW (fun H locs hW => ?_)
  refine lv_istore (lv' := [(5, .int (p_X3_numberOfLine (μ 0) ln 6)), (4, .int (p_X3_numberOfLine (μ 0) ln 11)), (3, .int (p_X3_numberOfLine (μ 0) ln 10)), (2, .int (p_X3_numberOfLine (μ 0) ln 5)), (0, .ref (ea E 11 0)), (1, .int ln)]) F.1 F.2.1 dL_isRaised_31 hl (by decide) rfl (fun ls hl => ?_)
  refine lv_iload_n F.1 F.2.1 dL_isRaised_33 rfl (lv_at hl 3 rfl) ?_
  have hJ5 : ∀ (v4 : Int32) (H : Heap) (locs : List Loc) (ls : Array Slot), v4 = (if (p_X3_numberOfLine (μ 0) ln 5) = 0 then (if (p_X3_numberOfLine (μ 0) ln 4) = 0 then 1 else (if (p_X3_numberOfAll (μ 0) 17) = 1 then 1 else 0)) else 0) → Wd E s H locs μ → lv_has ls 8 [(5, .int (p_X3_numberOfLine (μ 0) ln 6)), (4, .int (p_X3_numberOfLine (μ 0) ln 11)), (3, .int (p_X3_numberOfLine (μ 0) ln 10)), (2, .int (p_X3_numberOfLine (μ 0) ln 5)), (0, .ref (ea E 11 0)), (1, .int ln)] → W p l e (rmO 4 91) s m ([.ref (ea E 11 0), .int ln] : List Value).toArray below meth c H locs 0 0 (MQ below (va_Qi (fun x μ' => x = (p_L_isRaised μ ln).1 ∧ μ' = (p_L_isRaised μ ln).2) (fun μ' t => MB E μ' t.heap) (AA E)) ([.ref (ea E 11 0), .int ln] : List Value).toArray s 0 0 (AA E)) (F0 m 61 ls [.int v4]) := by
    intro v4 H locs ls ev4 hW hl
    refine lv_istore (lv' := [(6, .int v4), (5, .int (p_X3_numberOfLine (μ 0) ln 6)), (4, .int (p_X3_numberOfLine (μ 0) ln 11)), (3, .int (p_X3_numberOfLine (μ 0) ln 10)), (2, .int (p_X3_numberOfLine (μ 0) ln 5)), (0, .ref (ea E 11 0)), (1, .int ln)]) F.1 F.2.1 dL_isRaised_61 hl (by decide) rfl (fun ls hl => ?_)
    refine lv_aload_n F.1 F.2.1 dL_isRaised_63 rfl (lv_at hl 5 rfl) ?_
    refine lv_iload_n F.1 F.2.1 dL_isRaised_64 rfl (lv_at hl 6 rfl) ?_
    refine jciG (jrunV (As := [.int ln]) (rest := []) F hT hW yc_X6_raise yv_X6_raise ml_L_37 oH0 (by decide) rfl (c_X6_raise l E μ ln (by first | assumption | omega)) rfl hl.1 ⟨Nat.le_of_ble_eq_true rfl, Nat.le_of_ble_eq_true rfl⟩ rfl (Nat.le_of_ble_eq_true rfl) ⟨Nat.le_refl _, Nat.le_refl _⟩ dL_isRaised_65) hW (fun x6 S7 H locs ex6 eS7 hW => ?_)
    refine lv_istore (lv' := [(7, .int x6), (6, .int v4), (5, .int (p_X3_numberOfLine (μ 0) ln 6)), (4, .int (p_X3_numberOfLine (μ 0) ln 11)), (3, .int (p_X3_numberOfLine (μ 0) ln 10)), (2, .int (p_X3_numberOfLine (μ 0) ln 5)), (0, .ref (ea E 11 0)), (1, .int ln)]) F.1 F.2.1 dL_isRaised_68 hl (by decide) rfl (fun ls hl => ?_)
    refine lv_aload_n F.1 F.2.1 dL_isRaised_70 rfl (lv_at hl 6 rfl) ?_
    refine lv_iload_n F.1 F.2.1 dL_isRaised_71 rfl (lv_at hl 7 rfl) ?_
    refine lv_iconst (v := 3) F.1 F.2.1 dL_isRaised_72 (by decide) ?_
    refine jcir (jrunV (As := [.int ln, .int 3]) (rest := []) F hT hW yc_X6_ofLine yv_X6_ofLine ml_L_8 oH0 (by decide) rfl (r_ofLine l E S7 rfl (by rw [eS7]; exact hc2) ln 3) rfl hl.1 ⟨Nat.le_of_ble_eq_true rfl, Nat.le_of_ble_eq_true rfl⟩ rfl (Nat.le_of_ble_eq_true rfl) ⟨Nat.le_refl _, Nat.le_refl _⟩ dL_isRaised_73) hW (fun H locs hW => ?_)
    refine lv_iconst (v := 1) F.1 F.2.1 dL_isRaised_76 (by decide) ?_
    refine lv_icmp_ne (tgt := 103) F.1 F.2.1 dL_isRaised_77 (by decide) (fun h8 => ?_) (fun h8 => ?_)
    · refine lv_iload F.1 F.2.1 dL_isRaised_103 (lv_at hl 0 rfl) ?_
      refine lv_iload F.1 F.2.1 dL_isRaised_105 (lv_at hl 1 rfl) ?_
      have hJ11 : ∀ (v10 : Int32) (H : Heap) (locs : List Loc) (ls : Array Slot), v10 = (if v4 = 0 then 0 else 1) → Wd E s H locs S7 → lv_has ls 8 [(7, .int x6), (6, .int v4), (5, .int (p_X3_numberOfLine (μ 0) ln 6)), (4, .int (p_X3_numberOfLine (μ 0) ln 11)), (3, .int (p_X3_numberOfLine (μ 0) ln 10)), (2, .int (p_X3_numberOfLine (μ 0) ln 5)), (0, .ref (ea E 11 0)), (1, .int ln)] → W p l e (rmO 4 91) s m ([.ref (ea E 11 0), .int ln] : List Value).toArray below meth c H locs 0 0 (MQ below (va_Qi (fun x μ' => x = (p_L_isRaised μ ln).1 ∧ μ' = (p_L_isRaised μ ln).2) (fun μ' t => MB E μ' t.heap) (AA E)) ([.ref (ea E 11 0), .int ln] : List Value).toArray s 0 0 (AA E)) (F0 m 115 ls [.int v10, .int x6]) := by
        intro v10 H locs ls ev10 hW hl
        have hJ23 : ∀ (v22 : Int32) (H : Heap) (locs : List Loc) (ls : Array Slot), v22 = (if x6 = v10 then (if (p_X3_numberOfLine (S7 0) ln 10) = ((p_X3_numberOfLine (μ 0) ln 10) + 1) then (let v15 : Int32 := (if v4 = 0 then 1 else 0); (if (p_X3_numberOfLine (S7 0) ln 11) = ((p_X3_numberOfLine (μ 0) ln 11) + v15) then (let v19 : Int32 := (if v4 = 0 then p_X3_numberOfLine (μ 0) ln 6 else 0); (if (p_X3_numberOfLine (S7 0) ln 6) = v19 then 1 else 0)) else 0)) else 0) else 0) → Wd E s H locs S7 → lv_has ls 8 [(7, .int x6), (6, .int v4), (5, .int (p_X3_numberOfLine (μ 0) ln 6)), (4, .int (p_X3_numberOfLine (μ 0) ln 11)), (3, .int (p_X3_numberOfLine (μ 0) ln 10)), (2, .int (p_X3_numberOfLine (μ 0) ln 5)), (0, .ref (ea E 11 0)), (1, .int ln)] → W p l e (rmO 4 91) s m ([.ref (ea E 11 0), .int ln] : List Value).toArray below meth c H locs 0 0 (MQ below (va_Qi (fun x μ' => x = (p_L_isRaised μ ln).1 ∧ μ' = (p_L_isRaised μ ln).2) (fun μ' t => MB E μ' t.heap) (AA E)) ([.ref (ea E 11 0), .int ln] : List Value).toArray s 0 0 (AA E)) (F0 m 180 ls [.int v22]) := by
          intro v22 H locs ls ev22 hW hl
          have hq : ((v22 : Int32), S7) = p_L_isRaised μ ln := by
            subst ev22
            subst ev10
            subst eS7
            subst ex6
            subst ev4
            exact (if_neg h8).symm
          exact jri F hr0 hlk hW (znar (by rw [ev22]; repeat' (first | refine iteZ ?_ ?_ | exact Or.inl rfl | exact Or.inr rfl))) dL_isRaised_180 ⟨congrArg Prod.fst hq, congrArg Prod.snd hq⟩
        refine lv_icmp_ne (tgt := 179) F.1 F.2.1 dL_isRaised_115 (by decide) (fun h12 => ?_) (fun h12 => ?_)
        · refine lv_iconst (v := 0) F.1 F.2.1 dL_isRaised_179 (by decide) ?_
          exact hJ23 _ _ _ _ (if_neg h12).symm hW (lv_sub hl [0, 1, 2, 3, 4, 5, 6, 7] rfl)
        · refine lv_aload_n F.1 F.2.1 dL_isRaised_118 rfl (lv_at hl 6 rfl) ?_
          refine lv_iload_n F.1 F.2.1 dL_isRaised_119 rfl (lv_at hl 7 rfl) ?_
          refine lv_bipush (v := 10) F.1 F.2.1 dL_isRaised_120 (by decide) ?_
          refine jcir (jrunV (As := [.int ln, .int 10]) (rest := []) F hT hW yc_X6_ofLine yv_X6_ofLine ml_L_8 oH0 (by decide) rfl (r_ofLine l E S7 rfl (by rw [eS7]; exact hc2) ln 10) rfl hl.1 ⟨Nat.le_of_ble_eq_true rfl, Nat.le_of_ble_eq_true rfl⟩ rfl (Nat.le_of_ble_eq_true rfl) ⟨Nat.le_refl _, Nat.le_refl _⟩ dL_isRaised_122) hW (fun H locs hW => ?_)
          refine lv_iload_n F.1 F.2.1 dL_isRaised_125 rfl (lv_at hl 4 rfl) ?_
          refine lv_iconst (v := 1) F.1 F.2.1 dL_isRaised_126 (by decide) ?_
          refine lv_iadd F.1 F.2.1 dL_isRaised_127 ?_
          refine lv_icmp_ne (tgt := 179) F.1 F.2.1 dL_isRaised_128 (by decide) (fun h13 => ?_) (fun h13 => ?_)
          · refine lv_iconst (v := 0) F.1 F.2.1 dL_isRaised_179 (by decide) ?_
            exact hJ23 _ _ _ _ ((if_pos h12).trans (if_neg h13)).symm hW (lv_sub hl [0, 1, 2, 3, 4, 5, 6, 7] rfl)
          · refine lv_aload_n F.1 F.2.1 dL_isRaised_131 rfl (lv_at hl 6 rfl) ?_
            refine lv_iload_n F.1 F.2.1 dL_isRaised_132 rfl (lv_at hl 7 rfl) ?_
            refine lv_bipush (v := 11) F.1 F.2.1 dL_isRaised_133 (by decide) ?_
            refine jcir (jrunV (As := [.int ln, .int 11]) (rest := []) F hT hW yc_X6_ofLine yv_X6_ofLine ml_L_8 oH0 (by decide) rfl (r_ofLine l E S7 rfl (by rw [eS7]; exact hc2) ln 11) rfl hl.1 ⟨Nat.le_of_ble_eq_true rfl, Nat.le_of_ble_eq_true rfl⟩ rfl (Nat.le_of_ble_eq_true rfl) ⟨Nat.le_refl _, Nat.le_refl _⟩ dL_isRaised_135) hW (fun H locs hW => ?_)
            refine lv_iload F.1 F.2.1 dL_isRaised_138 (lv_at hl 3 rfl) ?_
            refine lv_iload F.1 F.2.1 dL_isRaised_140 (lv_at hl 1 rfl) ?_
            have hJ16 : ∀ (v15 : Int32) (H : Heap) (locs : List Loc) (ls : Array Slot), v15 = (if v4 = 0 then 1 else 0) → Wd E s H locs S7 → lv_has ls 8 [(7, .int x6), (6, .int v4), (5, .int (p_X3_numberOfLine (μ 0) ln 6)), (4, .int (p_X3_numberOfLine (μ 0) ln 11)), (3, .int (p_X3_numberOfLine (μ 0) ln 10)), (2, .int (p_X3_numberOfLine (μ 0) ln 5)), (0, .ref (ea E 11 0)), (1, .int ln)] → W p l e (rmO 4 91) s m ([.ref (ea E 11 0), .int ln] : List Value).toArray below meth c H locs 0 0 (MQ below (va_Qi (fun x μ' => x = (p_L_isRaised μ ln).1 ∧ μ' = (p_L_isRaised μ ln).2) (fun μ' t => MB E μ' t.heap) (AA E)) ([.ref (ea E 11 0), .int ln] : List Value).toArray s 0 0 (AA E)) (F0 m 150 ls [.int v15, .int (p_X3_numberOfLine (μ 0) ln 11), .int (p_X3_numberOfLine (S7 0) ln 11)]) := by
              intro v15 H locs ls ev15 hW hl
              refine lv_iadd F.1 F.2.1 dL_isRaised_150 ?_
              refine lv_icmp_ne (tgt := 179) F.1 F.2.1 dL_isRaised_151 (by decide) (fun h17 => ?_) (fun h17 => ?_)
              · refine lv_iconst (v := 0) F.1 F.2.1 dL_isRaised_179 (by decide) ?_
                subst ev15
                exact hJ23 _ _ _ _ ((if_pos h12).trans ((if_pos h13).trans (if_neg h17))).symm hW (lv_sub hl [0, 1, 2, 3, 4, 5, 6, 7] rfl)
              · refine lv_aload_n F.1 F.2.1 dL_isRaised_154 rfl (lv_at hl 6 rfl) ?_
                refine lv_iload_n F.1 F.2.1 dL_isRaised_155 rfl (lv_at hl 7 rfl) ?_
                refine lv_bipush (v := 6) F.1 F.2.1 dL_isRaised_156 (by decide) ?_
                refine jcir (jrunV (As := [.int ln, .int 6]) (rest := []) F hT hW yc_X6_ofLine yv_X6_ofLine ml_L_8 oH0 (by decide) rfl (r_ofLine l E S7 rfl (by rw [eS7]; exact hc2) ln 6) rfl hl.1 ⟨Nat.le_of_ble_eq_true rfl, Nat.le_of_ble_eq_true rfl⟩ rfl (Nat.le_of_ble_eq_true rfl) ⟨Nat.le_refl _, Nat.le_refl _⟩ dL_isRaised_158) hW (fun H locs hW => ?_)
                refine lv_iload F.1 F.2.1 dL_isRaised_161 (lv_at hl 1 rfl) ?_
                have hJ20 : ∀ (v19 : Int32) (H : Heap) (locs : List Loc) (ls : Array Slot), v19 = (if v4 = 0 then p_X3_numberOfLine (μ 0) ln 6 else 0) → Wd E s H locs S7 → lv_has ls 8 [(7, .int x6), (6, .int v4), (5, .int (p_X3_numberOfLine (μ 0) ln 6)), (4, .int (p_X3_numberOfLine (μ 0) ln 11)), (3, .int (p_X3_numberOfLine (μ 0) ln 10)), (2, .int (p_X3_numberOfLine (μ 0) ln 5)), (0, .ref (ea E 11 0)), (1, .int ln)] → W p l e (rmO 4 91) s m ([.ref (ea E 11 0), .int ln] : List Value).toArray below meth c H locs 0 0 (MQ below (va_Qi (fun x μ' => x = (p_L_isRaised μ ln).1 ∧ μ' = (p_L_isRaised μ ln).2) (fun μ' t => MB E μ' t.heap) (AA E)) ([.ref (ea E 11 0), .int ln] : List Value).toArray s 0 0 (AA E)) (F0 m 172 ls [.int v19, .int (p_X3_numberOfLine (S7 0) ln 6)]) := by
                  intro v19 H locs ls ev19 hW hl
                  refine lv_icmp_ne (tgt := 179) F.1 F.2.1 dL_isRaised_172 (by decide) (fun h21 => ?_) (fun h21 => ?_)
                  · refine lv_iconst (v := 0) F.1 F.2.1 dL_isRaised_179 (by decide) ?_
                    subst ev19
                    subst ev15
                    exact hJ23 _ _ _ _ ((if_pos h12).trans ((if_pos h13).trans ((if_pos h17).trans (if_neg h21)))).symm hW (lv_sub hl [0, 1, 2, 3, 4, 5, 6, 7] rfl)
                  · refine lv_iconst (v := 1) F.1 F.2.1 dL_isRaised_175 (by decide) ?_
                    refine lv_goto (tgt := 180) F.1 F.2.1 dL_isRaised_176 (by decide) ?_
                    subst ev19
                    subst ev15
                    exact hJ23 _ _ _ _ ((if_pos h12).trans ((if_pos h13).trans ((if_pos h17).trans (if_pos h21)))).symm hW (lv_sub hl [0, 1, 2, 3, 4, 5, 6, 7] rfl)
                refine lv_if_eq (tgt := 170) F.1 F.2.1 dL_isRaised_163 (by decide) (fun h18 => ?_) (fun h18 => ?_)
                · refine lv_iload F.1 F.2.1 dL_isRaised_170 (lv_at hl 2 rfl) ?_
                  exact hJ20 _ _ _ _ (if_pos h18).symm hW (lv_sub hl [0, 1, 2, 3, 4, 5, 6, 7] rfl)
                · refine lv_iconst (v := 0) F.1 F.2.1 dL_isRaised_166 (by decide) ?_
                  refine lv_goto (tgt := 172) F.1 F.2.1 dL_isRaised_167 (by decide) ?_
                  exact hJ20 _ _ _ _ (if_neg h18).symm hW (lv_sub hl [0, 1, 2, 3, 4, 5, 6, 7] rfl)
            refine lv_if_eq (tgt := 149) F.1 F.2.1 dL_isRaised_142 (by decide) (fun h14 => ?_) (fun h14 => ?_)
            · refine lv_iconst (v := 1) F.1 F.2.1 dL_isRaised_149 (by decide) ?_
              exact hJ16 _ _ _ _ (if_pos h14).symm hW (lv_sub hl [0, 1, 2, 3, 4, 5, 6, 7] rfl)
            · refine lv_iconst (v := 0) F.1 F.2.1 dL_isRaised_145 (by decide) ?_
              refine lv_goto (tgt := 150) F.1 F.2.1 dL_isRaised_146 (by decide) ?_
              exact hJ16 _ _ _ _ (if_neg h14).symm hW (lv_sub hl [0, 1, 2, 3, 4, 5, 6, 7] rfl)
      refine lv_if_eq (tgt := 114) F.1 F.2.1 dL_isRaised_107 (by decide) (fun h9 => ?_) (fun h9 => ?_)
      · refine lv_iconst (v := 0) F.1 F.2.1 dL_isRaised_114 (by decide) ?_
        exact hJ11 _ _ _ _ (if_pos h9).symm hW (lv_sub hl [0, 1, 2, 3, 4, 5, 6, 7] rfl)
      · refine lv_iconst (v := 1) F.1 F.2.1 dL_isRaised_110 (by decide) ?_
        refine lv_goto (tgt := 115) F.1 F.2.1 dL_isRaised_111 (by decide) ?_
        exact hJ11 _ _ _ _ (if_neg h9).symm hW (lv_sub hl [0, 1, 2, 3, 4, 5, 6, 7] rfl)
    · refine lv_iload F.1 F.2.1 dL_isRaised_80 (lv_at hl 0 rfl) ?_
      refine lv_bipush (v := (-5)) F.1 F.2.1 dL_isRaised_82 (by decide) ?_
      have hJ27 : ∀ (v26 : Int32) (H : Heap) (locs : List Loc) (ls : Array Slot), v26 = (if x6 = (-5) then (if (p_X3_numberOfLine (S7 0) ln 5) = (p_X3_numberOfLine (μ 0) ln 5) then 1 else 0) else 0) → Wd E s H locs S7 → lv_has ls 8 [(7, .int x6), (6, .int v4), (5, .int (p_X3_numberOfLine (μ 0) ln 6)), (4, .int (p_X3_numberOfLine (μ 0) ln 11)), (3, .int (p_X3_numberOfLine (μ 0) ln 10)), (2, .int (p_X3_numberOfLine (μ 0) ln 5)), (0, .ref (ea E 11 0)), (1, .int ln)] → W p l e (rmO 4 91) s m ([.ref (ea E 11 0), .int ln] : List Value).toArray below meth c H locs 0 0 (MQ below (va_Qi (fun x μ' => x = (p_L_isRaised μ ln).1 ∧ μ' = (p_L_isRaised μ ln).2) (fun μ' t => MB E μ' t.heap) (AA E)) ([.ref (ea E 11 0), .int ln] : List Value).toArray s 0 0 (AA E)) (F0 m 102 ls [.int v26]) := by
        intro v26 H locs ls ev26 hW hl
        have hq : ((v26 : Int32), S7) = p_L_isRaised μ ln := by
          subst ev26
          subst eS7
          subst ex6
          subst ev4
          exact (if_pos h8).symm
        exact jri F hr0 hlk hW (znar (by rw [ev26]; repeat' (first | refine iteZ ?_ ?_ | exact Or.inl rfl | exact Or.inr rfl))) dL_isRaised_102 ⟨congrArg Prod.fst hq, congrArg Prod.snd hq⟩
      refine lv_icmp_ne (tgt := 101) F.1 F.2.1 dL_isRaised_84 (by decide) (fun h24 => ?_) (fun h24 => ?_)
      · refine lv_iconst (v := 0) F.1 F.2.1 dL_isRaised_101 (by decide) ?_
        exact hJ27 _ _ _ _ (if_neg h24).symm hW (lv_sub hl [0, 1, 2, 3, 4, 5, 6, 7] rfl)
      · refine lv_aload_n F.1 F.2.1 dL_isRaised_87 rfl (lv_at hl 6 rfl) ?_
        refine lv_iload_n F.1 F.2.1 dL_isRaised_88 rfl (lv_at hl 7 rfl) ?_
        refine lv_iconst (v := 5) F.1 F.2.1 dL_isRaised_89 (by decide) ?_
        refine jcir (jrunV (As := [.int ln, .int 5]) (rest := []) F hT hW yc_X6_ofLine yv_X6_ofLine ml_L_8 oH0 (by decide) rfl (r_ofLine l E S7 rfl (by rw [eS7]; exact hc2) ln 5) rfl hl.1 ⟨Nat.le_of_ble_eq_true rfl, Nat.le_of_ble_eq_true rfl⟩ rfl (Nat.le_of_ble_eq_true rfl) ⟨Nat.le_refl _, Nat.le_refl _⟩ dL_isRaised_90) hW (fun H locs hW => ?_)
        refine lv_iload_n F.1 F.2.1 dL_isRaised_93 rfl (lv_at hl 5 rfl) ?_
        refine lv_icmp_ne (tgt := 101) F.1 F.2.1 dL_isRaised_94 (by decide) (fun h25 => ?_) (fun h25 => ?_)
        · refine lv_iconst (v := 0) F.1 F.2.1 dL_isRaised_101 (by decide) ?_
          exact hJ27 _ _ _ _ ((if_pos h24).trans (if_neg h25)).symm hW (lv_sub hl [0, 1, 2, 3, 4, 5, 6, 7] rfl)
        · refine lv_iconst (v := 1) F.1 F.2.1 dL_isRaised_97 (by decide) ?_
          refine lv_goto (tgt := 102) F.1 F.2.1 dL_isRaised_98 (by decide) ?_
          exact hJ27 _ _ _ _ ((if_pos h24).trans (if_pos h25)).symm hW (lv_sub hl [0, 1, 2, 3, 4, 5, 6, 7] rfl)
  refine lv_if_ne (tgt := 60) F.1 F.2.1 dL_isRaised_34 (by decide) (fun h1 => ?_) (fun h1 => ?_)
  · refine lv_iconst (v := 0) F.1 F.2.1 dL_isRaised_60 (by decide) ?_
    exact hJ5 _ _ _ _ (if_neg h1).symm hW (lv_sub hl [0, 1, 2, 3, 4, 5] rfl)
  · refine lv_aload_n F.1 F.2.1 dL_isRaised_37 rfl (lv_at hl 4 rfl) ?_
    refine lv_iload_n F.1 F.2.1 dL_isRaised_38 rfl (lv_at hl 5 rfl) ?_
    refine lv_iconst (v := 4) F.1 F.2.1 dL_isRaised_39 (by decide) ?_
    refine jcir (jrunV (As := [.int ln, .int 4]) (rest := []) F hT hW yc_X6_ofLine yv_X6_ofLine ml_L_8 oH0 (by decide) rfl (r_ofLine l E μ rfl hc ln 4) rfl hl.1 ⟨Nat.le_of_ble_eq_true rfl, Nat.le_of_ble_eq_true rfl⟩ rfl (Nat.le_of_ble_eq_true rfl) ⟨Nat.le_refl _, Nat.le_refl _⟩ dL_isRaised_40) hW (fun H locs hW => ?_)
    refine lv_if_eq (tgt := 56) F.1 F.2.1 dL_isRaised_43 (by decide) (fun h2 => ?_) (fun h2 => ?_)
    · refine lv_iconst (v := 1) F.1 F.2.1 dL_isRaised_56 (by decide) ?_
      refine lv_goto (tgt := 61) F.1 F.2.1 dL_isRaised_57 (by decide) ?_
      exact hJ5 _ _ _ _ ((if_pos h1).trans (if_pos h2)).symm hW (lv_sub hl [0, 1, 2, 3, 4, 5] rfl)
    · refine lv_aload_n F.1 F.2.1 dL_isRaised_46 rfl (lv_at hl 4 rfl) ?_
      refine lv_bipush (v := 17) F.1 F.2.1 dL_isRaised_47 (by decide) ?_
      refine jcir (jrunV (As := [.int 17]) (rest := []) F hT hW yc_X6_count yv_X6_count ml_L_14 oH0 (by decide) rfl (r_count l E μ rfl hc 17 (by decide) (by decide)) rfl hl.1 ⟨Nat.le_of_ble_eq_true rfl, Nat.le_of_ble_eq_true rfl⟩ rfl (Nat.le_of_ble_eq_true rfl) ⟨Nat.le_refl _, Nat.le_refl _⟩ dL_isRaised_49) hW (fun H locs hW => ?_)
      refine lv_iconst (v := 1) F.1 F.2.1 dL_isRaised_52 (by decide) ?_
      refine lv_icmp_ne (tgt := 60) F.1 F.2.1 dL_isRaised_53 (by decide) (fun h3 => ?_) (fun h3 => ?_)
      · refine lv_iconst (v := 0) F.1 F.2.1 dL_isRaised_60 (by decide) ?_
        exact hJ5 _ _ _ _ ((if_pos h1).trans ((if_neg h2).trans (if_neg h3))).symm hW (lv_sub hl [0, 1, 2, 3, 4, 5] rfl)
      · refine lv_iconst (v := 1) F.1 F.2.1 dL_isRaised_56 (by decide) ?_
        refine lv_goto (tgt := 61) F.1 F.2.1 dL_isRaised_57 (by decide) ?_
        exact hJ5 _ _ _ _ ((if_pos h1).trans ((if_neg h2).trans (if_pos h3))).symm hW (lv_sub hl [0, 1, 2, 3, 4, 5] rfl)

def p_L_isHeld (μ : Mu) (ln : Int32) (dv : Int32) (up : Int32) : Int32 × Mu :=
  let v2 : Int32 := (if up = 1 then (p_X3_numberOfLine (μ 0) ln 9) ||| ((1 : Int32) <<< (dv &&& 31)) else (p_X3_numberOfLine (μ 0) ln 9) &&& (((1 : Int32) <<< (dv &&& 31)) ^^^ (-1)))
  let x4 : Int32 := (p_X6_hold μ ln dv up).1
  let S5 : Mu := (p_X6_hold μ ln dv up).2
  if (p_X3_numberOfLine (S5 0) ln 3) = 0 then
    let v21 : Int32 := (if x4 = (-5) then 1 else 0)
    ((v21 : Int32), S5)
  else
    let v9 : Int32 := (if v2 = 0 then 0 else (if 0 ≤ (p_X3_numberOfLine (S5 0) ln 8) then 0 else 1))
    let v18 : Int32 := (if x4 = v2 then (if (p_X3_numberOfLine (S5 0) ln 9) = v2 then (let v15 : Int32 := (if v9 = 0 then (-6) else (if 0 ≤ (p_X3_numberOfLine (μ 0) ln 6) then p_X3_numberOfLine (μ 0) ln 6 else 0)); (if (p_X3_numberOfLine (S5 0) ln 6) = v15 then 1 else 0)) else 0) else 0)
    ((v18 : Int32), S5)

set_option maxHeartbeats 4000000 in
set_option maxRecDepth 100000 in
theorem c_L_isHeld (l : Launch) (E : mE) (μ : Mu) (ln : Int32) (dv : Int32) (up : Int32) (hc : Wc μ) (hc2 : Wc (p_X6_hold μ ln dv up).2) : CtI l E yL_isHeld cL_isHeld 9 (some .boolean) 4 90 [.ref (ea E 11 0), .int ln, .int dv, .int up] μ (fun x μ' => x = (p_L_isHeld μ ln dv up).1 ∧ μ' = (p_L_isHeld μ ln dv up).2) := by
  refine jMet (by decide +kernel) (Nat.le_of_ble_eq_true rfl) ?_
  intro p e s m below meth c ls F hT hr0 hlk hW hl
  have F : CallFix p m c cL_isHeld 9 s _ TB RL := F
  have hl : lv_has ls 9 [(0, .ref (ea E 11 0)), (1, .int ln), (2, .int dv), (3, .int up)] := hl
  refine lv_aload_n F.1 F.2.1 dL_isHeld_0 rfl (lv_at hl 0 rfl) ?_
  refine lv_iload_n F.1 F.2.1 dL_isHeld_1 rfl (lv_at hl 1 rfl) ?_
  refine lv_bipush (v := 9) F.1 F.2.1 dL_isHeld_2 (by decide) ?_
  refine jcir (jrunV (As := [.int ln, .int 9]) (rest := []) F hT hW yc_X6_ofLine yv_X6_ofLine ml_L_8 oH0 (by decide) rfl (r_ofLine l E μ rfl hc ln 9) rfl hl.1 ⟨Nat.le_of_ble_eq_true rfl, Nat.le_of_ble_eq_true rfl⟩ rfl (Nat.le_of_ble_eq_true rfl) ⟨Nat.le_refl _, Nat.le_refl _⟩ dL_isHeld_4) hW (fun H locs hW => ?_)
  refine lv_istore (lv' := [(4, .int (p_X3_numberOfLine (μ 0) ln 9)), (0, .ref (ea E 11 0)), (1, .int ln), (2, .int dv), (3, .int up)]) F.1 F.2.1 dL_isHeld_7 hl (by decide) rfl (fun ls hl => ?_)
  refine lv_iload_n F.1 F.2.1 dL_isHeld_9 rfl (lv_at hl 4 rfl) ?_
  refine lv_iconst (v := 1) F.1 F.2.1 dL_isHeld_10 (by decide) ?_
  have hJ3 : ∀ (v2 : Int32) (H : Heap) (locs : List Loc) (ls : Array Slot), v2 = (if up = 1 then (p_X3_numberOfLine (μ 0) ln 9) ||| ((1 : Int32) <<< (dv &&& 31)) else (p_X3_numberOfLine (μ 0) ln 9) &&& (((1 : Int32) <<< (dv &&& 31)) ^^^ (-1))) → Wd E s H locs μ → lv_has ls 9 [(4, .int (p_X3_numberOfLine (μ 0) ln 9)), (0, .ref (ea E 11 0)), (1, .int ln), (2, .int dv), (3, .int up)] → W p l e (rmO 4 90) s m ([.ref (ea E 11 0), .int ln, .int dv, .int up] : List Value).toArray below meth c H locs 0 0 (MQ below (va_Qi (fun x μ' => x = (p_L_isHeld μ ln dv up).1 ∧ μ' = (p_L_isHeld μ ln dv up).2) (fun μ' t => MB E μ' t.heap) (AA E)) ([.ref (ea E 11 0), .int ln, .int dv, .int up] : List Value).toArray s 0 0 (AA E)) (F0 m 31 ls [.int v2]) := by
    intro v2 H locs ls ev2 hW hl
    refine lv_istore (lv' := [(5, .int v2), (4, .int (p_X3_numberOfLine (μ 0) ln 9)), (0, .ref (ea E 11 0)), (1, .int ln), (2, .int dv), (3, .int up)]) F.1 F.2.1 dL_isHeld_31 hl (by decide) rfl (fun ls hl => ?_)
    refine lv_aload_n F.1 F.2.1 dL_isHeld_33 rfl (lv_at hl 2 rfl) ?_
    refine lv_iload_n F.1 F.2.1 dL_isHeld_34 rfl (lv_at hl 3 rfl) ?_
    refine lv_bipush (v := 6) F.1 F.2.1 dL_isHeld_35 (by decide) ?_
    refine jcir (jrunV (As := [.int ln, .int 6]) (rest := []) F hT hW yc_X6_ofLine yv_X6_ofLine ml_L_8 oH0 (by decide) rfl (r_ofLine l E μ rfl hc ln 6) rfl hl.1 ⟨Nat.le_of_ble_eq_true rfl, Nat.le_of_ble_eq_true rfl⟩ rfl (Nat.le_of_ble_eq_true rfl) ⟨Nat.le_refl _, Nat.le_refl _⟩ dL_isHeld_37) hW (fun H locs hW => ?_)
    refine lv_istore (lv' := [(6, .int (p_X3_numberOfLine (μ 0) ln 6)), (5, .int v2), (4, .int (p_X3_numberOfLine (μ 0) ln 9)), (0, .ref (ea E 11 0)), (1, .int ln), (2, .int dv), (3, .int up)]) F.1 F.2.1 dL_isHeld_40 hl (by decide) rfl (fun ls hl => ?_)
    refine lv_aload_n F.1 F.2.1 dL_isHeld_42 rfl (lv_at hl 3 rfl) ?_
    refine lv_iload_n F.1 F.2.1 dL_isHeld_43 rfl (lv_at hl 4 rfl) ?_
    refine lv_iload_n F.1 F.2.1 dL_isHeld_44 rfl (lv_at hl 5 rfl) ?_
    refine lv_iload_n F.1 F.2.1 dL_isHeld_45 rfl (lv_at hl 6 rfl) ?_
    refine jciG (jrunV (As := [.int ln, .int dv, .int up]) (rest := []) F hT hW yc_X6_hold yv_X6_hold ml_L_40 oH0 (by decide) rfl (c_X6_hold l E μ ln dv up (by first | assumption | omega)) rfl hl.1 ⟨Nat.le_of_ble_eq_true rfl, Nat.le_of_ble_eq_true rfl⟩ rfl (Nat.le_of_ble_eq_true rfl) ⟨Nat.le_refl _, Nat.le_refl _⟩ dL_isHeld_46) hW (fun x4 S5 H locs ex4 eS5 hW => ?_)
    refine lv_istore (lv' := [(7, .int x4), (6, .int (p_X3_numberOfLine (μ 0) ln 6)), (5, .int v2), (4, .int (p_X3_numberOfLine (μ 0) ln 9)), (0, .ref (ea E 11 0)), (1, .int ln), (2, .int dv), (3, .int up)]) F.1 F.2.1 dL_isHeld_49 hl (by decide) rfl (fun ls hl => ?_)
    refine lv_aload_n F.1 F.2.1 dL_isHeld_51 rfl (lv_at hl 4 rfl) ?_
    refine lv_iload_n F.1 F.2.1 dL_isHeld_52 rfl (lv_at hl 5 rfl) ?_
    refine lv_iconst (v := 3) F.1 F.2.1 dL_isHeld_53 (by decide) ?_
    refine jcir (jrunV (As := [.int ln, .int 3]) (rest := []) F hT hW yc_X6_ofLine yv_X6_ofLine ml_L_8 oH0 (by decide) rfl (r_ofLine l E S5 rfl (by rw [eS5]; exact hc2) ln 3) rfl hl.1 ⟨Nat.le_of_ble_eq_true rfl, Nat.le_of_ble_eq_true rfl⟩ rfl (Nat.le_of_ble_eq_true rfl) ⟨Nat.le_refl _, Nat.le_refl _⟩ dL_isHeld_54) hW (fun H locs hW => ?_)
    refine lv_if_ne (tgt := 73) F.1 F.2.1 dL_isHeld_57 (by decide) (fun h6 => ?_) (fun h6 => ?_)
    · refine lv_iload F.1 F.2.1 dL_isHeld_73 (lv_at hl 2 rfl) ?_
      have hJ10 : ∀ (v9 : Int32) (H : Heap) (locs : List Loc) (ls : Array Slot), v9 = (if v2 = 0 then 0 else (if 0 ≤ (p_X3_numberOfLine (S5 0) ln 8) then 0 else 1)) → Wd E s H locs S5 → lv_has ls 9 [(7, .int x4), (6, .int (p_X3_numberOfLine (μ 0) ln 6)), (5, .int v2), (4, .int (p_X3_numberOfLine (μ 0) ln 9)), (0, .ref (ea E 11 0)), (1, .int ln), (2, .int dv), (3, .int up)] → W p l e (rmO 4 90) s m ([.ref (ea E 11 0), .int ln, .int dv, .int up] : List Value).toArray below meth c H locs 0 0 (MQ below (va_Qi (fun x μ' => x = (p_L_isHeld μ ln dv up).1 ∧ μ' = (p_L_isHeld μ ln dv up).2) (fun μ' t => MB E μ' t.heap) (AA E)) ([.ref (ea E 11 0), .int ln, .int dv, .int up] : List Value).toArray s 0 0 (AA E)) (F0 m 93 ls [.int v9]) := by
        intro v9 H locs ls ev9 hW hl
        refine lv_istore (lv' := [(8, .int v9), (7, .int x4), (6, .int (p_X3_numberOfLine (μ 0) ln 6)), (5, .int v2), (4, .int (p_X3_numberOfLine (μ 0) ln 9)), (0, .ref (ea E 11 0)), (1, .int ln), (2, .int dv), (3, .int up)]) F.1 F.2.1 dL_isHeld_93 hl (by decide) rfl (fun ls hl => ?_)
        refine lv_iload F.1 F.2.1 dL_isHeld_95 (lv_at hl 1 rfl) ?_
        refine lv_iload F.1 F.2.1 dL_isHeld_97 (lv_at hl 3 rfl) ?_
        have hJ19 : ∀ (v18 : Int32) (H : Heap) (locs : List Loc) (ls : Array Slot), v18 = (if x4 = v2 then (if (p_X3_numberOfLine (S5 0) ln 9) = v2 then (let v15 : Int32 := (if v9 = 0 then (-6) else (if 0 ≤ (p_X3_numberOfLine (μ 0) ln 6) then p_X3_numberOfLine (μ 0) ln 6 else 0)); (if (p_X3_numberOfLine (S5 0) ln 6) = v15 then 1 else 0)) else 0) else 0) → Wd E s H locs S5 → lv_has ls 9 [(8, .int v9), (7, .int x4), (6, .int (p_X3_numberOfLine (μ 0) ln 6)), (5, .int v2), (4, .int (p_X3_numberOfLine (μ 0) ln 9)), (0, .ref (ea E 11 0)), (1, .int ln), (2, .int dv), (3, .int up)] → W p l e (rmO 4 90) s m ([.ref (ea E 11 0), .int ln, .int dv, .int up] : List Value).toArray below meth c H locs 0 0 (MQ below (va_Qi (fun x μ' => x = (p_L_isHeld μ ln dv up).1 ∧ μ' = (p_L_isHeld μ ln dv up).2) (fun μ' t => MB E μ' t.heap) (AA E)) ([.ref (ea E 11 0), .int ln, .int dv, .int up] : List Value).toArray s 0 0 (AA E)) (F0 m 150 ls [.int v18]) := by
          intro v18 H locs ls ev18 hW hl
          have hq : ((v18 : Int32), S5) = p_L_isHeld μ ln dv up := by
            subst ev18
            subst ev9
            subst eS5
            subst ex4
            subst ev2
            exact (if_neg h6).symm
          exact jri F hr0 hlk hW (znar (by rw [ev18]; repeat' (first | refine iteZ ?_ ?_ | exact Or.inl rfl | exact Or.inr rfl))) dL_isHeld_150 ⟨congrArg Prod.fst hq, congrArg Prod.snd hq⟩
        refine lv_icmp_ne (tgt := 149) F.1 F.2.1 dL_isHeld_99 (by decide) (fun h11 => ?_) (fun h11 => ?_)
        · refine lv_iconst (v := 0) F.1 F.2.1 dL_isHeld_149 (by decide) ?_
          exact hJ19 _ _ _ _ (if_neg h11).symm hW (lv_sub hl [0, 1, 2, 3, 4, 5, 6, 7, 8] rfl)
        · refine lv_aload_n F.1 F.2.1 dL_isHeld_102 rfl (lv_at hl 5 rfl) ?_
          refine lv_iload_n F.1 F.2.1 dL_isHeld_103 rfl (lv_at hl 6 rfl) ?_
          refine lv_bipush (v := 9) F.1 F.2.1 dL_isHeld_104 (by decide) ?_
          refine jcir (jrunV (As := [.int ln, .int 9]) (rest := []) F hT hW yc_X6_ofLine yv_X6_ofLine ml_L_8 oH0 (by decide) rfl (r_ofLine l E S5 rfl (by rw [eS5]; exact hc2) ln 9) rfl hl.1 ⟨Nat.le_of_ble_eq_true rfl, Nat.le_of_ble_eq_true rfl⟩ rfl (Nat.le_of_ble_eq_true rfl) ⟨Nat.le_refl _, Nat.le_refl _⟩ dL_isHeld_106) hW (fun H locs hW => ?_)
          refine lv_iload F.1 F.2.1 dL_isHeld_109 (lv_at hl 3 rfl) ?_
          refine lv_icmp_ne (tgt := 149) F.1 F.2.1 dL_isHeld_111 (by decide) (fun h12 => ?_) (fun h12 => ?_)
          · refine lv_iconst (v := 0) F.1 F.2.1 dL_isHeld_149 (by decide) ?_
            exact hJ19 _ _ _ _ ((if_pos h11).trans (if_neg h12)).symm hW (lv_sub hl [0, 1, 2, 3, 4, 5, 6, 7, 8] rfl)
          · refine lv_aload_n F.1 F.2.1 dL_isHeld_114 rfl (lv_at hl 5 rfl) ?_
            refine lv_iload_n F.1 F.2.1 dL_isHeld_115 rfl (lv_at hl 6 rfl) ?_
            refine lv_bipush (v := 6) F.1 F.2.1 dL_isHeld_116 (by decide) ?_
            refine jcir (jrunV (As := [.int ln, .int 6]) (rest := []) F hT hW yc_X6_ofLine yv_X6_ofLine ml_L_8 oH0 (by decide) rfl (r_ofLine l E S5 rfl (by rw [eS5]; exact hc2) ln 6) rfl hl.1 ⟨Nat.le_of_ble_eq_true rfl, Nat.le_of_ble_eq_true rfl⟩ rfl (Nat.le_of_ble_eq_true rfl) ⟨Nat.le_refl _, Nat.le_refl _⟩ dL_isHeld_118) hW (fun H locs hW => ?_)
            refine lv_iload F.1 F.2.1 dL_isHeld_121 (lv_at hl 0 rfl) ?_
            have hJ16 : ∀ (v15 : Int32) (H : Heap) (locs : List Loc) (ls : Array Slot), v15 = (if v9 = 0 then (-6) else (if 0 ≤ (p_X3_numberOfLine (μ 0) ln 6) then p_X3_numberOfLine (μ 0) ln 6 else 0)) → Wd E s H locs S5 → lv_has ls 9 [(8, .int v9), (7, .int x4), (6, .int (p_X3_numberOfLine (μ 0) ln 6)), (5, .int v2), (4, .int (p_X3_numberOfLine (μ 0) ln 9)), (0, .ref (ea E 11 0)), (1, .int ln), (2, .int dv), (3, .int up)] → W p l e (rmO 4 90) s m ([.ref (ea E 11 0), .int ln, .int dv, .int up] : List Value).toArray below meth c H locs 0 0 (MQ below (va_Qi (fun x μ' => x = (p_L_isHeld μ ln dv up).1 ∧ μ' = (p_L_isHeld μ ln dv up).2) (fun μ' t => MB E μ' t.heap) (AA E)) ([.ref (ea E 11 0), .int ln, .int dv, .int up] : List Value).toArray s 0 0 (AA E)) (F0 m 142 ls [.int v15, .int (p_X3_numberOfLine (S5 0) ln 6)]) := by
              intro v15 H locs ls ev15 hW hl
              refine lv_icmp_ne (tgt := 149) F.1 F.2.1 dL_isHeld_142 (by decide) (fun h17 => ?_) (fun h17 => ?_)
              · refine lv_iconst (v := 0) F.1 F.2.1 dL_isHeld_149 (by decide) ?_
                subst ev15
                exact hJ19 _ _ _ _ ((if_pos h11).trans ((if_pos h12).trans (if_neg h17))).symm hW (lv_sub hl [0, 1, 2, 3, 4, 5, 6, 7, 8] rfl)
              · refine lv_iconst (v := 1) F.1 F.2.1 dL_isHeld_145 (by decide) ?_
                refine lv_goto (tgt := 150) F.1 F.2.1 dL_isHeld_146 (by decide) ?_
                subst ev15
                exact hJ19 _ _ _ _ ((if_pos h11).trans ((if_pos h12).trans (if_pos h17))).symm hW (lv_sub hl [0, 1, 2, 3, 4, 5, 6, 7, 8] rfl)
            refine lv_if_ne (tgt := 131) F.1 F.2.1 dL_isHeld_123 (by decide) (fun h13 => ?_) (fun h13 => ?_)
            · refine lv_iload F.1 F.2.1 dL_isHeld_131 (lv_at hl 2 rfl) ?_
              refine lv_if_ge (tgt := 140) F.1 F.2.1 dL_isHeld_133 (by decide) (fun h14 => ?_) (fun h14 => ?_)
              · refine lv_iload F.1 F.2.1 dL_isHeld_140 (lv_at hl 2 rfl) ?_
                exact hJ16 _ _ _ _ ((if_neg h13).trans (if_pos h14)).symm hW (lv_sub hl [0, 1, 2, 3, 4, 5, 6, 7, 8] rfl)
              · refine lv_iconst (v := 0) F.1 F.2.1 dL_isHeld_136 (by decide) ?_
                refine lv_goto (tgt := 142) F.1 F.2.1 dL_isHeld_137 (by decide) ?_
                exact hJ16 _ _ _ _ ((if_neg h13).trans (if_neg h14)).symm hW (lv_sub hl [0, 1, 2, 3, 4, 5, 6, 7, 8] rfl)
            · refine lv_bipush (v := (-6)) F.1 F.2.1 dL_isHeld_126 (by decide) ?_
              refine lv_goto (tgt := 142) F.1 F.2.1 dL_isHeld_128 (by decide) ?_
              exact hJ16 _ _ _ _ (if_pos h13).symm hW (lv_sub hl [0, 1, 2, 3, 4, 5, 6, 7, 8] rfl)
      refine lv_if_eq (tgt := 92) F.1 F.2.1 dL_isHeld_75 (by decide) (fun h7 => ?_) (fun h7 => ?_)
      · refine lv_iconst (v := 0) F.1 F.2.1 dL_isHeld_92 (by decide) ?_
        exact hJ10 _ _ _ _ (if_pos h7).symm hW (lv_sub hl [0, 1, 2, 3, 4, 5, 6, 7] rfl)
      · refine lv_aload_n F.1 F.2.1 dL_isHeld_78 rfl (lv_at hl 4 rfl) ?_
        refine lv_iload_n F.1 F.2.1 dL_isHeld_79 rfl (lv_at hl 5 rfl) ?_
        refine lv_bipush (v := 8) F.1 F.2.1 dL_isHeld_80 (by decide) ?_
        refine jcir (jrunV (As := [.int ln, .int 8]) (rest := []) F hT hW yc_X6_ofLine yv_X6_ofLine ml_L_8 oH0 (by decide) rfl (r_ofLine l E S5 rfl (by rw [eS5]; exact hc2) ln 8) rfl hl.1 ⟨Nat.le_of_ble_eq_true rfl, Nat.le_of_ble_eq_true rfl⟩ rfl (Nat.le_of_ble_eq_true rfl) ⟨Nat.le_refl _, Nat.le_refl _⟩ dL_isHeld_82) hW (fun H locs hW => ?_)
        refine lv_if_ge (tgt := 92) F.1 F.2.1 dL_isHeld_85 (by decide) (fun h8 => ?_) (fun h8 => ?_)
        · refine lv_iconst (v := 0) F.1 F.2.1 dL_isHeld_92 (by decide) ?_
          exact hJ10 _ _ _ _ ((if_neg h7).trans (if_pos h8)).symm hW (lv_sub hl [0, 1, 2, 3, 4, 5, 6, 7] rfl)
        · refine lv_iconst (v := 1) F.1 F.2.1 dL_isHeld_88 (by decide) ?_
          refine lv_goto (tgt := 93) F.1 F.2.1 dL_isHeld_89 (by decide) ?_
          exact hJ10 _ _ _ _ ((if_neg h7).trans (if_neg h8)).symm hW (lv_sub hl [0, 1, 2, 3, 4, 5, 6, 7] rfl)
    · refine lv_iload F.1 F.2.1 dL_isHeld_60 (lv_at hl 0 rfl) ?_
      refine lv_bipush (v := (-5)) F.1 F.2.1 dL_isHeld_62 (by decide) ?_
      have hJ22 : ∀ (v21 : Int32) (H : Heap) (locs : List Loc) (ls : Array Slot), v21 = (if x4 = (-5) then 1 else 0) → Wd E s H locs S5 → lv_has ls 9 [(7, .int x4), (6, .int (p_X3_numberOfLine (μ 0) ln 6)), (5, .int v2), (4, .int (p_X3_numberOfLine (μ 0) ln 9)), (0, .ref (ea E 11 0)), (1, .int ln), (2, .int dv), (3, .int up)] → W p l e (rmO 4 90) s m ([.ref (ea E 11 0), .int ln, .int dv, .int up] : List Value).toArray below meth c H locs 0 0 (MQ below (va_Qi (fun x μ' => x = (p_L_isHeld μ ln dv up).1 ∧ μ' = (p_L_isHeld μ ln dv up).2) (fun μ' t => MB E μ' t.heap) (AA E)) ([.ref (ea E 11 0), .int ln, .int dv, .int up] : List Value).toArray s 0 0 (AA E)) (F0 m 72 ls [.int v21]) := by
        intro v21 H locs ls ev21 hW hl
        have hq : ((v21 : Int32), S5) = p_L_isHeld μ ln dv up := by
          subst ev21
          subst eS5
          subst ex4
          subst ev2
          exact (if_pos h6).symm
        exact jri F hr0 hlk hW (znar (by rw [ev21]; repeat' (first | refine iteZ ?_ ?_ | exact Or.inl rfl | exact Or.inr rfl))) dL_isHeld_72 ⟨congrArg Prod.fst hq, congrArg Prod.snd hq⟩
      refine lv_icmp_ne (tgt := 71) F.1 F.2.1 dL_isHeld_64 (by decide) (fun h20 => ?_) (fun h20 => ?_)
      · refine lv_iconst (v := 0) F.1 F.2.1 dL_isHeld_71 (by decide) ?_
        exact hJ22 _ _ _ _ (if_neg h20).symm hW (lv_sub hl [0, 1, 2, 3, 4, 5, 6, 7] rfl)
      · refine lv_iconst (v := 1) F.1 F.2.1 dL_isHeld_67 (by decide) ?_
        refine lv_goto (tgt := 72) F.1 F.2.1 dL_isHeld_68 (by decide) ?_
        exact hJ22 _ _ _ _ (if_pos h20).symm hW (lv_sub hl [0, 1, 2, 3, 4, 5, 6, 7] rfl)
  refine lv_icmp_ne (tgt := 23) F.1 F.2.1 dL_isHeld_11 (by decide) (fun h1 => ?_) (fun h1 => ?_)
  · refine lv_iload F.1 F.2.1 dL_isHeld_23 (lv_at hl 0 rfl) ?_
    refine lv_iconst (v := 1) F.1 F.2.1 dL_isHeld_25 (by decide) ?_
    refine lv_iload_n F.1 F.2.1 dL_isHeld_26 rfl (lv_at hl 3 rfl) ?_
    refine lv_ishl F.1 F.2.1 dL_isHeld_27 ?_
    refine lv_iconst (v := (-1)) F.1 F.2.1 dL_isHeld_28 (by decide) ?_
    refine lv_ixor F.1 F.2.1 dL_isHeld_29 ?_
    refine lv_iand F.1 F.2.1 dL_isHeld_30 ?_
    exact hJ3 _ _ _ _ (if_neg h1).symm hW (lv_sub hl [0, 1, 2, 3, 4] rfl)
  · refine lv_iload F.1 F.2.1 dL_isHeld_14 (lv_at hl 0 rfl) ?_
    refine lv_iconst (v := 1) F.1 F.2.1 dL_isHeld_16 (by decide) ?_
    refine lv_iload_n F.1 F.2.1 dL_isHeld_17 rfl (lv_at hl 3 rfl) ?_
    refine lv_ishl F.1 F.2.1 dL_isHeld_18 ?_
    refine lv_ior F.1 F.2.1 dL_isHeld_19 ?_
    refine lv_goto (tgt := 31) F.1 F.2.1 dL_isHeld_20 (by decide) ?_
    exact hJ3 _ _ _ _ (if_pos h1).symm hW (lv_sub hl [0, 1, 2, 3, 4] rfl)

def p_L_isTimer (μ : Mu) (ln : Int32) (pe : Int32) (fi : Int32) : Int32 × Mu :=
  let x1 : Int32 := (p_X6_timer μ ln pe ((p_X3_numberOfAll (μ 0) 0) + fi)).1
  let S2 : Mu := (p_X6_timer μ ln pe ((p_X3_numberOfAll (μ 0) 0) + fi)).2
  if (p_X3_numberOfAll (μ 0) 2) = 6 then
    let v5 : Int32 := (if (p_X3_numberOfAll (μ 0) 2) = 6 then (-4) else (-5))
    let v9 : Int32 := (if x1 = v5 then (if (p_X3_numberOfAll (S2 0) 2) = (p_X3_numberOfAll (μ 0) 2) then 1 else 0) else 0)
    ((v9 : Int32), S2)
  else
    if (p_X3_numberOfLine (S2 0) ln 3) = 1 then
      let v19 : Int32 := (if (p_X3_numberOfAll (μ 0) 2) = 6 then (-4) else (-5))
      let v23 : Int32 := (if x1 = v19 then (if (p_X3_numberOfAll (S2 0) 2) = (p_X3_numberOfAll (μ 0) 2) then 1 else 0) else 0)
      ((v23 : Int32), S2)
    else
      let v16 : Int32 := (if x1 = (p_X3_numberOfAll (μ 0) 2) then (if (p_X3_numberOfTimer (S2 0) (p_X3_numberOfAll (μ 0) 2) 0) = ln then (if (p_X3_numberOfTimer (S2 0) (p_X3_numberOfAll (μ 0) 2) 1) = pe then (if (p_X3_numberOfTimer (S2 0) (p_X3_numberOfAll (μ 0) 2) 2) = ((p_X3_numberOfAll (S2 0) 0) + fi) then 1 else 0) else 0) else 0) else 0)
      ((v16 : Int32), S2)

set_option maxHeartbeats 4000000 in
set_option maxRecDepth 100000 in
theorem c_L_isTimer (l : Launch) (E : mE) (μ : Mu) (ln : Int32) (pe : Int32) (fi : Int32) (hc : Wc μ) (hc2 : Wc (p_X6_timer μ ln pe (p_X3_numberOfAll (μ 0) 0 + fi)).2) : CtI l E yL_isTimer cL_isTimer 6 (some .boolean) 4 91 [.ref (ea E 11 0), .int ln, .int pe, .int fi] μ (fun x μ' => x = (p_L_isTimer μ ln pe fi).1 ∧ μ' = (p_L_isTimer μ ln pe fi).2) := by
  refine jMet (by decide +kernel) (Nat.le_of_ble_eq_true rfl) ?_
  intro p e s m below meth c ls F hT hr0 hlk hW hl
  have F : CallFix p m c cL_isTimer 6 s _ TB RL := F
  have hl : lv_has ls 6 [(0, .ref (ea E 11 0)), (1, .int ln), (2, .int pe), (3, .int fi)] := hl
  refine lv_aload_n F.1 F.2.1 dL_isTimer_0 rfl (lv_at hl 0 rfl) ?_
  refine lv_iconst (v := 2) F.1 F.2.1 dL_isTimer_1 (by decide) ?_
  refine jcir (jrunV (As := [.int 2]) (rest := []) F hT hW yc_X6_count yv_X6_count ml_L_14 oH0 (by decide) rfl (r_count l E μ rfl hc 2 (by decide) (by decide)) rfl hl.1 ⟨Nat.le_of_ble_eq_true rfl, Nat.le_of_ble_eq_true rfl⟩ rfl (Nat.le_of_ble_eq_true rfl) ⟨Nat.le_refl _, Nat.le_refl _⟩ dL_isTimer_2) hW (fun H locs hW => ?_)
  refine lv_istore (lv' := [(4, .int (p_X3_numberOfAll (μ 0) 2)), (0, .ref (ea E 11 0)), (1, .int ln), (2, .int pe), (3, .int fi)]) F.1 F.2.1 dL_isTimer_5 hl (by decide) rfl (fun ls hl => ?_)
  refine lv_aload_n F.1 F.2.1 dL_isTimer_7 rfl (lv_at hl 1 rfl) ?_
  refine lv_iload_n F.1 F.2.1 dL_isTimer_8 rfl (lv_at hl 2 rfl) ?_
  refine lv_iload_n F.1 F.2.1 dL_isTimer_9 rfl (lv_at hl 3 rfl) ?_
  refine lv_aload_n F.1 F.2.1 dL_isTimer_10 rfl (lv_at hl 1 rfl) ?_
  refine lv_iconst (v := 0) F.1 F.2.1 dL_isTimer_11 (by decide) ?_
  refine jcir (jrunV (As := [.int 0]) (rest := [.int pe, .int ln, .ref (ea E 11 0)]) F hT hW yc_X6_count yv_X6_count ml_L_14 oH0 (by decide) rfl (r_count l E μ rfl hc 0 (by decide) (by decide)) rfl hl.1 ⟨Nat.le_of_ble_eq_true rfl, Nat.le_of_ble_eq_true rfl⟩ rfl (Nat.le_of_ble_eq_true rfl) ⟨Nat.le_refl _, Nat.le_refl _⟩ dL_isTimer_12) hW (fun H locs hW => ?_)
  refine lv_iload_n F.1 F.2.1 dL_isTimer_15 rfl (lv_at hl 4 rfl) ?_
  refine lv_iadd F.1 F.2.1 dL_isTimer_16 ?_
  refine jciG (jrunV (As := [.int ln, .int pe, .int ((p_X3_numberOfAll (μ 0) 0) + fi)]) (rest := []) F hT hW yc_X6_timer yv_X6_timer ml_L_44 oH0 (by decide) rfl (c_X6_timer l E μ ln pe ((p_X3_numberOfAll (μ 0) 0) + fi) (by first | assumption | omega)) rfl hl.1 ⟨Nat.le_of_ble_eq_true rfl, Nat.le_of_ble_eq_true rfl⟩ rfl (Nat.le_of_ble_eq_true rfl) ⟨Nat.le_refl _, Nat.le_refl _⟩ dL_isTimer_17) hW (fun x1 S2 H locs ex1 eS2 hW => ?_)
  refine lv_istore (lv' := [(5, .int x1), (4, .int (p_X3_numberOfAll (μ 0) 2)), (0, .ref (ea E 11 0)), (1, .int ln), (2, .int pe), (3, .int fi)]) F.1 F.2.1 dL_isTimer_20 hl (by decide) rfl (fun ls hl => ?_)
  refine lv_iload F.1 F.2.1 dL_isTimer_22 (lv_at hl 1 rfl) ?_
  refine lv_bipush (v := 6) F.1 F.2.1 dL_isTimer_24 (by decide) ?_
  refine lv_icmp_eq (tgt := 39) F.1 F.2.1 dL_isTimer_26 (by decide) (fun h3 => ?_) (fun h3 => ?_)
  · refine lv_iload F.1 F.2.1 dL_isTimer_39 (lv_at hl 0 rfl) ?_
    refine lv_iload F.1 F.2.1 dL_isTimer_41 (lv_at hl 1 rfl) ?_
    refine lv_bipush (v := 6) F.1 F.2.1 dL_isTimer_43 (by decide) ?_
    have hJ6 : ∀ (v5 : Int32) (H : Heap) (locs : List Loc) (ls : Array Slot), v5 = (if (p_X3_numberOfAll (μ 0) 2) = 6 then (-4) else (-5)) → Wd E s H locs S2 → lv_has ls 6 [(5, .int x1), (4, .int (p_X3_numberOfAll (μ 0) 2)), (0, .ref (ea E 11 0)), (1, .int ln), (2, .int pe), (3, .int fi)] → W p l e (rmO 4 91) s m ([.ref (ea E 11 0), .int ln, .int pe, .int fi] : List Value).toArray below meth c H locs 0 0 (MQ below (va_Qi (fun x μ' => x = (p_L_isTimer μ ln pe fi).1 ∧ μ' = (p_L_isTimer μ ln pe fi).2) (fun μ' t => MB E μ' t.heap) (AA E)) ([.ref (ea E 11 0), .int ln, .int pe, .int fi] : List Value).toArray s 0 0 (AA E)) (F0 m 55 ls [.int v5, .int x1]) := by
      intro v5 H locs ls ev5 hW hl
      have hJ10 : ∀ (v9 : Int32) (H : Heap) (locs : List Loc) (ls : Array Slot), v9 = (if x1 = v5 then (if (p_X3_numberOfAll (S2 0) 2) = (p_X3_numberOfAll (μ 0) 2) then 1 else 0) else 0) → Wd E s H locs S2 → lv_has ls 6 [(5, .int x1), (4, .int (p_X3_numberOfAll (μ 0) 2)), (0, .ref (ea E 11 0)), (1, .int ln), (2, .int pe), (3, .int fi)] → W p l e (rmO 4 91) s m ([.ref (ea E 11 0), .int ln, .int pe, .int fi] : List Value).toArray below meth c H locs 0 0 (MQ below (va_Qi (fun x μ' => x = (p_L_isTimer μ ln pe fi).1 ∧ μ' = (p_L_isTimer μ ln pe fi).2) (fun μ' t => MB E μ' t.heap) (AA E)) ([.ref (ea E 11 0), .int ln, .int pe, .int fi] : List Value).toArray s 0 0 (AA E)) (F0 m 73 ls [.int v9]) := by
        intro v9 H locs ls ev9 hW hl
        have hq : ((v9 : Int32), S2) = p_L_isTimer μ ln pe fi := by
          subst ev9
          subst ev5
          subst eS2
          subst ex1
          exact (if_pos h3).symm
        exact jri F hr0 hlk hW (znar (by rw [ev9]; repeat' (first | refine iteZ ?_ ?_ | exact Or.inl rfl | exact Or.inr rfl))) dL_isTimer_73 ⟨congrArg Prod.fst hq, congrArg Prod.snd hq⟩
      refine lv_icmp_ne (tgt := 72) F.1 F.2.1 dL_isTimer_55 (by decide) (fun h7 => ?_) (fun h7 => ?_)
      · refine lv_iconst (v := 0) F.1 F.2.1 dL_isTimer_72 (by decide) ?_
        exact hJ10 _ _ _ _ (if_neg h7).symm hW (lv_sub hl [0, 1, 2, 3, 4, 5] rfl)
      · refine lv_aload_n F.1 F.2.1 dL_isTimer_58 rfl (lv_at hl 2 rfl) ?_
        refine lv_iconst (v := 2) F.1 F.2.1 dL_isTimer_59 (by decide) ?_
        refine jcir (jrunV (As := [.int 2]) (rest := []) F hT hW yc_X6_count yv_X6_count ml_L_14 oH0 (by decide) rfl (r_count l E S2 rfl (by rw [eS2]; subst_vars; exact hc2) 2 (by decide) (by decide)) rfl hl.1 ⟨Nat.le_of_ble_eq_true rfl, Nat.le_of_ble_eq_true rfl⟩ rfl (Nat.le_of_ble_eq_true rfl) ⟨Nat.le_refl _, Nat.le_refl _⟩ dL_isTimer_60) hW (fun H locs hW => ?_)
        refine lv_iload F.1 F.2.1 dL_isTimer_63 (lv_at hl 1 rfl) ?_
        refine lv_icmp_ne (tgt := 72) F.1 F.2.1 dL_isTimer_65 (by decide) (fun h8 => ?_) (fun h8 => ?_)
        · refine lv_iconst (v := 0) F.1 F.2.1 dL_isTimer_72 (by decide) ?_
          exact hJ10 _ _ _ _ ((if_pos h7).trans (if_neg h8)).symm hW (lv_sub hl [0, 1, 2, 3, 4, 5] rfl)
        · refine lv_iconst (v := 1) F.1 F.2.1 dL_isTimer_68 (by decide) ?_
          refine lv_goto (tgt := 73) F.1 F.2.1 dL_isTimer_69 (by decide) ?_
          exact hJ10 _ _ _ _ ((if_pos h7).trans (if_pos h8)).symm hW (lv_sub hl [0, 1, 2, 3, 4, 5] rfl)
    refine lv_icmp_ne (tgt := 53) F.1 F.2.1 dL_isTimer_45 (by decide) (fun h4 => ?_) (fun h4 => ?_)
    · refine lv_bipush (v := (-5)) F.1 F.2.1 dL_isTimer_53 (by decide) ?_
      exact hJ6 _ _ _ _ (if_neg h4).symm hW (lv_sub hl [0, 1, 2, 3, 4, 5] rfl)
    · refine lv_bipush (v := (-4)) F.1 F.2.1 dL_isTimer_48 (by decide) ?_
      refine lv_goto (tgt := 55) F.1 F.2.1 dL_isTimer_50 (by decide) ?_
      exact hJ6 _ _ _ _ (if_pos h4).symm hW (lv_sub hl [0, 1, 2, 3, 4, 5] rfl)
  · refine lv_aload_n F.1 F.2.1 dL_isTimer_29 rfl (lv_at hl 2 rfl) ?_
    refine lv_iload_n F.1 F.2.1 dL_isTimer_30 rfl (lv_at hl 3 rfl) ?_
    refine lv_iconst (v := 3) F.1 F.2.1 dL_isTimer_31 (by decide) ?_
    refine jcir (jrunV (As := [.int ln, .int 3]) (rest := []) F hT hW yc_X6_ofLine yv_X6_ofLine ml_L_8 oH0 (by decide) rfl (r_ofLine l E S2 rfl (by rw [eS2]; subst_vars; exact hc2) ln 3) rfl hl.1 ⟨Nat.le_of_ble_eq_true rfl, Nat.le_of_ble_eq_true rfl⟩ rfl (Nat.le_of_ble_eq_true rfl) ⟨Nat.le_refl _, Nat.le_refl _⟩ dL_isTimer_32) hW (fun H locs hW => ?_)
    refine lv_iconst (v := 1) F.1 F.2.1 dL_isTimer_35 (by decide) ?_
    refine lv_icmp_ne (tgt := 74) F.1 F.2.1 dL_isTimer_36 (by decide) (fun h11 => ?_) (fun h11 => ?_)
    · refine lv_iload F.1 F.2.1 dL_isTimer_74 (lv_at hl 0 rfl) ?_
      refine lv_iload F.1 F.2.1 dL_isTimer_76 (lv_at hl 1 rfl) ?_
      have hJ17 : ∀ (v16 : Int32) (H : Heap) (locs : List Loc) (ls : Array Slot), v16 = (if x1 = (p_X3_numberOfAll (μ 0) 2) then (if (p_X3_numberOfTimer (S2 0) (p_X3_numberOfAll (μ 0) 2) 0) = ln then (if (p_X3_numberOfTimer (S2 0) (p_X3_numberOfAll (μ 0) 2) 1) = pe then (if (p_X3_numberOfTimer (S2 0) (p_X3_numberOfAll (μ 0) 2) 2) = ((p_X3_numberOfAll (S2 0) 0) + fi) then 1 else 0) else 0) else 0) else 0) → Wd E s H locs S2 → lv_has ls 6 [(5, .int x1), (4, .int (p_X3_numberOfAll (μ 0) 2)), (0, .ref (ea E 11 0)), (1, .int ln), (2, .int pe), (3, .int fi)] → W p l e (rmO 4 91) s m ([.ref (ea E 11 0), .int ln, .int pe, .int fi] : List Value).toArray below meth c H locs 0 0 (MQ below (va_Qi (fun x μ' => x = (p_L_isTimer μ ln pe fi).1 ∧ μ' = (p_L_isTimer μ ln pe fi).2) (fun μ' t => MB E μ' t.heap) (AA E)) ([.ref (ea E 11 0), .int ln, .int pe, .int fi] : List Value).toArray s 0 0 (AA E)) (F0 m 125 ls [.int v16]) := by
        intro v16 H locs ls ev16 hW hl
        have hq : ((v16 : Int32), S2) = p_L_isTimer μ ln pe fi := by
          subst ev16
          subst eS2
          subst ex1
          exact ((if_neg h3).trans (if_neg h11)).symm
        exact jri F hr0 hlk hW (znar (by rw [ev16]; repeat' (first | refine iteZ ?_ ?_ | exact Or.inl rfl | exact Or.inr rfl))) dL_isTimer_125 ⟨congrArg Prod.fst hq, congrArg Prod.snd hq⟩
      refine lv_icmp_ne (tgt := 124) F.1 F.2.1 dL_isTimer_78 (by decide) (fun h12 => ?_) (fun h12 => ?_)
      · refine lv_iconst (v := 0) F.1 F.2.1 dL_isTimer_124 (by decide) ?_
        exact hJ17 _ _ _ _ (if_neg h12).symm hW (lv_sub hl [0, 1, 2, 3, 4, 5] rfl)
      · refine lv_aload_n F.1 F.2.1 dL_isTimer_81 rfl (lv_at hl 2 rfl) ?_
        refine lv_iload F.1 F.2.1 dL_isTimer_82 (lv_at hl 1 rfl) ?_
        refine lv_iconst (v := 0) F.1 F.2.1 dL_isTimer_84 (by decide) ?_
        refine jcir (jrunV (As := [.int (p_X3_numberOfAll (μ 0) 2), .int 0]) (rest := []) F hT hW yc_X6_ofTimer yv_X6_ofTimer ml_L_27 oH0 (by decide) rfl (r_ofTimer l E S2 rfl (by rw [eS2]; subst_vars; exact hc2) (p_X3_numberOfAll (μ 0) 2) 0) rfl hl.1 ⟨Nat.le_of_ble_eq_true rfl, Nat.le_of_ble_eq_true rfl⟩ rfl (Nat.le_of_ble_eq_true rfl) ⟨Nat.le_refl _, Nat.le_refl _⟩ dL_isTimer_85) hW (fun H locs hW => ?_)
        refine lv_iload_n F.1 F.2.1 dL_isTimer_88 rfl (lv_at hl 3 rfl) ?_
        refine lv_icmp_ne (tgt := 124) F.1 F.2.1 dL_isTimer_89 (by decide) (fun h13 => ?_) (fun h13 => ?_)
        · refine lv_iconst (v := 0) F.1 F.2.1 dL_isTimer_124 (by decide) ?_
          exact hJ17 _ _ _ _ ((if_pos h12).trans (if_neg h13)).symm hW (lv_sub hl [0, 1, 2, 3, 4, 5] rfl)
        · refine lv_aload_n F.1 F.2.1 dL_isTimer_92 rfl (lv_at hl 2 rfl) ?_
          refine lv_iload F.1 F.2.1 dL_isTimer_93 (lv_at hl 1 rfl) ?_
          refine lv_iconst (v := 1) F.1 F.2.1 dL_isTimer_95 (by decide) ?_
          refine jcir (jrunV (As := [.int (p_X3_numberOfAll (μ 0) 2), .int 1]) (rest := []) F hT hW yc_X6_ofTimer yv_X6_ofTimer ml_L_27 oH0 (by decide) rfl (r_ofTimer l E S2 rfl (by rw [eS2]; subst_vars; exact hc2) (p_X3_numberOfAll (μ 0) 2) 1) rfl hl.1 ⟨Nat.le_of_ble_eq_true rfl, Nat.le_of_ble_eq_true rfl⟩ rfl (Nat.le_of_ble_eq_true rfl) ⟨Nat.le_refl _, Nat.le_refl _⟩ dL_isTimer_96) hW (fun H locs hW => ?_)
          refine lv_iload_n F.1 F.2.1 dL_isTimer_99 rfl (lv_at hl 4 rfl) ?_
          refine lv_icmp_ne (tgt := 124) F.1 F.2.1 dL_isTimer_100 (by decide) (fun h14 => ?_) (fun h14 => ?_)
          · refine lv_iconst (v := 0) F.1 F.2.1 dL_isTimer_124 (by decide) ?_
            exact hJ17 _ _ _ _ ((if_pos h12).trans ((if_pos h13).trans (if_neg h14))).symm hW (lv_sub hl [0, 1, 2, 3, 4, 5] rfl)
          · refine lv_aload_n F.1 F.2.1 dL_isTimer_103 rfl (lv_at hl 2 rfl) ?_
            refine lv_iload F.1 F.2.1 dL_isTimer_104 (lv_at hl 1 rfl) ?_
            refine lv_iconst (v := 2) F.1 F.2.1 dL_isTimer_106 (by decide) ?_
            refine jcir (jrunV (As := [.int (p_X3_numberOfAll (μ 0) 2), .int 2]) (rest := []) F hT hW yc_X6_ofTimer yv_X6_ofTimer ml_L_27 oH0 (by decide) rfl (r_ofTimer l E S2 rfl (by rw [eS2]; subst_vars; exact hc2) (p_X3_numberOfAll (μ 0) 2) 2) rfl hl.1 ⟨Nat.le_of_ble_eq_true rfl, Nat.le_of_ble_eq_true rfl⟩ rfl (Nat.le_of_ble_eq_true rfl) ⟨Nat.le_refl _, Nat.le_refl _⟩ dL_isTimer_107) hW (fun H locs hW => ?_)
            refine lv_aload_n F.1 F.2.1 dL_isTimer_110 rfl (lv_at hl 2 rfl) ?_
            refine lv_iconst (v := 0) F.1 F.2.1 dL_isTimer_111 (by decide) ?_
            refine jcir (jrunV (As := [.int 0]) (rest := [.int (p_X3_numberOfTimer (S2 0) (p_X3_numberOfAll (μ 0) 2) 2)]) F hT hW yc_X6_count yv_X6_count ml_L_14 oH0 (by decide) rfl (r_count l E S2 rfl (by rw [eS2]; subst_vars; exact hc2) 0 (by decide) (by decide)) rfl hl.1 ⟨Nat.le_of_ble_eq_true rfl, Nat.le_of_ble_eq_true rfl⟩ rfl (Nat.le_of_ble_eq_true rfl) ⟨Nat.le_refl _, Nat.le_refl _⟩ dL_isTimer_112) hW (fun H locs hW => ?_)
            refine lv_iload_n F.1 F.2.1 dL_isTimer_115 rfl (lv_at hl 5 rfl) ?_
            refine lv_iadd F.1 F.2.1 dL_isTimer_116 ?_
            refine lv_icmp_ne (tgt := 124) F.1 F.2.1 dL_isTimer_117 (by decide) (fun h15 => ?_) (fun h15 => ?_)
            · refine lv_iconst (v := 0) F.1 F.2.1 dL_isTimer_124 (by decide) ?_
              exact hJ17 _ _ _ _ ((if_pos h12).trans ((if_pos h13).trans ((if_pos h14).trans (if_neg h15)))).symm hW (lv_sub hl [0, 1, 2, 3, 4, 5] rfl)
            · refine lv_iconst (v := 1) F.1 F.2.1 dL_isTimer_120 (by decide) ?_
              refine lv_goto (tgt := 125) F.1 F.2.1 dL_isTimer_121 (by decide) ?_
              exact hJ17 _ _ _ _ ((if_pos h12).trans ((if_pos h13).trans ((if_pos h14).trans (if_pos h15)))).symm hW (lv_sub hl [0, 1, 2, 3, 4, 5] rfl)
    · refine lv_iload F.1 F.2.1 dL_isTimer_39 (lv_at hl 0 rfl) ?_
      refine lv_iload F.1 F.2.1 dL_isTimer_41 (lv_at hl 1 rfl) ?_
      refine lv_bipush (v := 6) F.1 F.2.1 dL_isTimer_43 (by decide) ?_
      have hJ20 : ∀ (v19 : Int32) (H : Heap) (locs : List Loc) (ls : Array Slot), v19 = (if (p_X3_numberOfAll (μ 0) 2) = 6 then (-4) else (-5)) → Wd E s H locs S2 → lv_has ls 6 [(5, .int x1), (4, .int (p_X3_numberOfAll (μ 0) 2)), (0, .ref (ea E 11 0)), (1, .int ln), (2, .int pe), (3, .int fi)] → W p l e (rmO 4 91) s m ([.ref (ea E 11 0), .int ln, .int pe, .int fi] : List Value).toArray below meth c H locs 0 0 (MQ below (va_Qi (fun x μ' => x = (p_L_isTimer μ ln pe fi).1 ∧ μ' = (p_L_isTimer μ ln pe fi).2) (fun μ' t => MB E μ' t.heap) (AA E)) ([.ref (ea E 11 0), .int ln, .int pe, .int fi] : List Value).toArray s 0 0 (AA E)) (F0 m 55 ls [.int v19, .int x1]) := by
        intro v19 H locs ls ev19 hW hl
        have hJ24 : ∀ (v23 : Int32) (H : Heap) (locs : List Loc) (ls : Array Slot), v23 = (if x1 = v19 then (if (p_X3_numberOfAll (S2 0) 2) = (p_X3_numberOfAll (μ 0) 2) then 1 else 0) else 0) → Wd E s H locs S2 → lv_has ls 6 [(5, .int x1), (4, .int (p_X3_numberOfAll (μ 0) 2)), (0, .ref (ea E 11 0)), (1, .int ln), (2, .int pe), (3, .int fi)] → W p l e (rmO 4 91) s m ([.ref (ea E 11 0), .int ln, .int pe, .int fi] : List Value).toArray below meth c H locs 0 0 (MQ below (va_Qi (fun x μ' => x = (p_L_isTimer μ ln pe fi).1 ∧ μ' = (p_L_isTimer μ ln pe fi).2) (fun μ' t => MB E μ' t.heap) (AA E)) ([.ref (ea E 11 0), .int ln, .int pe, .int fi] : List Value).toArray s 0 0 (AA E)) (F0 m 73 ls [.int v23]) := by
          intro v23 H locs ls ev23 hW hl
          have hq : ((v23 : Int32), S2) = p_L_isTimer μ ln pe fi := by
            subst ev23
            subst ev19
            subst eS2
            subst ex1
            exact ((if_neg h3).trans (if_pos h11)).symm
          exact jri F hr0 hlk hW (znar (by rw [ev23]; repeat' (first | refine iteZ ?_ ?_ | exact Or.inl rfl | exact Or.inr rfl))) dL_isTimer_73 ⟨congrArg Prod.fst hq, congrArg Prod.snd hq⟩
        refine lv_icmp_ne (tgt := 72) F.1 F.2.1 dL_isTimer_55 (by decide) (fun h21 => ?_) (fun h21 => ?_)
        · refine lv_iconst (v := 0) F.1 F.2.1 dL_isTimer_72 (by decide) ?_
          exact hJ24 _ _ _ _ (if_neg h21).symm hW (lv_sub hl [0, 1, 2, 3, 4, 5] rfl)
        · refine lv_aload_n F.1 F.2.1 dL_isTimer_58 rfl (lv_at hl 2 rfl) ?_
          refine lv_iconst (v := 2) F.1 F.2.1 dL_isTimer_59 (by decide) ?_
          refine jcir (jrunV (As := [.int 2]) (rest := []) F hT hW yc_X6_count yv_X6_count ml_L_14 oH0 (by decide) rfl (r_count l E S2 rfl (by rw [eS2]; subst_vars; exact hc2) 2 (by decide) (by decide)) rfl hl.1 ⟨Nat.le_of_ble_eq_true rfl, Nat.le_of_ble_eq_true rfl⟩ rfl (Nat.le_of_ble_eq_true rfl) ⟨Nat.le_refl _, Nat.le_refl _⟩ dL_isTimer_60) hW (fun H locs hW => ?_)
          refine lv_iload F.1 F.2.1 dL_isTimer_63 (lv_at hl 1 rfl) ?_
          refine lv_icmp_ne (tgt := 72) F.1 F.2.1 dL_isTimer_65 (by decide) (fun h22 => ?_) (fun h22 => ?_)
          · refine lv_iconst (v := 0) F.1 F.2.1 dL_isTimer_72 (by decide) ?_
            exact hJ24 _ _ _ _ ((if_pos h21).trans (if_neg h22)).symm hW (lv_sub hl [0, 1, 2, 3, 4, 5] rfl)
          · refine lv_iconst (v := 1) F.1 F.2.1 dL_isTimer_68 (by decide) ?_
            refine lv_goto (tgt := 73) F.1 F.2.1 dL_isTimer_69 (by decide) ?_
            exact hJ24 _ _ _ _ ((if_pos h21).trans (if_pos h22)).symm hW (lv_sub hl [0, 1, 2, 3, 4, 5] rfl)
      refine lv_icmp_ne (tgt := 53) F.1 F.2.1 dL_isTimer_45 (by decide) (fun h18 => ?_) (fun h18 => ?_)
      · refine lv_bipush (v := (-5)) F.1 F.2.1 dL_isTimer_53 (by decide) ?_
        exact hJ20 _ _ _ _ (if_neg h18).symm hW (lv_sub hl [0, 1, 2, 3, 4, 5] rfl)
      · refine lv_bipush (v := (-4)) F.1 F.2.1 dL_isTimer_48 (by decide) ?_
        refine lv_goto (tgt := 55) F.1 F.2.1 dL_isTimer_50 (by decide) ?_
        exact hJ20 _ _ _ _ (if_pos h18).symm hW (lv_sub hl [0, 1, 2, 3, 4, 5] rfl)

