/-! the reference: what changes between ticks, what is told -/
theorem bn_neI {x y : Int32} {n : Nat} (h : Bn x n) (hy : y = nI n) (h0 : ¬ x = y) : cn x < n := Nat.lt_of_le_of_ne h.2 (fun e => h0 (by rw [hy, ← e]; exact h.1))
theorem in_ne {a b d x : Int32} (hx : x = p_X7_in a b d) (h : ¬ x = 0) : ¬ a < b ∧ ¬ d < a := by
  subst hx
  unfold p_X7_in at h
  dsimp only at h
  by_cases h1 : a < b
  · rw [if_pos h1] at h
    exact absurd rfl h
  · rw [if_neg h1] at h
    by_cases h2 : d < a
    · rw [if_pos h2] at h
      exact absurd rfl h
    · exact ⟨h1, h2⟩
theorem wRg {a b d c x : Int32} {m n k : Nat} (hb : b = nI m) (hd : d = nI n) (hc : c = nI k) (hkm : k ≤ m) (hm : m < 2 ^ 31) (hn : n < 2 ^ 31) (hx : x = p_X7_in a b d) (h : ¬ x = 0) : a - c = nI (cn (a - c)) ∧ m - k ≤ cn (a - c) ∧ cn (a - c) ≤ n - k := by
  obtain ⟨h1, h2⟩ := in_ne hx h
  rw [hb] at h1
  rw [hd] at h2
  have h4 : ¬ a < 0 := fun q => h1 (Int32.lt_of_lt_of_le q (by rw [Int32.le_iff_toInt_le, nI_toInt hm]; have e0 : (0 : Int32).toInt = 0 := by decide
                                                               omega))
  obtain ⟨j, hj, rfl⟩ := nI_of2 (nI_toInt hn) h4 (Int32.not_lt.mp h2)
  have hmj : m ≤ j := (nI_leI hm (by omega)).mp (Int32.not_lt.mp h1)
  have e : nI j - c = nI (j - k) := isb rfl hc (by omega)
  have hcn : cn (nI j - c) = j - k := by rw [e]; exact nI_clamp (by omega)
  rw [hcn]
  exact ⟨e, by omega, by omega⟩

def p_X7_set (S : Sv) (st : Int32) (vl : Int32) : Int32 × Sv :=
  let x1 : Int32 := p_X7_in st 0 6
  if x1 = 0 then
    (((-2) : Int32), S)
  else
    let x3 : Int32 := p_X7_least st
    let x4 : Int32 := p_X7_most st
    let x5 : Int32 := p_X7_in vl x3 x4
    if x5 = 0 then
      (((-2) : Int32), S)
    else
      let S7 : Sv := p_X7_record S
      let S8 : Sv := us S7 1 (cn st) vl
      ((S7 1 (cn st) : Int32), S8)

set_option maxHeartbeats 4000000 in
set_option maxRecDepth 100000 in
theorem c_X7_set (l : Launch) (E : mE) (μ : Mu) (S : Sv) (st : Int32) (vl : Int32) (hu : Bn (S 0 3) 6) : CtI l E yX7_set cX7_set 4 (some .int) 1 22 [.ref (ea E 13 0), .int st, .int vl] (fo μ 13 S) (fun x μ' => x = (p_X7_set S st vl).1 ∧ μ' = fo μ 13 (p_X7_set S st vl).2) := by
  refine jMet (by decide +kernel) (Nat.le_of_ble_eq_true rfl) ?_
  intro p e s m below meth c ls F hT hr0 hlk hW hl
  have F : CallFix p m c cX7_set 4 s _ TB RX7 := F
  have hl : lv_has ls 4 [(0, .ref (ea E 13 0)), (1, .int st), (2, .int vl)] := hl
  refine lv_iload_n F.1 F.2.1 dX7_set_0 rfl (lv_at hl 1 rfl) ?_
  refine lv_iconst (v := 0) F.1 F.2.1 dX7_set_1 (by decide) ?_
  refine lv_bipush (v := 6) F.1 F.2.1 dX7_set_2 (by decide) ?_
  refine jcip (jrunS (As := [.int st, .int 0, .int 6]) (rest := []) F hT hW yc_X7_in ys_X7_in ml_X7_40 (c_X7_in l E (fo μ 13 S) st 0 6) rfl hl.1 ⟨Nat.le_of_ble_eq_true rfl, Nat.le_of_ble_eq_true rfl⟩ rfl (Nat.le_of_ble_eq_true rfl) ⟨Nat.le_refl _, Nat.le_refl _⟩ dX7_set_4) hW (fun x1 H locs ex1 hW => ?_)
  refine lv_if_eq (tgt := 25) F.1 F.2.1 dX7_set_7 (by decide) (fun h2 => ?_) (fun h2 => ?_)
  · refine lv_bipush (v := (-2)) F.1 F.2.1 dX7_set_25 (by decide) ?_
    have hq : (((-2) : Int32), S) = p_X7_set S st vl := by
      subst ex1
      exact (if_pos h2).symm
    exact jri F hr0 hlk hW rfl dX7_set_27 ⟨congrArg Prod.fst hq, congrArg (fun z => fo μ 13 z.2) hq⟩
  · refine lv_iload_n F.1 F.2.1 dX7_set_10 rfl (lv_at hl 2 rfl) ?_
    refine lv_iload_n F.1 F.2.1 dX7_set_11 rfl (lv_at hl 1 rfl) ?_
    refine jcip (jrunS (As := [.int st]) (rest := [.int vl]) F hT hW yc_X7_least ys_X7_least ml_X7_44 (c_X7_least l E (fo μ 13 S) st) rfl hl.1 ⟨Nat.le_of_ble_eq_true rfl, Nat.le_of_ble_eq_true rfl⟩ rfl (Nat.le_of_ble_eq_true rfl) ⟨Nat.le_refl _, Nat.le_refl _⟩ dX7_set_12) hW (fun x3 H locs ex3 hW => ?_)
    refine lv_iload_n F.1 F.2.1 dX7_set_15 rfl (lv_at hl 1 rfl) ?_
    refine jcip (jrunS (As := [.int st]) (rest := [.int x3, .int vl]) F hT hW yc_X7_most ys_X7_most ml_X7_48 (c_X7_most l E (fo μ 13 S) st) rfl hl.1 ⟨Nat.le_of_ble_eq_true rfl, Nat.le_of_ble_eq_true rfl⟩ rfl (Nat.le_of_ble_eq_true rfl) ⟨Nat.le_refl _, Nat.le_refl _⟩ dX7_set_16) hW (fun x4 H locs ex4 hW => ?_)
    refine jcip (jrunS (As := [.int vl, .int x3, .int x4]) (rest := []) F hT hW yc_X7_in ys_X7_in ml_X7_40 (c_X7_in l E (fo μ 13 S) vl x3 x4) rfl hl.1 ⟨Nat.le_of_ble_eq_true rfl, Nat.le_of_ble_eq_true rfl⟩ rfl (Nat.le_of_ble_eq_true rfl) ⟨Nat.le_refl _, Nat.le_refl _⟩ dX7_set_19) hW (fun x5 H locs ex5 hW => ?_)
    refine lv_if_ne (tgt := 28) F.1 F.2.1 dX7_set_22 (by decide) (fun h6 => ?_) (fun h6 => ?_)
    · obtain ⟨hs1, hs2⟩ := wNi (a := st) (lI 6) (by decide) (by assumption) (by assumption)
      refine lv_aload_n F.1 F.2.1 dX7_set_28 rfl (lv_at hl 0 rfl) ?_
      refine jcvf (jrunV (As := []) (rest := []) F hT hW yc_X7_record yv_X7_record ml_X7_51 oM0 (by decide) rfl (c_X7_record l E μ S (by first | assumption | omega)) rfl hl.1 ⟨Nat.le_of_ble_eq_true rfl, Nat.le_of_ble_eq_true rfl⟩ rfl (Nat.le_of_ble_eq_true rfl) ⟨Nat.le_refl _, Nat.le_refl _⟩ dX7_set_29) hW (fun S7 H locs eS7 hW => ?_)
      refine lv_aload_n F.1 F.2.1 dX7_set_32 rfl (lv_at hl 0 rfl) ?_
      refine jgetR F hT hW fw_X7_7 oM0 (by decide) rfl dX7_set_33 ?_
      refine lv_iload_n F.1 F.2.1 dX7_set_36 rfl (lv_at hl 1 rfl) ?_
      refine jiald F hT hW (cn st) oM1 (by omega) (by decide) hs1 rfl dX7_set_37 ?_
      refine lv_istore_n (lv' := [(3, .int (S7 1 (cn st))), (0, .ref (ea E 13 0)), (1, .int st), (2, .int vl)]) F.1 F.2.1 dX7_set_38 rfl hl (by decide) rfl (fun ls hl => ?_)
      refine lv_aload_n F.1 F.2.1 dX7_set_39 rfl (lv_at hl 1 rfl) ?_
      refine jgetR F hT hW fw_X7_7 oM0 (by decide) rfl dX7_set_40 ?_
      refine lv_iload_n F.1 F.2.1 dX7_set_43 rfl (lv_at hl 2 rfl) ?_
      refine lv_iload_n F.1 F.2.1 dX7_set_44 rfl (lv_at hl 3 rfl) ?_
      refine jiast F hT hW (cn st) oM1 (by decide) (by omega) (by decide) hs1 rfl dX7_set_45 (fun S8 H locs eS8 hW => ?_)
      refine lv_iload_n F.1 F.2.1 dX7_set_46 rfl (lv_at hl 0 rfl) ?_
      have hq : ((S7 1 (cn st) : Int32), S8) = p_X7_set S st vl := by
        subst eS8
        subst eS7
        subst ex5
        subst ex4
        subst ex3
        subst ex1
        exact ((if_neg h2).trans (if_neg h6)).symm
      exact jri F hr0 hlk hW rfl dX7_set_47 ⟨congrArg Prod.fst hq, congrArg (fun z => fo μ 13 z.2) hq⟩
    · refine lv_bipush (v := (-2)) F.1 F.2.1 dX7_set_25 (by decide) ?_
      have hq : (((-2) : Int32), S) = p_X7_set S st vl := by
        subst ex5
        subst ex4
        subst ex3
        subst ex1
        exact ((if_neg h2).trans (if_pos h6)).symm
      exact jri F hr0 hlk hW rfl dX7_set_27 ⟨congrArg Prod.fst hq, congrArg (fun z => fo μ 13 z.2) hq⟩

def p_X7_line (S : Sv) (a : Int32) (b : Int32) (d : Int32) (lv : Int32) : Int32 × Sv :=
  let x1 : Int32 := p_X7_areSizes a b d
  if x1 = 0 then
    (((-2) : Int32), S)
  else
    let x3 : Int32 := p_X7_in lv 0 1
    if x3 = 0 then
      (((-2) : Int32), S)
    else
      if (S 1 8) = 12 then
        (((-4) : Int32), S)
      else
        let S6 : Sv := p_X7_record S
        let S7 : Sv := us S6 1 (20 + 16 * (cn (S 1 8)) + 0) a
        let S8 : Sv := us S7 1 (20 + 16 * (cn (S 1 8)) + 1) b
        let S9 : Sv := us S8 1 (20 + 16 * (cn (S 1 8)) + 2) d
        let S10 : Sv := us S9 1 (20 + 16 * (cn (S 1 8)) + 3) lv
        let S11 : Sv := us S10 1 8 ((S10 1 8) + 1)
        (((S11 1 8) - 1 : Int32), S11)

set_option maxHeartbeats 4000000 in
set_option maxRecDepth 100000 in
theorem c_X7_line (l : Launch) (E : mE) (μ : Mu) (S : Sv) (a : Int32) (b : Int32) (d : Int32) (lv : Int32) (hu : Bn (S 0 3) 6) (hn : Bn (S 1 8) 12) : CtI l E yX7_line cX7_line 6 (some .int) 2 44 [.ref (ea E 13 0), .int a, .int b, .int d, .int lv] (fo μ 13 S) (fun x μ' => x = (p_X7_line S a b d lv).1 ∧ μ' = fo μ 13 (p_X7_line S a b d lv).2) := by
  refine jMet (by decide +kernel) (Nat.le_of_ble_eq_true rfl) ?_
  intro p e s m below meth c ls F hT hr0 hlk hW hl
  have F : CallFix p m c cX7_line 6 s _ TB RX7 := F
  have hl : lv_has ls 6 [(0, .ref (ea E 13 0)), (1, .int a), (2, .int b), (3, .int d), (4, .int lv)] := hl
  refine lv_iload_n F.1 F.2.1 dX7_line_0 rfl (lv_at hl 1 rfl) ?_
  refine lv_iload_n F.1 F.2.1 dX7_line_1 rfl (lv_at hl 2 rfl) ?_
  refine lv_iload_n F.1 F.2.1 dX7_line_2 rfl (lv_at hl 3 rfl) ?_
  refine jcip (jrunS (As := [.int a, .int b, .int d]) (rest := []) F hT hW yc_X7_areSizes ys_X7_areSizes ml_X7_54 (c_X7_areSizes l E (fo μ 13 S) a b d) rfl hl.1 ⟨Nat.le_of_ble_eq_true rfl, Nat.le_of_ble_eq_true rfl⟩ rfl (Nat.le_of_ble_eq_true rfl) ⟨Nat.le_refl _, Nat.le_refl _⟩ dX7_line_3) hW (fun x1 H locs ex1 hW => ?_)
  refine lv_if_eq (tgt := 19) F.1 F.2.1 dX7_line_6 (by decide) (fun h2 => ?_) (fun h2 => ?_)
  · refine lv_bipush (v := (-2)) F.1 F.2.1 dX7_line_19 (by decide) ?_
    have hq : (((-2) : Int32), S) = p_X7_line S a b d lv := by
      subst ex1
      exact (if_pos h2).symm
    exact jri F hr0 hlk hW rfl dX7_line_21 ⟨congrArg Prod.fst hq, congrArg (fun z => fo μ 13 z.2) hq⟩
  · refine lv_iload F.1 F.2.1 dX7_line_9 (lv_at hl 4 rfl) ?_
    refine lv_iconst (v := 0) F.1 F.2.1 dX7_line_11 (by decide) ?_
    refine lv_iconst (v := 1) F.1 F.2.1 dX7_line_12 (by decide) ?_
    refine jcip (jrunS (As := [.int lv, .int 0, .int 1]) (rest := []) F hT hW yc_X7_in ys_X7_in ml_X7_40 (c_X7_in l E (fo μ 13 S) lv 0 1) rfl hl.1 ⟨Nat.le_of_ble_eq_true rfl, Nat.le_of_ble_eq_true rfl⟩ rfl (Nat.le_of_ble_eq_true rfl) ⟨Nat.le_refl _, Nat.le_refl _⟩ dX7_line_13) hW (fun x3 H locs ex3 hW => ?_)
    refine lv_if_ne (tgt := 22) F.1 F.2.1 dX7_line_16 (by decide) (fun h4 => ?_) (fun h4 => ?_)
    · refine lv_aload_n F.1 F.2.1 dX7_line_22 rfl (lv_at hl 0 rfl) ?_
      refine jgetR F hT hW fw_X7_7 oM0 (by decide) rfl dX7_line_23 ?_
      refine lv_bipush (v := 8) F.1 F.2.1 dX7_line_26 (by decide) ?_
      refine jiald F hT hW 8 oM1 (by omega) (by decide) (lI 8) rfl dX7_line_28 ?_
      refine lv_bipush (v := 12) F.1 F.2.1 dX7_line_29 (by decide) ?_
      refine lv_icmp_ne (tgt := 37) F.1 F.2.1 dX7_line_31 (by decide) (fun h5 => ?_) (fun h5 => ?_)
      · have hlt := bn_neI hn (lI 12) (by assumption)
        refine lv_aload_n F.1 F.2.1 dX7_line_37 rfl (lv_at hl 0 rfl) ?_
        refine jcvf (jrunV (As := []) (rest := []) F hT hW yc_X7_record yv_X7_record ml_X7_51 oM0 (by decide) rfl (c_X7_record l E μ S (by first | assumption | omega)) rfl hl.1 ⟨Nat.le_of_ble_eq_true rfl, Nat.le_of_ble_eq_true rfl⟩ rfl (Nat.le_of_ble_eq_true rfl) ⟨Nat.le_refl _, Nat.le_refl _⟩ dX7_line_38) hW (fun S6 H locs eS6 hW => ?_)
        have k8 : S6 1 8 = S 1 8 := by rw [eS6]; exact fr_record (by decide) (by decide)
        refine lv_bipush (v := 20) F.1 F.2.1 dX7_line_41 (by decide) ?_
        refine lv_bipush (v := 16) F.1 F.2.1 dX7_line_43 (by decide) ?_
        refine lv_aload_n F.1 F.2.1 dX7_line_45 rfl (lv_at hl 0 rfl) ?_
        refine jgetR F hT hW fw_X7_7 oM0 (by decide) rfl dX7_line_46 ?_
        refine lv_bipush (v := 8) F.1 F.2.1 dX7_line_49 (by decide) ?_
        refine jiald F hT hW 8 oM1 (by omega) (by decide) (lI 8) rfl dX7_line_51 ?_
        refine lv_imul F.1 F.2.1 dX7_line_52 ?_
        refine lv_iadd F.1 F.2.1 dX7_line_53 ?_
        refine lv_istore (lv' := [(5, .int (20 + (16 * (S6 1 8)))), (0, .ref (ea E 13 0)), (1, .int a), (2, .int b), (3, .int d), (4, .int lv)]) F.1 F.2.1 dX7_line_54 hl (by decide) rfl (fun ls hl => ?_)
        refine lv_aload_n F.1 F.2.1 dX7_line_56 rfl (lv_at hl 1 rfl) ?_
        refine jgetR F hT hW fw_X7_7 oM0 (by decide) rfl dX7_line_57 ?_
        refine lv_iload F.1 F.2.1 dX7_line_60 (lv_at hl 0 rfl) ?_
        refine lv_iconst (v := 0) F.1 F.2.1 dX7_line_62 (by decide) ?_
        refine lv_iadd F.1 F.2.1 dX7_line_63 ?_
        refine lv_iload_n F.1 F.2.1 dX7_line_64 rfl (lv_at hl 2 rfl) ?_
        refine jiast F hT hW (20 + 16 * (cn (S 1 8)) + 0) oM1 (by decide) (by omega) (by decide) (ia (ia (lI 20) (im (lI 16) (k8.trans hn.1))) (lI 0)) rfl dX7_line_65 (fun S7 H locs eS7 hW => ?_)
        refine lv_aload_n F.1 F.2.1 dX7_line_66 rfl (lv_at hl 1 rfl) ?_
        refine jgetR F hT hW fw_X7_7 oM0 (by decide) rfl dX7_line_67 ?_
        refine lv_iload F.1 F.2.1 dX7_line_70 (lv_at hl 0 rfl) ?_
        refine lv_iconst (v := 1) F.1 F.2.1 dX7_line_72 (by decide) ?_
        refine lv_iadd F.1 F.2.1 dX7_line_73 ?_
        refine lv_iload_n F.1 F.2.1 dX7_line_74 rfl (lv_at hl 3 rfl) ?_
        refine jiast F hT hW (20 + 16 * (cn (S 1 8)) + 1) oM1 (by decide) (by omega) (by decide) (ia (ia (lI 20) (im (lI 16) (k8.trans hn.1))) (lI 1)) rfl dX7_line_75 (fun S8 H locs eS8 hW => ?_)
        refine lv_aload_n F.1 F.2.1 dX7_line_76 rfl (lv_at hl 1 rfl) ?_
        refine jgetR F hT hW fw_X7_7 oM0 (by decide) rfl dX7_line_77 ?_
        refine lv_iload F.1 F.2.1 dX7_line_80 (lv_at hl 0 rfl) ?_
        refine lv_iconst (v := 2) F.1 F.2.1 dX7_line_82 (by decide) ?_
        refine lv_iadd F.1 F.2.1 dX7_line_83 ?_
        refine lv_iload_n F.1 F.2.1 dX7_line_84 rfl (lv_at hl 4 rfl) ?_
        refine jiast F hT hW (20 + 16 * (cn (S 1 8)) + 2) oM1 (by decide) (by omega) (by decide) (ia (ia (lI 20) (im (lI 16) (k8.trans hn.1))) (lI 2)) rfl dX7_line_85 (fun S9 H locs eS9 hW => ?_)
        refine lv_aload_n F.1 F.2.1 dX7_line_86 rfl (lv_at hl 1 rfl) ?_
        refine jgetR F hT hW fw_X7_7 oM0 (by decide) rfl dX7_line_87 ?_
        refine lv_iload F.1 F.2.1 dX7_line_90 (lv_at hl 0 rfl) ?_
        refine lv_iconst (v := 3) F.1 F.2.1 dX7_line_92 (by decide) ?_
        refine lv_iadd F.1 F.2.1 dX7_line_93 ?_
        refine lv_iload F.1 F.2.1 dX7_line_94 (lv_at hl 5 rfl) ?_
        refine jiast F hT hW (20 + 16 * (cn (S 1 8)) + 3) oM1 (by decide) (by omega) (by decide) (ia (ia (lI 20) (im (lI 16) (k8.trans hn.1))) (lI 3)) rfl dX7_line_96 (fun S10 H locs eS10 hW => ?_)
        refine lv_aload_n F.1 F.2.1 dX7_line_97 rfl (lv_at hl 1 rfl) ?_
        refine jgetR F hT hW fw_X7_7 oM0 (by decide) rfl dX7_line_98 ?_
        refine lv_bipush (v := 8) F.1 F.2.1 dX7_line_101 (by decide) ?_
        refine lv_dup2_11 F.1 F.2.1 dX7_line_103 rfl rfl ?_
        refine jiald F hT hW 8 oM1 (by omega) (by decide) (lI 8) rfl dX7_line_104 ?_
        refine lv_iconst (v := 1) F.1 F.2.1 dX7_line_105 (by decide) ?_
        refine lv_iadd F.1 F.2.1 dX7_line_106 ?_
        refine jiast F hT hW 8 oM1 (by decide) (by omega) (by decide) (lI 8) rfl dX7_line_107 (fun S11 H locs eS11 hW => ?_)
        refine lv_aload_n F.1 F.2.1 dX7_line_108 rfl (lv_at hl 1 rfl) ?_
        refine jgetR F hT hW fw_X7_7 oM0 (by decide) rfl dX7_line_109 ?_
        refine lv_bipush (v := 8) F.1 F.2.1 dX7_line_112 (by decide) ?_
        refine jiald F hT hW 8 oM1 (by omega) (by decide) (lI 8) rfl dX7_line_114 ?_
        refine lv_iconst (v := 1) F.1 F.2.1 dX7_line_115 (by decide) ?_
        refine lv_isub F.1 F.2.1 dX7_line_116 ?_
        have hq : (((S11 1 8) - 1 : Int32), S11) = p_X7_line S a b d lv := by
          subst eS11
          subst eS10
          subst eS9
          subst eS8
          subst eS7
          subst eS6
          subst ex3
          subst ex1
          exact ((if_neg h2).trans ((if_neg h4).trans (if_neg h5))).symm
        exact jri F hr0 hlk hW rfl dX7_line_117 ⟨congrArg Prod.fst hq, congrArg (fun z => fo μ 13 z.2) hq⟩
      · refine lv_bipush (v := (-4)) F.1 F.2.1 dX7_line_34 (by decide) ?_
        have hq : (((-4) : Int32), S) = p_X7_line S a b d lv := by
          subst ex3
          subst ex1
          exact ((if_neg h2).trans ((if_neg h4).trans (if_pos h5))).symm
        exact jri F hr0 hlk hW rfl dX7_line_36 ⟨congrArg Prod.fst hq, congrArg (fun z => fo μ 13 z.2) hq⟩
    · refine lv_bipush (v := (-2)) F.1 F.2.1 dX7_line_19 (by decide) ?_
      have hq : (((-2) : Int32), S) = p_X7_line S a b d lv := by
        subst ex3
        subst ex1
        exact ((if_neg h2).trans (if_pos h4)).symm
      exact jri F hr0 hlk hW rfl dX7_line_21 ⟨congrArg Prod.fst hq, congrArg (fun z => fo μ 13 z.2) hq⟩

def p_X7_timer (S : Sv) (ln : Int32) (pe : Int32) (fi : Int32) : Int32 × Sv :=
  let x1 : Int32 := p_X7_isLine S ln
  if x1 = 0 then
    (((-1) : Int32), S)
  else
    let x3 : Int32 := p_X7_in pe 1 200
    if x3 = 0 then
      (((-2) : Int32), S)
    else
      let x5 : Int32 := p_X7_in fi (S 1 7) ((S 1 7) + 500)
      if x5 = 0 then
        (((-2) : Int32), S)
      else
        if (S 1 9) = 6 then
          (((-4) : Int32), S)
        else
          let x8 : Int32 := p_X7_of S (cn ln) 3
          if x8 = 1 then
            (((-5) : Int32), S)
          else
            let S10 : Sv := p_X7_record S
            let S11 : Sv := us S10 1 (260 + 3 * (cn (S 1 9))) ln
            let S12 : Sv := us S11 1 (260 + 3 * (cn (S 1 9)) + 1) pe
            let S13 : Sv := us S12 1 (260 + 3 * (cn (S 1 9)) + 2) fi
            let S14 : Sv := us S13 1 9 ((S13 1 9) + 1)
            (((S14 1 9) - 1 : Int32), S14)

set_option maxHeartbeats 4000000 in
set_option maxRecDepth 100000 in
theorem c_X7_timer (l : Launch) (E : mE) (μ : Mu) (S : Sv) (ln : Int32) (pe : Int32) (fi : Int32) (hu : Bn (S 0 3) 6) (hn : Bn (S 1 8) 12) (ht : Bn (S 1 9) 6) : CtI l E yX7_timer cX7_timer 5 (some .int) 2 43 [.ref (ea E 13 0), .int ln, .int pe, .int fi] (fo μ 13 S) (fun x μ' => x = (p_X7_timer S ln pe fi).1 ∧ μ' = fo μ 13 (p_X7_timer S ln pe fi).2) := by
  refine jMet (by decide +kernel) (Nat.le_of_ble_eq_true rfl) ?_
  intro p e s m below meth c ls F hT hr0 hlk hW hl
  have F : CallFix p m c cX7_timer 5 s _ TB RX7 := F
  have hl : lv_has ls 5 [(0, .ref (ea E 13 0)), (1, .int ln), (2, .int pe), (3, .int fi)] := hl
  refine lv_aload_n F.1 F.2.1 dX7_timer_0 rfl (lv_at hl 0 rfl) ?_
  refine lv_iload_n F.1 F.2.1 dX7_timer_1 rfl (lv_at hl 1 rfl) ?_
  refine jcip (jrunV (As := [.int ln]) (rest := []) F hT hW yc_X7_isLine yv_X7_isLine ml_X7_57 oM0 (by decide) rfl (c_X7_isLine l E μ S ln) rfl hl.1 ⟨Nat.le_of_ble_eq_true rfl, Nat.le_of_ble_eq_true rfl⟩ rfl (Nat.le_of_ble_eq_true rfl) ⟨Nat.le_refl _, Nat.le_refl _⟩ dX7_timer_2) hW (fun x1 H locs ex1 hW => ?_)
  refine lv_if_ne (tgt := 10) F.1 F.2.1 dX7_timer_5 (by decide) (fun h2 => ?_) (fun h2 => ?_)
  · obtain ⟨hl1, hl2⟩ := wI hn (by assumption) (by assumption)
    have hn2 := hn.2
    refine lv_iload_n F.1 F.2.1 dX7_timer_10 rfl (lv_at hl 2 rfl) ?_
    refine lv_iconst (v := 1) F.1 F.2.1 dX7_timer_11 (by decide) ?_
    refine lv_sipush (v := 200) F.1 F.2.1 dX7_timer_12 (by decide) ?_
    refine jcip (jrunS (As := [.int pe, .int 1, .int 200]) (rest := []) F hT hW yc_X7_in ys_X7_in ml_X7_40 (c_X7_in l E (fo μ 13 S) pe 1 200) rfl hl.1 ⟨Nat.le_of_ble_eq_true rfl, Nat.le_of_ble_eq_true rfl⟩ rfl (Nat.le_of_ble_eq_true rfl) ⟨Nat.le_refl _, Nat.le_refl _⟩ dX7_timer_15) hW (fun x3 H locs ex3 hW => ?_)
    refine lv_if_eq (tgt := 46) F.1 F.2.1 dX7_timer_18 (by decide) (fun h4 => ?_) (fun h4 => ?_)
    · refine lv_bipush (v := (-2)) F.1 F.2.1 dX7_timer_46 (by decide) ?_
      have hq : (((-2) : Int32), S) = p_X7_timer S ln pe fi := by
        subst ex3
        subst ex1
        exact ((if_neg h2).trans (if_pos h4)).symm
      exact jri F hr0 hlk hW rfl dX7_timer_48 ⟨congrArg Prod.fst hq, congrArg (fun z => fo μ 13 z.2) hq⟩
    · refine lv_iload_n F.1 F.2.1 dX7_timer_21 rfl (lv_at hl 3 rfl) ?_
      refine lv_aload_n F.1 F.2.1 dX7_timer_22 rfl (lv_at hl 0 rfl) ?_
      refine jgetR F hT hW fw_X7_7 oM0 (by decide) rfl dX7_timer_23 ?_
      refine lv_bipush (v := 7) F.1 F.2.1 dX7_timer_26 (by decide) ?_
      refine jiald F hT hW 7 oM1 (by omega) (by decide) (lI 7) rfl dX7_timer_28 ?_
      refine lv_aload_n F.1 F.2.1 dX7_timer_29 rfl (lv_at hl 0 rfl) ?_
      refine jgetR F hT hW fw_X7_7 oM0 (by decide) rfl dX7_timer_30 ?_
      refine lv_bipush (v := 7) F.1 F.2.1 dX7_timer_33 (by decide) ?_
      refine jiald F hT hW 7 oM1 (by omega) (by decide) (lI 7) rfl dX7_timer_35 ?_
      refine lv_sipush (v := 500) F.1 F.2.1 dX7_timer_36 (by decide) ?_
      refine lv_iadd F.1 F.2.1 dX7_timer_39 ?_
      refine jcip (jrunS (As := [.int fi, .int (S 1 7), .int ((S 1 7) + 500)]) (rest := []) F hT hW yc_X7_in ys_X7_in ml_X7_40 (c_X7_in l E (fo μ 13 S) fi (S 1 7) ((S 1 7) + 500)) rfl hl.1 ⟨Nat.le_of_ble_eq_true rfl, Nat.le_of_ble_eq_true rfl⟩ rfl (Nat.le_of_ble_eq_true rfl) ⟨Nat.le_refl _, Nat.le_refl _⟩ dX7_timer_40) hW (fun x5 H locs ex5 hW => ?_)
      refine lv_if_ne (tgt := 49) F.1 F.2.1 dX7_timer_43 (by decide) (fun h6 => ?_) (fun h6 => ?_)
      · refine lv_aload_n F.1 F.2.1 dX7_timer_49 rfl (lv_at hl 0 rfl) ?_
        refine jgetR F hT hW fw_X7_7 oM0 (by decide) rfl dX7_timer_50 ?_
        refine lv_bipush (v := 9) F.1 F.2.1 dX7_timer_53 (by decide) ?_
        refine jiald F hT hW 9 oM1 (by omega) (by decide) (lI 9) rfl dX7_timer_55 ?_
        refine lv_bipush (v := 6) F.1 F.2.1 dX7_timer_56 (by decide) ?_
        refine lv_icmp_ne (tgt := 64) F.1 F.2.1 dX7_timer_58 (by decide) (fun h7 => ?_) (fun h7 => ?_)
        · have htl := bn_neI ht (lI 6) (by assumption)
          refine lv_aload_n F.1 F.2.1 dX7_timer_64 rfl (lv_at hl 0 rfl) ?_
          refine lv_iload_n F.1 F.2.1 dX7_timer_65 rfl (lv_at hl 1 rfl) ?_
          refine lv_iconst (v := 3) F.1 F.2.1 dX7_timer_66 (by decide) ?_
          refine jcip (jrunV (As := [.int ln, .int 3]) (rest := []) F hT hW yc_X7_of yv_X7_of ml_X7_61 oM0 (by decide) rfl (c_X7_of l E μ S ln (cn ln) hl1 3 3 (lI 3) (by first | assumption | omega) (by first | assumption | omega)) rfl hl.1 ⟨Nat.le_of_ble_eq_true rfl, Nat.le_of_ble_eq_true rfl⟩ rfl (Nat.le_of_ble_eq_true rfl) ⟨Nat.le_refl _, Nat.le_refl _⟩ dX7_timer_67) hW (fun x8 H locs ex8 hW => ?_)
          refine lv_iconst (v := 1) F.1 F.2.1 dX7_timer_70 (by decide) ?_
          refine lv_icmp_ne (tgt := 77) F.1 F.2.1 dX7_timer_71 (by decide) (fun h9 => ?_) (fun h9 => ?_)
          · refine lv_aload_n F.1 F.2.1 dX7_timer_77 rfl (lv_at hl 0 rfl) ?_
            refine jcvf (jrunV (As := []) (rest := []) F hT hW yc_X7_record yv_X7_record ml_X7_51 oM0 (by decide) rfl (c_X7_record l E μ S (by first | assumption | omega)) rfl hl.1 ⟨Nat.le_of_ble_eq_true rfl, Nat.le_of_ble_eq_true rfl⟩ rfl (Nat.le_of_ble_eq_true rfl) ⟨Nat.le_refl _, Nat.le_refl _⟩ dX7_timer_78) hW (fun S10 H locs eS10 hW => ?_)
            have k9 : S10 1 9 = S 1 9 := by rw [eS10]; exact fr_record (by decide) (by decide)
            refine lv_sipush (v := 260) F.1 F.2.1 dX7_timer_81 (by decide) ?_
            refine lv_iconst (v := 3) F.1 F.2.1 dX7_timer_84 (by decide) ?_
            refine lv_aload_n F.1 F.2.1 dX7_timer_85 rfl (lv_at hl 0 rfl) ?_
            refine jgetR F hT hW fw_X7_7 oM0 (by decide) rfl dX7_timer_86 ?_
            refine lv_bipush (v := 9) F.1 F.2.1 dX7_timer_89 (by decide) ?_
            refine jiald F hT hW 9 oM1 (by omega) (by decide) (lI 9) rfl dX7_timer_91 ?_
            refine lv_imul F.1 F.2.1 dX7_timer_92 ?_
            refine lv_iadd F.1 F.2.1 dX7_timer_93 ?_
            refine lv_istore (lv' := [(4, .int (260 + (3 * (S10 1 9)))), (0, .ref (ea E 13 0)), (1, .int ln), (2, .int pe), (3, .int fi)]) F.1 F.2.1 dX7_timer_94 hl (by decide) rfl (fun ls hl => ?_)
            refine lv_aload_n F.1 F.2.1 dX7_timer_96 rfl (lv_at hl 1 rfl) ?_
            refine jgetR F hT hW fw_X7_7 oM0 (by decide) rfl dX7_timer_97 ?_
            refine lv_iload F.1 F.2.1 dX7_timer_100 (lv_at hl 0 rfl) ?_
            refine lv_iload_n F.1 F.2.1 dX7_timer_102 rfl (lv_at hl 2 rfl) ?_
            refine jiast F hT hW (260 + 3 * (cn (S 1 9))) oM1 (by decide) (by omega) (by decide) (ia (lI 260) (im (lI 3) (k9.trans ht.1))) rfl dX7_timer_103 (fun S11 H locs eS11 hW => ?_)
            refine lv_aload_n F.1 F.2.1 dX7_timer_104 rfl (lv_at hl 1 rfl) ?_
            refine jgetR F hT hW fw_X7_7 oM0 (by decide) rfl dX7_timer_105 ?_
            refine lv_iload F.1 F.2.1 dX7_timer_108 (lv_at hl 0 rfl) ?_
            refine lv_iconst (v := 1) F.1 F.2.1 dX7_timer_110 (by decide) ?_
            refine lv_iadd F.1 F.2.1 dX7_timer_111 ?_
            refine lv_iload_n F.1 F.2.1 dX7_timer_112 rfl (lv_at hl 3 rfl) ?_
            refine jiast F hT hW (260 + 3 * (cn (S 1 9)) + 1) oM1 (by decide) (by omega) (by decide) (ia (ia (lI 260) (im (lI 3) (k9.trans ht.1))) (lI 1)) rfl dX7_timer_113 (fun S12 H locs eS12 hW => ?_)
            refine lv_aload_n F.1 F.2.1 dX7_timer_114 rfl (lv_at hl 1 rfl) ?_
            refine jgetR F hT hW fw_X7_7 oM0 (by decide) rfl dX7_timer_115 ?_
            refine lv_iload F.1 F.2.1 dX7_timer_118 (lv_at hl 0 rfl) ?_
            refine lv_iconst (v := 2) F.1 F.2.1 dX7_timer_120 (by decide) ?_
            refine lv_iadd F.1 F.2.1 dX7_timer_121 ?_
            refine lv_iload_n F.1 F.2.1 dX7_timer_122 rfl (lv_at hl 4 rfl) ?_
            refine jiast F hT hW (260 + 3 * (cn (S 1 9)) + 2) oM1 (by decide) (by omega) (by decide) (ia (ia (lI 260) (im (lI 3) (k9.trans ht.1))) (lI 2)) rfl dX7_timer_123 (fun S13 H locs eS13 hW => ?_)
            refine lv_aload_n F.1 F.2.1 dX7_timer_124 rfl (lv_at hl 1 rfl) ?_
            refine jgetR F hT hW fw_X7_7 oM0 (by decide) rfl dX7_timer_125 ?_
            refine lv_bipush (v := 9) F.1 F.2.1 dX7_timer_128 (by decide) ?_
            refine lv_dup2_11 F.1 F.2.1 dX7_timer_130 rfl rfl ?_
            refine jiald F hT hW 9 oM1 (by omega) (by decide) (lI 9) rfl dX7_timer_131 ?_
            refine lv_iconst (v := 1) F.1 F.2.1 dX7_timer_132 (by decide) ?_
            refine lv_iadd F.1 F.2.1 dX7_timer_133 ?_
            refine jiast F hT hW 9 oM1 (by decide) (by omega) (by decide) (lI 9) rfl dX7_timer_134 (fun S14 H locs eS14 hW => ?_)
            refine lv_aload_n F.1 F.2.1 dX7_timer_135 rfl (lv_at hl 1 rfl) ?_
            refine jgetR F hT hW fw_X7_7 oM0 (by decide) rfl dX7_timer_136 ?_
            refine lv_bipush (v := 9) F.1 F.2.1 dX7_timer_139 (by decide) ?_
            refine jiald F hT hW 9 oM1 (by omega) (by decide) (lI 9) rfl dX7_timer_141 ?_
            refine lv_iconst (v := 1) F.1 F.2.1 dX7_timer_142 (by decide) ?_
            refine lv_isub F.1 F.2.1 dX7_timer_143 ?_
            have hq : (((S14 1 9) - 1 : Int32), S14) = p_X7_timer S ln pe fi := by
              subst eS14
              subst eS13
              subst eS12
              subst eS11
              subst eS10
              subst ex8
              subst ex5
              subst ex3
              subst ex1
              exact ((if_neg h2).trans ((if_neg h4).trans ((if_neg h6).trans ((if_neg h7).trans (if_neg h9))))).symm
            exact jri F hr0 hlk hW rfl dX7_timer_144 ⟨congrArg Prod.fst hq, congrArg (fun z => fo μ 13 z.2) hq⟩
          · refine lv_bipush (v := (-5)) F.1 F.2.1 dX7_timer_74 (by decide) ?_
            have hq : (((-5) : Int32), S) = p_X7_timer S ln pe fi := by
              subst ex8
              subst ex5
              subst ex3
              subst ex1
              exact ((if_neg h2).trans ((if_neg h4).trans ((if_neg h6).trans ((if_neg h7).trans (if_pos h9))))).symm
            exact jri F hr0 hlk hW rfl dX7_timer_76 ⟨congrArg Prod.fst hq, congrArg (fun z => fo μ 13 z.2) hq⟩
        · refine lv_bipush (v := (-4)) F.1 F.2.1 dX7_timer_61 (by decide) ?_
          have hq : (((-4) : Int32), S) = p_X7_timer S ln pe fi := by
            subst ex5
            subst ex3
            subst ex1
            exact ((if_neg h2).trans ((if_neg h4).trans ((if_neg h6).trans (if_pos h7)))).symm
          exact jri F hr0 hlk hW rfl dX7_timer_63 ⟨congrArg Prod.fst hq, congrArg (fun z => fo μ 13 z.2) hq⟩
      · refine lv_bipush (v := (-2)) F.1 F.2.1 dX7_timer_46 (by decide) ?_
        have hq : (((-2) : Int32), S) = p_X7_timer S ln pe fi := by
          subst ex5
          subst ex3
          subst ex1
          exact ((if_neg h2).trans ((if_neg h4).trans (if_pos h6))).symm
        exact jri F hr0 hlk hW rfl dX7_timer_48 ⟨congrArg Prod.fst hq, congrArg (fun z => fo μ 13 z.2) hq⟩
  · refine lv_iconst (v := (-1)) F.1 F.2.1 dX7_timer_8 (by decide) ?_
    have hq : (((-1) : Int32), S) = p_X7_timer S ln pe fi := by
      subst ex1
      exact (if_pos h2).symm
    exact jri F hr0 hlk hW rfl dX7_timer_9 ⟨congrArg Prod.fst hq, congrArg (fun z => fo μ 13 z.2) hq⟩

def q_X7_stop_42 (S : Sv) (tm : Int32) (j : Nat) (σ : Sv) : Sv :=
  let S5 : Sv := σ
  let S7 : Sv := us S5 1 (260 + 3 * cn tm + j) (S5 1 (260 + 3 * cn tm + j + 3))
  S7
def p_X7_stop (S : Sv) (tm : Int32) : Int32 × Sv :=
  let x1 : Int32 := p_X7_in tm 0 ((S 1 9) - 1)
  if x1 = 0 then
    (((-1) : Int32), S)
  else
    let S3 : Sv := p_X7_record S
    let S4 : Sv := us S3 1 9 ((S3 1 9) - 1)
    let S5 : Sv := (itN (q_X7_stop_42 S tm) (3 * (cn (S 1 9) - 1 - cn tm)) (S4))
    ((S5 1 9 : Int32), S5)

theorem st_keep {S S0 : Sv} {tm : Int32} : ∀ n p k, (¬ p = 1 ∨ k < 260) → itN (q_X7_stop_42 S tm) n S0 p k = S0 p k := by
  intro n
  induction n with
  | zero => intro p k _; rfl
  | succ n ih =>
    intro p k hp
    rw [itN_s]
    unfold q_X7_stop_42
    dsimp only
    rw [us_ne _ _ (by omega)]
    exact ih p k hp

set_option maxHeartbeats 4000000 in
set_option maxRecDepth 100000 in
theorem c_X7_stop (l : Launch) (E : mE) (μ : Mu) (S : Sv) (tm : Int32) (hu : Bn (S 0 3) 6) (ht : Bn (S 1 9) 6) : CtI l E yX7_stop cX7_stop 3 (some .int) 1 22 [.ref (ea E 13 0), .int tm] (fo μ 13 S) (fun x μ' => x = (p_X7_stop S tm).1 ∧ μ' = fo μ 13 (p_X7_stop S tm).2) := by
  refine jMet (by decide +kernel) (Nat.le_of_ble_eq_true rfl) ?_
  intro p e s m below meth c ls F hT hr0 hlk hW hl
  have F : CallFix p m c cX7_stop 3 s _ TB RX7 := F
  have hl : lv_has ls 3 [(0, .ref (ea E 13 0)), (1, .int tm)] := hl
  refine lv_iload_n F.1 F.2.1 dX7_stop_0 rfl (lv_at hl 1 rfl) ?_
  refine lv_iconst (v := 0) F.1 F.2.1 dX7_stop_1 (by decide) ?_
  refine lv_aload_n F.1 F.2.1 dX7_stop_2 rfl (lv_at hl 0 rfl) ?_
  refine jgetR F hT hW fw_X7_7 oM0 (by decide) rfl dX7_stop_3 ?_
  refine lv_bipush (v := 9) F.1 F.2.1 dX7_stop_6 (by decide) ?_
  refine jiald F hT hW 9 oM1 (by omega) (by decide) (lI 9) rfl dX7_stop_8 ?_
  refine lv_iconst (v := 1) F.1 F.2.1 dX7_stop_9 (by decide) ?_
  refine lv_isub F.1 F.2.1 dX7_stop_10 ?_
  refine jcip (jrunS (As := [.int tm, .int 0, .int ((S 1 9) - 1)]) (rest := []) F hT hW yc_X7_in ys_X7_in ml_X7_40 (c_X7_in l E (fo μ 13 S) tm 0 ((S 1 9) - 1)) rfl hl.1 ⟨Nat.le_of_ble_eq_true rfl, Nat.le_of_ble_eq_true rfl⟩ rfl (Nat.le_of_ble_eq_true rfl) ⟨Nat.le_refl _, Nat.le_refl _⟩ dX7_stop_11) hW (fun x1 H locs ex1 hW => ?_)
  refine lv_if_ne (tgt := 19) F.1 F.2.1 dX7_stop_14 (by decide) (fun h2 => ?_) (fun h2 => ?_)
  · obtain ⟨hl1, hl2⟩ := wLi (a := tm) ht (by decide) (by assumption) (by assumption)
    have ht2 := ht.2
    refine lv_aload_n F.1 F.2.1 dX7_stop_19 rfl (lv_at hl 0 rfl) ?_
    refine jcvf (jrunV (As := []) (rest := []) F hT hW yc_X7_record yv_X7_record ml_X7_51 oM0 (by decide) rfl (c_X7_record l E μ S (by first | assumption | omega)) rfl hl.1 ⟨Nat.le_of_ble_eq_true rfl, Nat.le_of_ble_eq_true rfl⟩ rfl (Nat.le_of_ble_eq_true rfl) ⟨Nat.le_refl _, Nat.le_refl _⟩ dX7_stop_20) hW (fun S3 H locs eS3 hW => ?_)
    have k9 : S3 1 9 = S 1 9 := by rw [eS3]; exact fr_record (by decide) (by decide)
    refine lv_aload_n F.1 F.2.1 dX7_stop_23 rfl (lv_at hl 0 rfl) ?_
    refine jgetR F hT hW fw_X7_7 oM0 (by decide) rfl dX7_stop_24 ?_
    refine lv_bipush (v := 9) F.1 F.2.1 dX7_stop_27 (by decide) ?_
    refine lv_dup2_11 F.1 F.2.1 dX7_stop_29 rfl rfl ?_
    refine jiald F hT hW 9 oM1 (by omega) (by decide) (lI 9) rfl dX7_stop_30 ?_
    refine lv_iconst (v := 1) F.1 F.2.1 dX7_stop_31 (by decide) ?_
    refine lv_isub F.1 F.2.1 dX7_stop_32 ?_
    refine jiast F hT hW 9 oM1 (by decide) (by omega) (by decide) (lI 9) rfl dX7_stop_33 (fun S4 H locs eS4 hW => ?_)
    have h9 : S4 1 9 = nI (cn (S 1 9) - 1) := by rw [eS4, us_at, k9]; exact isb ht.1 (lI 1) (by omega)
    refine lv_sipush (v := 260) F.1 F.2.1 dX7_stop_34 (by decide) ?_
    refine lv_iconst (v := 3) F.1 F.2.1 dX7_stop_37 (by decide) ?_
    refine lv_iload_n F.1 F.2.1 dX7_stop_38 rfl (lv_at hl 1 rfl) ?_
    refine lv_imul F.1 F.2.1 dX7_stop_39 ?_
    refine lv_iadd F.1 F.2.1 dX7_stop_40 ?_
    refine lv_istore_n (lv' := [(2, .int (260 + (3 * tm))), (0, .ref (ea E 13 0)), (1, .int tm)]) F.1 F.2.1 dX7_stop_41 rfl hl (by decide) rfl (fun ls hl => ?_)
    have hL6 : ∀ (fu j : Nat) (S5 : Sv) (H : Heap) (locs : List Loc) (ls : Array Slot), j + fu = 3 * (cn (S 1 9) - 1 - cn tm) → (S5) = itN (q_X7_stop_42 S tm) j (S4) → Wd E s H locs (fo μ 13 S5) → lv_has ls 3 [(2, .int (nI (260 + 3 * cn tm + j))), (0, .ref (ea E 13 0)), (1, .int tm)] → W p l e (rmO 1 22) s m ([.ref (ea E 13 0), .int tm] : List Value).toArray below meth c H locs 0 0 (MQ below (va_Qi (fun x μ' => x = (p_X7_stop S tm).1 ∧ μ' = fo μ 13 (p_X7_stop S tm).2) (fun μ' t => MB E μ' t.heap) (AA E)) ([.ref (ea E 13 0), .int tm] : List Value).toArray s 0 0 (AA E)) (F0 m 42 ls []) := by
      intro fu
      induction fu with
      | zero =>
        intro j S5 H locs ls hj hs  hW hl
        obtain rfl : j = 3 * (cn (S 1 9) - 1 - cn tm) := by omega
        have eS5 := hs
        have hk : S5 1 9 = S4 1 9 := by rw [hs]; exact st_keep _ 1 9 (by decide)
        refine lv_iload_n F.1 F.2.1 dX7_stop_42 rfl (lv_at hl 0 rfl) ?_
        refine lv_sipush (v := 260) F.1 F.2.1 dX7_stop_43 (by decide) ?_
        refine lv_iconst (v := 3) F.1 F.2.1 dX7_stop_46 (by decide) ?_
        refine lv_aload_n F.1 F.2.1 dX7_stop_47 rfl (lv_at hl 1 rfl) ?_
        refine jgetR F hT hW fw_X7_7 oM0 (by decide) rfl dX7_stop_48 ?_
        refine lv_bipush (v := 9) F.1 F.2.1 dX7_stop_51 (by decide) ?_
        refine jiald F hT hW 9 oM1 (by omega) (by decide) (lI 9) rfl dX7_stop_53 ?_
        refine lv_imul F.1 F.2.1 dX7_stop_54 ?_
        refine lv_iadd F.1 F.2.1 dX7_stop_55 ?_
        refine lv_icmp_ge (tgt := 79) F.1 F.2.1 dX7_stop_56 (by decide) (fun h7 => ?_) (fun h7 => ?_)
        · refine lv_aload_n F.1 F.2.1 dX7_stop_79 rfl (lv_at hl 1 rfl) ?_
          refine jgetR F hT hW fw_X7_7 oM0 (by decide) rfl dX7_stop_80 ?_
          refine lv_bipush (v := 9) F.1 F.2.1 dX7_stop_83 (by decide) ?_
          refine jiald F hT hW 9 oM1 (by omega) (by decide) (lI 9) rfl dX7_stop_85 ?_
          have hq : ((S5 1 9 : Int32), S5) = p_X7_stop S tm := by
            subst eS5
            subst eS4
            subst eS3
            subst ex1
            exact (if_neg h2).symm
          exact jri F hr0 hlk hW rfl dX7_stop_86 ⟨congrArg Prod.fst hq, congrArg (fun z => fo μ 13 z.2) hq⟩
        · exact absurd (c_le (ia (lI 260) (im (lI 3) (hk.trans h9))) rfl (by omega) (by omega)) h7
      | succ fu ih =>
        intro j S5 H locs ls hj hs  hW hl
        have hk : S5 1 9 = S4 1 9 := by rw [hs]; exact st_keep _ 1 9 (by decide)
        refine lv_iload_n F.1 F.2.1 dX7_stop_42 rfl (lv_at hl 0 rfl) ?_
        refine lv_sipush (v := 260) F.1 F.2.1 dX7_stop_43 (by decide) ?_
        refine lv_iconst (v := 3) F.1 F.2.1 dX7_stop_46 (by decide) ?_
        refine lv_aload_n F.1 F.2.1 dX7_stop_47 rfl (lv_at hl 1 rfl) ?_
        refine jgetR F hT hW fw_X7_7 oM0 (by decide) rfl dX7_stop_48 ?_
        refine lv_bipush (v := 9) F.1 F.2.1 dX7_stop_51 (by decide) ?_
        refine jiald F hT hW 9 oM1 (by omega) (by decide) (lI 9) rfl dX7_stop_53 ?_
        refine lv_imul F.1 F.2.1 dX7_stop_54 ?_
        refine lv_iadd F.1 F.2.1 dX7_stop_55 ?_
        refine lv_icmp_ge (tgt := 79) F.1 F.2.1 dX7_stop_56 (by decide) (fun h6 => ?_) (fun h6 => ?_)
        · exact absurd h6 (c_nle (ia (lI 260) (im (lI 3) (hk.trans h9))) rfl (by omega) (by omega))
        · refine lv_aload_n F.1 F.2.1 dX7_stop_59 rfl (lv_at hl 1 rfl) ?_
          refine jgetR F hT hW fw_X7_7 oM0 (by decide) rfl dX7_stop_60 ?_
          refine lv_iload_n F.1 F.2.1 dX7_stop_63 rfl (lv_at hl 0 rfl) ?_
          refine lv_aload_n F.1 F.2.1 dX7_stop_64 rfl (lv_at hl 1 rfl) ?_
          refine jgetR F hT hW fw_X7_7 oM0 (by decide) rfl dX7_stop_65 ?_
          refine lv_iload_n F.1 F.2.1 dX7_stop_68 rfl (lv_at hl 0 rfl) ?_
          refine lv_iconst (v := 3) F.1 F.2.1 dX7_stop_69 (by decide) ?_
          refine lv_iadd F.1 F.2.1 dX7_stop_70 ?_
          refine jiald F hT hW (260 + 3 * cn tm + j + 3) oM1 (by omega) (by decide) (ia rfl (lI 3)) rfl dX7_stop_71 ?_
          refine jiast F hT hW (260 + 3 * cn tm + j) oM1 (by decide) (by omega) (by decide) rfl rfl dX7_stop_72 (fun S7 H locs eS7 hW => ?_)
          refine lv_iinc (v := nI (260 + 3 * cn tm + j + 1)) (lv' := [(2, .int (nI (260 + 3 * cn tm + j + 1))), (0, .ref (ea E 13 0)), (1, .int tm)]) F.1 F.2.1 dX7_stop_73 hl (k := 0) rfl (ia rfl rfl) (by decide) rfl (fun ls hl => ?_)
          refine lv_goto (tgt := 42) F.1 F.2.1 dX7_stop_76 (by decide) ?_
          subst eS7
          exact ih (j + 1) _ _ _ _ (by omega) (by rw [itN_s, ← hs]; exact (rfl).symm) hW (lv_sub hl [0, 1, 2] rfl)
    exact hL6 (3 * (cn (S 1 9) - 1 - cn tm)) 0 S4 _ _ _ (by omega) rfl hW (lv_sub hl [0, 1, 2] (by have hq : (260 : Int32) + 3 * tm = nI (260 + 3 * cn tm) := ia (lI 260) (im (lI 3) hl1); rw [Nat.add_zero, ← hq]; rfl))
  · refine lv_iconst (v := (-1)) F.1 F.2.1 dX7_stop_17 (by decide) ?_
    have hq : (((-1) : Int32), S) = p_X7_stop S tm := by
      subst ex1
      exact (if_pos h2).symm
    exact jri F hr0 hlk hW rfl dX7_stop_18 ⟨congrArg Prod.fst hq, congrArg (fun z => fo μ 13 z.2) hq⟩

def p_X7_raise (S : Sv) (ln : Int32) : Int32 × Sv :=
  let x1 : Int32 := p_X7_isLine S ln
  if x1 = 0 then
    (((-1) : Int32), S)
  else
    let x3 : Int32 := p_X7_of S (cn ln) 3
    if x3 = 1 then
      (((-5) : Int32), S)
    else
      let S5 : Sv := p_X7_record S
      let x6 : Int32 := (p_X7_edge S5 (cn ln)).1
      let S7 : Sv := (p_X7_edge S5 (cn ln)).2
      let v9 : Int32 := (if x6 = 0 then 0 else 1)
      ((v9 : Int32), S7)

set_option maxHeartbeats 4000000 in
set_option maxRecDepth 100000 in
theorem c_X7_raise (l : Launch) (E : mE) (μ : Mu) (S : Sv) (ln : Int32) (hu : Bn (S 0 3) 6) (hn : Bn (S 1 8) 12) : CtI l E yX7_raise cX7_raise 2 (some .int) 3 68 [.ref (ea E 13 0), .int ln] (fo μ 13 S) (fun x μ' => x = (p_X7_raise S ln).1 ∧ μ' = fo μ 13 (p_X7_raise S ln).2) := by
  refine jMet (by decide +kernel) (Nat.le_of_ble_eq_true rfl) ?_
  intro p e s m below meth c ls F hT hr0 hlk hW hl
  have F : CallFix p m c cX7_raise 2 s _ TB RX7 := F
  have hl : lv_has ls 2 [(0, .ref (ea E 13 0)), (1, .int ln)] := hl
  refine lv_aload_n F.1 F.2.1 dX7_raise_0 rfl (lv_at hl 0 rfl) ?_
  refine lv_iload_n F.1 F.2.1 dX7_raise_1 rfl (lv_at hl 1 rfl) ?_
  refine jcip (jrunV (As := [.int ln]) (rest := []) F hT hW yc_X7_isLine yv_X7_isLine ml_X7_57 oM0 (by decide) rfl (c_X7_isLine l E μ S ln) rfl hl.1 ⟨Nat.le_of_ble_eq_true rfl, Nat.le_of_ble_eq_true rfl⟩ rfl (Nat.le_of_ble_eq_true rfl) ⟨Nat.le_refl _, Nat.le_refl _⟩ dX7_raise_2) hW (fun x1 H locs ex1 hW => ?_)
  refine lv_if_ne (tgt := 10) F.1 F.2.1 dX7_raise_5 (by decide) (fun h2 => ?_) (fun h2 => ?_)
  · obtain ⟨hl1, hl2⟩ := wI hn (by assumption) (by assumption)
    have hn2 := hn.2
    refine lv_aload_n F.1 F.2.1 dX7_raise_10 rfl (lv_at hl 0 rfl) ?_
    refine lv_iload_n F.1 F.2.1 dX7_raise_11 rfl (lv_at hl 1 rfl) ?_
    refine lv_iconst (v := 3) F.1 F.2.1 dX7_raise_12 (by decide) ?_
    refine jcip (jrunV (As := [.int ln, .int 3]) (rest := []) F hT hW yc_X7_of yv_X7_of ml_X7_61 oM0 (by decide) rfl (c_X7_of l E μ S ln (cn ln) hl1 3 3 (lI 3) (by first | assumption | omega) (by first | assumption | omega)) rfl hl.1 ⟨Nat.le_of_ble_eq_true rfl, Nat.le_of_ble_eq_true rfl⟩ rfl (Nat.le_of_ble_eq_true rfl) ⟨Nat.le_refl _, Nat.le_refl _⟩ dX7_raise_13) hW (fun x3 H locs ex3 hW => ?_)
    refine lv_iconst (v := 1) F.1 F.2.1 dX7_raise_16 (by decide) ?_
    refine lv_icmp_ne (tgt := 23) F.1 F.2.1 dX7_raise_17 (by decide) (fun h4 => ?_) (fun h4 => ?_)
    · refine lv_aload_n F.1 F.2.1 dX7_raise_23 rfl (lv_at hl 0 rfl) ?_
      refine jcvf (jrunV (As := []) (rest := []) F hT hW yc_X7_record yv_X7_record ml_X7_51 oM0 (by decide) rfl (c_X7_record l E μ S (by first | assumption | omega)) rfl hl.1 ⟨Nat.le_of_ble_eq_true rfl, Nat.le_of_ble_eq_true rfl⟩ rfl (Nat.le_of_ble_eq_true rfl) ⟨Nat.le_refl _, Nat.le_refl _⟩ dX7_raise_24) hW (fun S5 H locs eS5 hW => ?_)
      refine lv_aload_n F.1 F.2.1 dX7_raise_27 rfl (lv_at hl 0 rfl) ?_
      refine lv_iload_n F.1 F.2.1 dX7_raise_28 rfl (lv_at hl 1 rfl) ?_
      refine jcif (jrunV (As := [.int ln]) (rest := []) F hT hW yc_X7_edge yv_X7_edge ml_X7_76 oM0 (by decide) rfl (c_X7_edge l E μ S5 ln (cn ln) hl1 (by first | assumption | omega)) rfl hl.1 ⟨Nat.le_of_ble_eq_true rfl, Nat.le_of_ble_eq_true rfl⟩ rfl (Nat.le_of_ble_eq_true rfl) ⟨Nat.le_refl _, Nat.le_refl _⟩ dX7_raise_29) hW (fun x6 S7 H locs ex6 eS7 hW => ?_)
      have hJ10 : ∀ (v9 : Int32) (H : Heap) (locs : List Loc) (ls : Array Slot), v9 = (if x6 = 0 then 0 else 1) → Wd E s H locs (fo μ 13 S7) → lv_has ls 2 [(0, .ref (ea E 13 0)), (1, .int ln)] → W p l e (rmO 3 68) s m ([.ref (ea E 13 0), .int ln] : List Value).toArray below meth c H locs 0 0 (MQ below (va_Qi (fun x μ' => x = (p_X7_raise S ln).1 ∧ μ' = fo μ 13 (p_X7_raise S ln).2) (fun μ' t => MB E μ' t.heap) (AA E)) ([.ref (ea E 13 0), .int ln] : List Value).toArray s 0 0 (AA E)) (F0 m 40 ls [.int v9]) := by
        intro v9 H locs ls ev9 hW hl
        have hq : ((v9 : Int32), S7) = p_X7_raise S ln := by
          subst ev9
          subst eS7
          subst ex6
          subst eS5
          subst ex3
          subst ex1
          exact ((if_neg h2).trans (if_neg h4)).symm
        exact jri F hr0 hlk hW rfl dX7_raise_40 ⟨congrArg Prod.fst hq, congrArg (fun z => fo μ 13 z.2) hq⟩
      refine lv_if_eq (tgt := 39) F.1 F.2.1 dX7_raise_32 (by decide) (fun h8 => ?_) (fun h8 => ?_)
      · refine lv_iconst (v := 0) F.1 F.2.1 dX7_raise_39 (by decide) ?_
        exact hJ10 _ _ _ _ (if_pos h8).symm hW (lv_sub hl [0, 1] rfl)
      · refine lv_iconst (v := 1) F.1 F.2.1 dX7_raise_35 (by decide) ?_
        refine lv_goto (tgt := 40) F.1 F.2.1 dX7_raise_36 (by decide) ?_
        exact hJ10 _ _ _ _ (if_neg h8).symm hW (lv_sub hl [0, 1] rfl)
    · refine lv_bipush (v := (-5)) F.1 F.2.1 dX7_raise_20 (by decide) ?_
      have hq : (((-5) : Int32), S) = p_X7_raise S ln := by
        subst ex3
        subst ex1
        exact ((if_neg h2).trans (if_pos h4)).symm
      exact jri F hr0 hlk hW rfl dX7_raise_22 ⟨congrArg Prod.fst hq, congrArg (fun z => fo μ 13 z.2) hq⟩
  · refine lv_iconst (v := (-1)) F.1 F.2.1 dX7_raise_8 (by decide) ?_
    have hq : (((-1) : Int32), S) = p_X7_raise S ln := by
      subst ex1
      exact (if_pos h2).symm
    exact jri F hr0 hlk hW rfl dX7_raise_9 ⟨congrArg Prod.fst hq, congrArg (fun z => fo μ 13 z.2) hq⟩

def p_X7_hold (S : Sv) (ln : Int32) (dv : Int32) (up : Int32) : Int32 × Sv :=
  let x1 : Int32 := p_X7_isLine S ln
  if x1 = 0 then
    (((-1) : Int32), S)
  else
    let x3 : Int32 := p_X7_in dv 0 3
    if x3 = 0 then
      (((-2) : Int32), S)
    else
      let x5 : Int32 := p_X7_in up 0 1
      if x5 = 0 then
        (((-2) : Int32), S)
      else
        let x7 : Int32 := p_X7_of S (cn ln) 3
        if x7 = 0 then
          (((-5) : Int32), S)
        else
          let S9 : Sv := p_X7_record S
          let x10 : Int32 := p_X7_of S9 (cn ln) 7
          let S11 : Sv := p_X7_book S9 (cn ln) 7 ((x10 &&& (((1 : Int32) <<< (dv &&& 31)) ^^^ (-1))) ||| ((up : Int32) <<< (dv &&& 31))) 0
          let S12 : Sv := p_X7_look S11 (cn ln)
          let x13 : Int32 := p_X7_of S12 (cn ln) 7
          ((x13 : Int32), S12)

set_option maxHeartbeats 4000000 in
set_option maxRecDepth 100000 in
theorem c_X7_hold (l : Launch) (E : mE) (μ : Mu) (S : Sv) (ln : Int32) (dv : Int32) (up : Int32) (hu : Bn (S 0 3) 6) (hn : Bn (S 1 8) 12) (hd : Bn (S 1 10) 8) : CtI l E yX7_hold cX7_hold 4 (some .int) 3 69 [.ref (ea E 13 0), .int ln, .int dv, .int up] (fo μ 13 S) (fun x μ' => x = (p_X7_hold S ln dv up).1 ∧ μ' = fo μ 13 (p_X7_hold S ln dv up).2) := by
  refine jMet (by decide +kernel) (Nat.le_of_ble_eq_true rfl) ?_
  intro p e s m below meth c ls F hT hr0 hlk hW hl
  have F : CallFix p m c cX7_hold 4 s _ TB RX7 := F
  have hl : lv_has ls 4 [(0, .ref (ea E 13 0)), (1, .int ln), (2, .int dv), (3, .int up)] := hl
  refine lv_aload_n F.1 F.2.1 dX7_hold_0 rfl (lv_at hl 0 rfl) ?_
  refine lv_iload_n F.1 F.2.1 dX7_hold_1 rfl (lv_at hl 1 rfl) ?_
  refine jcip (jrunV (As := [.int ln]) (rest := []) F hT hW yc_X7_isLine yv_X7_isLine ml_X7_57 oM0 (by decide) rfl (c_X7_isLine l E μ S ln) rfl hl.1 ⟨Nat.le_of_ble_eq_true rfl, Nat.le_of_ble_eq_true rfl⟩ rfl (Nat.le_of_ble_eq_true rfl) ⟨Nat.le_refl _, Nat.le_refl _⟩ dX7_hold_2) hW (fun x1 H locs ex1 hW => ?_)
  refine lv_if_ne (tgt := 10) F.1 F.2.1 dX7_hold_5 (by decide) (fun h2 => ?_) (fun h2 => ?_)
  · obtain ⟨hl1, hl2⟩ := wI hn (by assumption) (by assumption)
    have hn2 := hn.2
    refine lv_iload_n F.1 F.2.1 dX7_hold_10 rfl (lv_at hl 2 rfl) ?_
    refine lv_iconst (v := 0) F.1 F.2.1 dX7_hold_11 (by decide) ?_
    refine lv_iconst (v := 3) F.1 F.2.1 dX7_hold_12 (by decide) ?_
    refine jcip (jrunS (As := [.int dv, .int 0, .int 3]) (rest := []) F hT hW yc_X7_in ys_X7_in ml_X7_40 (c_X7_in l E (fo μ 13 S) dv 0 3) rfl hl.1 ⟨Nat.le_of_ble_eq_true rfl, Nat.le_of_ble_eq_true rfl⟩ rfl (Nat.le_of_ble_eq_true rfl) ⟨Nat.le_refl _, Nat.le_refl _⟩ dX7_hold_13) hW (fun x3 H locs ex3 hW => ?_)
    refine lv_if_eq (tgt := 28) F.1 F.2.1 dX7_hold_16 (by decide) (fun h4 => ?_) (fun h4 => ?_)
    · refine lv_bipush (v := (-2)) F.1 F.2.1 dX7_hold_28 (by decide) ?_
      have hq : (((-2) : Int32), S) = p_X7_hold S ln dv up := by
        subst ex3
        subst ex1
        exact ((if_neg h2).trans (if_pos h4)).symm
      exact jri F hr0 hlk hW rfl dX7_hold_30 ⟨congrArg Prod.fst hq, congrArg (fun z => fo μ 13 z.2) hq⟩
    · refine lv_iload_n F.1 F.2.1 dX7_hold_19 rfl (lv_at hl 3 rfl) ?_
      refine lv_iconst (v := 0) F.1 F.2.1 dX7_hold_20 (by decide) ?_
      refine lv_iconst (v := 1) F.1 F.2.1 dX7_hold_21 (by decide) ?_
      refine jcip (jrunS (As := [.int up, .int 0, .int 1]) (rest := []) F hT hW yc_X7_in ys_X7_in ml_X7_40 (c_X7_in l E (fo μ 13 S) up 0 1) rfl hl.1 ⟨Nat.le_of_ble_eq_true rfl, Nat.le_of_ble_eq_true rfl⟩ rfl (Nat.le_of_ble_eq_true rfl) ⟨Nat.le_refl _, Nat.le_refl _⟩ dX7_hold_22) hW (fun x5 H locs ex5 hW => ?_)
      refine lv_if_ne (tgt := 31) F.1 F.2.1 dX7_hold_25 (by decide) (fun h6 => ?_) (fun h6 => ?_)
      · refine lv_aload_n F.1 F.2.1 dX7_hold_31 rfl (lv_at hl 0 rfl) ?_
        refine lv_iload_n F.1 F.2.1 dX7_hold_32 rfl (lv_at hl 1 rfl) ?_
        refine lv_iconst (v := 3) F.1 F.2.1 dX7_hold_33 (by decide) ?_
        refine jcip (jrunV (As := [.int ln, .int 3]) (rest := []) F hT hW yc_X7_of yv_X7_of ml_X7_61 oM0 (by decide) rfl (c_X7_of l E μ S ln (cn ln) hl1 3 3 (lI 3) (by first | assumption | omega) (by first | assumption | omega)) rfl hl.1 ⟨Nat.le_of_ble_eq_true rfl, Nat.le_of_ble_eq_true rfl⟩ rfl (Nat.le_of_ble_eq_true rfl) ⟨Nat.le_refl _, Nat.le_refl _⟩ dX7_hold_34) hW (fun x7 H locs ex7 hW => ?_)
        refine lv_if_ne (tgt := 43) F.1 F.2.1 dX7_hold_37 (by decide) (fun h8 => ?_) (fun h8 => ?_)
        · refine lv_aload_n F.1 F.2.1 dX7_hold_43 rfl (lv_at hl 0 rfl) ?_
          refine jcvf (jrunV (As := []) (rest := []) F hT hW yc_X7_record yv_X7_record ml_X7_51 oM0 (by decide) rfl (c_X7_record l E μ S (by first | assumption | omega)) rfl hl.1 ⟨Nat.le_of_ble_eq_true rfl, Nat.le_of_ble_eq_true rfl⟩ rfl (Nat.le_of_ble_eq_true rfl) ⟨Nat.le_refl _, Nat.le_refl _⟩ dX7_hold_44) hW (fun S9 H locs eS9 hW => ?_)
          have k10 : S9 1 10 = S 1 10 := by rw [eS9]; exact fr_record (by decide) (by decide)
          refine lv_aload_n F.1 F.2.1 dX7_hold_47 rfl (lv_at hl 0 rfl) ?_
          refine lv_iload_n F.1 F.2.1 dX7_hold_48 rfl (lv_at hl 1 rfl) ?_
          refine lv_bipush (v := 7) F.1 F.2.1 dX7_hold_49 (by decide) ?_
          refine lv_aload_n F.1 F.2.1 dX7_hold_51 rfl (lv_at hl 0 rfl) ?_
          refine lv_iload_n F.1 F.2.1 dX7_hold_52 rfl (lv_at hl 1 rfl) ?_
          refine lv_bipush (v := 7) F.1 F.2.1 dX7_hold_53 (by decide) ?_
          refine jcip (jrunV (As := [.int ln, .int 7]) (rest := [.int 7, .int ln, .ref (ea E 13 0)]) F hT hW yc_X7_of yv_X7_of ml_X7_61 oM0 (by decide) rfl (c_X7_of l E μ S9 ln (cn ln) hl1 7 7 (lI 7) (by first | assumption | omega) (by first | assumption | omega)) rfl hl.1 ⟨Nat.le_of_ble_eq_true rfl, Nat.le_of_ble_eq_true rfl⟩ rfl (Nat.le_of_ble_eq_true rfl) ⟨Nat.le_refl _, Nat.le_refl _⟩ dX7_hold_55) hW (fun x10 H locs ex10 hW => ?_)
          refine lv_iconst (v := 1) F.1 F.2.1 dX7_hold_58 (by decide) ?_
          refine lv_iload_n F.1 F.2.1 dX7_hold_59 rfl (lv_at hl 2 rfl) ?_
          refine lv_ishl F.1 F.2.1 dX7_hold_60 ?_
          refine lv_iconst (v := (-1)) F.1 F.2.1 dX7_hold_61 (by decide) ?_
          refine lv_ixor F.1 F.2.1 dX7_hold_62 ?_
          refine lv_iand F.1 F.2.1 dX7_hold_63 ?_
          refine lv_iload_n F.1 F.2.1 dX7_hold_64 rfl (lv_at hl 3 rfl) ?_
          refine lv_iload_n F.1 F.2.1 dX7_hold_65 rfl (lv_at hl 2 rfl) ?_
          refine lv_ishl F.1 F.2.1 dX7_hold_66 ?_
          refine lv_ior F.1 F.2.1 dX7_hold_67 ?_
          refine lv_iconst (v := 0) F.1 F.2.1 dX7_hold_68 (by decide) ?_
          refine jcvf (jrunV (As := [.int ln, .int 7, .int ((x10 &&& (((1 : Int32) <<< (dv &&& 31)) ^^^ (-1))) ||| ((up : Int32) <<< (dv &&& 31))), .int 0]) (rest := []) F hT hW yc_X7_book yv_X7_book ml_X7_65 oM0 (by decide) rfl (c_X7_book l E μ S9 ln (cn ln) hl1 7 7 (lI 7) ((x10 &&& (((1 : Int32) <<< (dv &&& 31)) ^^^ (-1))) ||| ((up : Int32) <<< (dv &&& 31))) 0 (by first | assumption | omega) (by first | assumption | omega)) rfl hl.1 ⟨Nat.le_of_ble_eq_true rfl, Nat.le_of_ble_eq_true rfl⟩ rfl (Nat.le_of_ble_eq_true rfl) ⟨Nat.le_refl _, Nat.le_refl _⟩ dX7_hold_69) hW (fun S11 H locs eS11 hW => ?_)
          have hd3 : Bn (S11 1 10) 8 := by rw [eS11, fr_book (by omega), k10]; exact hd
          refine lv_aload_n F.1 F.2.1 dX7_hold_72 rfl (lv_at hl 0 rfl) ?_
          refine lv_iload_n F.1 F.2.1 dX7_hold_73 rfl (lv_at hl 1 rfl) ?_
          refine jcvf (jrunV (As := [.int ln]) (rest := []) F hT hW yc_X7_look yv_X7_look ml_X7_82 oM0 (by decide) rfl (c_X7_look l E μ S11 ln (cn ln) hl1 (by first | assumption | omega) hd3) rfl hl.1 ⟨Nat.le_of_ble_eq_true rfl, Nat.le_of_ble_eq_true rfl⟩ rfl (Nat.le_of_ble_eq_true rfl) ⟨Nat.le_refl _, Nat.le_refl _⟩ dX7_hold_74) hW (fun S12 H locs eS12 hW => ?_)
          refine lv_aload_n F.1 F.2.1 dX7_hold_77 rfl (lv_at hl 0 rfl) ?_
          refine lv_iload_n F.1 F.2.1 dX7_hold_78 rfl (lv_at hl 1 rfl) ?_
          refine lv_bipush (v := 7) F.1 F.2.1 dX7_hold_79 (by decide) ?_
          refine jcip (jrunV (As := [.int ln, .int 7]) (rest := []) F hT hW yc_X7_of yv_X7_of ml_X7_61 oM0 (by decide) rfl (c_X7_of l E μ S12 ln (cn ln) hl1 7 7 (lI 7) (by first | assumption | omega) (by first | assumption | omega)) rfl hl.1 ⟨Nat.le_of_ble_eq_true rfl, Nat.le_of_ble_eq_true rfl⟩ rfl (Nat.le_of_ble_eq_true rfl) ⟨Nat.le_refl _, Nat.le_refl _⟩ dX7_hold_81) hW (fun x13 H locs ex13 hW => ?_)
          have hq : ((x13 : Int32), S12) = p_X7_hold S ln dv up := by
            subst ex13
            subst eS12
            subst eS11
            subst ex10
            subst eS9
            subst ex7
            subst ex5
            subst ex3
            subst ex1
            exact ((if_neg h2).trans ((if_neg h4).trans ((if_neg h6).trans (if_neg h8)))).symm
          exact jri F hr0 hlk hW rfl dX7_hold_84 ⟨congrArg Prod.fst hq, congrArg (fun z => fo μ 13 z.2) hq⟩
        · refine lv_bipush (v := (-5)) F.1 F.2.1 dX7_hold_40 (by decide) ?_
          have hq : (((-5) : Int32), S) = p_X7_hold S ln dv up := by
            subst ex7
            subst ex5
            subst ex3
            subst ex1
            exact ((if_neg h2).trans ((if_neg h4).trans ((if_neg h6).trans (if_pos h8)))).symm
          exact jri F hr0 hlk hW rfl dX7_hold_42 ⟨congrArg Prod.fst hq, congrArg (fun z => fo μ 13 z.2) hq⟩
      · refine lv_bipush (v := (-2)) F.1 F.2.1 dX7_hold_28 (by decide) ?_
        have hq : (((-2) : Int32), S) = p_X7_hold S ln dv up := by
          subst ex5
          subst ex3
          subst ex1
          exact ((if_neg h2).trans ((if_neg h4).trans (if_pos h6))).symm
        exact jri F hr0 hlk hW rfl dX7_hold_30 ⟨congrArg Prod.fst hq, congrArg (fun z => fo μ 13 z.2) hq⟩
  · refine lv_iconst (v := (-1)) F.1 F.2.1 dX7_hold_8 (by decide) ?_
    have hq : (((-1) : Int32), S) = p_X7_hold S ln dv up := by
      subst ex1
      exact (if_pos h2).symm
    exact jri F hr0 hlk hW rfl dX7_hold_9 ⟨congrArg Prod.fst hq, congrArg (fun z => fo μ 13 z.2) hq⟩

def p_X7_mask (S : Sv) (ln : Int32) (is : Int32) : Int32 × Sv :=
  let x1 : Int32 := p_X7_isLine S ln
  if x1 = 0 then
    (((-1) : Int32), S)
  else
    let x3 : Int32 := p_X7_in is 0 1
    if x3 = 0 then
      (((-2) : Int32), S)
    else
      let S5 : Sv := p_X7_record S
      let x6 : Int32 := p_X7_of S5 (cn ln) 4
      let S7 : Sv := p_X7_book S5 (cn ln) 4 is 0
      ((x6 : Int32), S7)

set_option maxHeartbeats 4000000 in
set_option maxRecDepth 100000 in
theorem c_X7_mask (l : Launch) (E : mE) (μ : Mu) (S : Sv) (ln : Int32) (is : Int32) (hu : Bn (S 0 3) 6) (hn : Bn (S 1 8) 12) : CtI l E yX7_mask cX7_mask 4 (some .int) 2 43 [.ref (ea E 13 0), .int ln, .int is] (fo μ 13 S) (fun x μ' => x = (p_X7_mask S ln is).1 ∧ μ' = fo μ 13 (p_X7_mask S ln is).2) := by
  refine jMet (by decide +kernel) (Nat.le_of_ble_eq_true rfl) ?_
  intro p e s m below meth c ls F hT hr0 hlk hW hl
  have F : CallFix p m c cX7_mask 4 s _ TB RX7 := F
  have hl : lv_has ls 4 [(0, .ref (ea E 13 0)), (1, .int ln), (2, .int is)] := hl
  refine lv_aload_n F.1 F.2.1 dX7_mask_0 rfl (lv_at hl 0 rfl) ?_
  refine lv_iload_n F.1 F.2.1 dX7_mask_1 rfl (lv_at hl 1 rfl) ?_
  refine jcip (jrunV (As := [.int ln]) (rest := []) F hT hW yc_X7_isLine yv_X7_isLine ml_X7_57 oM0 (by decide) rfl (c_X7_isLine l E μ S ln) rfl hl.1 ⟨Nat.le_of_ble_eq_true rfl, Nat.le_of_ble_eq_true rfl⟩ rfl (Nat.le_of_ble_eq_true rfl) ⟨Nat.le_refl _, Nat.le_refl _⟩ dX7_mask_2) hW (fun x1 H locs ex1 hW => ?_)
  refine lv_if_ne (tgt := 10) F.1 F.2.1 dX7_mask_5 (by decide) (fun h2 => ?_) (fun h2 => ?_)
  · obtain ⟨hl1, hl2⟩ := wI hn (by assumption) (by assumption)
    have hn2 := hn.2
    refine lv_iload_n F.1 F.2.1 dX7_mask_10 rfl (lv_at hl 2 rfl) ?_
    refine lv_iconst (v := 0) F.1 F.2.1 dX7_mask_11 (by decide) ?_
    refine lv_iconst (v := 1) F.1 F.2.1 dX7_mask_12 (by decide) ?_
    refine jcip (jrunS (As := [.int is, .int 0, .int 1]) (rest := []) F hT hW yc_X7_in ys_X7_in ml_X7_40 (c_X7_in l E (fo μ 13 S) is 0 1) rfl hl.1 ⟨Nat.le_of_ble_eq_true rfl, Nat.le_of_ble_eq_true rfl⟩ rfl (Nat.le_of_ble_eq_true rfl) ⟨Nat.le_refl _, Nat.le_refl _⟩ dX7_mask_13) hW (fun x3 H locs ex3 hW => ?_)
    refine lv_if_ne (tgt := 22) F.1 F.2.1 dX7_mask_16 (by decide) (fun h4 => ?_) (fun h4 => ?_)
    · refine lv_aload_n F.1 F.2.1 dX7_mask_22 rfl (lv_at hl 0 rfl) ?_
      refine jcvf (jrunV (As := []) (rest := []) F hT hW yc_X7_record yv_X7_record ml_X7_51 oM0 (by decide) rfl (c_X7_record l E μ S (by first | assumption | omega)) rfl hl.1 ⟨Nat.le_of_ble_eq_true rfl, Nat.le_of_ble_eq_true rfl⟩ rfl (Nat.le_of_ble_eq_true rfl) ⟨Nat.le_refl _, Nat.le_refl _⟩ dX7_mask_23) hW (fun S5 H locs eS5 hW => ?_)
      refine lv_aload_n F.1 F.2.1 dX7_mask_26 rfl (lv_at hl 0 rfl) ?_
      refine lv_iload_n F.1 F.2.1 dX7_mask_27 rfl (lv_at hl 1 rfl) ?_
      refine lv_iconst (v := 4) F.1 F.2.1 dX7_mask_28 (by decide) ?_
      refine jcip (jrunV (As := [.int ln, .int 4]) (rest := []) F hT hW yc_X7_of yv_X7_of ml_X7_61 oM0 (by decide) rfl (c_X7_of l E μ S5 ln (cn ln) hl1 4 4 (lI 4) (by first | assumption | omega) (by first | assumption | omega)) rfl hl.1 ⟨Nat.le_of_ble_eq_true rfl, Nat.le_of_ble_eq_true rfl⟩ rfl (Nat.le_of_ble_eq_true rfl) ⟨Nat.le_refl _, Nat.le_refl _⟩ dX7_mask_29) hW (fun x6 H locs ex6 hW => ?_)
      refine lv_istore_n (lv' := [(3, .int x6), (0, .ref (ea E 13 0)), (1, .int ln), (2, .int is)]) F.1 F.2.1 dX7_mask_32 rfl hl (by decide) rfl (fun ls hl => ?_)
      refine lv_aload_n F.1 F.2.1 dX7_mask_33 rfl (lv_at hl 1 rfl) ?_
      refine lv_iload_n F.1 F.2.1 dX7_mask_34 rfl (lv_at hl 2 rfl) ?_
      refine lv_iconst (v := 4) F.1 F.2.1 dX7_mask_35 (by decide) ?_
      refine lv_iload_n F.1 F.2.1 dX7_mask_36 rfl (lv_at hl 3 rfl) ?_
      refine lv_iconst (v := 0) F.1 F.2.1 dX7_mask_37 (by decide) ?_
      refine jcvf (jrunV (As := [.int ln, .int 4, .int is, .int 0]) (rest := []) F hT hW yc_X7_book yv_X7_book ml_X7_65 oM0 (by decide) rfl (c_X7_book l E μ S5 ln (cn ln) hl1 4 4 (lI 4) is 0 (by first | assumption | omega) (by first | assumption | omega)) rfl hl.1 ⟨Nat.le_of_ble_eq_true rfl, Nat.le_of_ble_eq_true rfl⟩ rfl (Nat.le_of_ble_eq_true rfl) ⟨Nat.le_refl _, Nat.le_refl _⟩ dX7_mask_38) hW (fun S7 H locs eS7 hW => ?_)
      refine lv_iload_n F.1 F.2.1 dX7_mask_41 rfl (lv_at hl 0 rfl) ?_
      have hq : ((x6 : Int32), S7) = p_X7_mask S ln is := by
        subst eS7
        subst ex6
        subst eS5
        subst ex3
        subst ex1
        exact ((if_neg h2).trans (if_neg h4)).symm
      exact jri F hr0 hlk hW rfl dX7_mask_42 ⟨congrArg Prod.fst hq, congrArg (fun z => fo μ 13 z.2) hq⟩
    · refine lv_bipush (v := (-2)) F.1 F.2.1 dX7_mask_19 (by decide) ?_
      have hq : (((-2) : Int32), S) = p_X7_mask S ln is := by
        subst ex3
        subst ex1
        exact ((if_neg h2).trans (if_pos h4)).symm
      exact jri F hr0 hlk hW rfl dX7_mask_21 ⟨congrArg Prod.fst hq, congrArg (fun z => fo μ 13 z.2) hq⟩
  · refine lv_iconst (v := (-1)) F.1 F.2.1 dX7_mask_8 (by decide) ?_
    have hq : (((-1) : Int32), S) = p_X7_mask S ln is := by
      subst ex1
      exact (if_pos h2).symm
    exact jri F hr0 hlk hW rfl dX7_mask_9 ⟨congrArg Prod.fst hq, congrArg (fun z => fo μ 13 z.2) hq⟩

def p_X7_change (S : Sv) (ln : Int32) (a : Int32) (b : Int32) (d : Int32) : Int32 × Sv :=
  let x1 : Int32 := p_X7_isLine S ln
  if x1 = 0 then
    (((-1) : Int32), S)
  else
    let x3 : Int32 := p_X7_areSizes a b d
    if x3 = 0 then
      (((-2) : Int32), S)
    else
      let S5 : Sv := p_X7_record S
      let x6 : Int32 := p_X7_of S5 (cn ln) 0
      let S7 : Sv := p_X7_book S5 (cn ln) 0 a 0
      let S8 : Sv := p_X7_book S7 (cn ln) 1 b 0
      let S9 : Sv := p_X7_book S8 (cn ln) 2 d 0
      ((x6 : Int32), S9)

set_option maxHeartbeats 4000000 in
set_option maxRecDepth 100000 in
theorem c_X7_change (l : Launch) (E : mE) (μ : Mu) (S : Sv) (ln : Int32) (a : Int32) (b : Int32) (d : Int32) (hu : Bn (S 0 3) 6) (hn : Bn (S 1 8) 12) : CtI l E yX7_change cX7_change 6 (some .int) 2 44 [.ref (ea E 13 0), .int ln, .int a, .int b, .int d] (fo μ 13 S) (fun x μ' => x = (p_X7_change S ln a b d).1 ∧ μ' = fo μ 13 (p_X7_change S ln a b d).2) := by
  refine jMet (by decide +kernel) (Nat.le_of_ble_eq_true rfl) ?_
  intro p e s m below meth c ls F hT hr0 hlk hW hl
  have F : CallFix p m c cX7_change 6 s _ TB RX7 := F
  have hl : lv_has ls 6 [(0, .ref (ea E 13 0)), (1, .int ln), (2, .int a), (3, .int b), (4, .int d)] := hl
  refine lv_aload_n F.1 F.2.1 dX7_change_0 rfl (lv_at hl 0 rfl) ?_
  refine lv_iload_n F.1 F.2.1 dX7_change_1 rfl (lv_at hl 1 rfl) ?_
  refine jcip (jrunV (As := [.int ln]) (rest := []) F hT hW yc_X7_isLine yv_X7_isLine ml_X7_57 oM0 (by decide) rfl (c_X7_isLine l E μ S ln) rfl hl.1 ⟨Nat.le_of_ble_eq_true rfl, Nat.le_of_ble_eq_true rfl⟩ rfl (Nat.le_of_ble_eq_true rfl) ⟨Nat.le_refl _, Nat.le_refl _⟩ dX7_change_2) hW (fun x1 H locs ex1 hW => ?_)
  refine lv_if_ne (tgt := 10) F.1 F.2.1 dX7_change_5 (by decide) (fun h2 => ?_) (fun h2 => ?_)
  · obtain ⟨hl1, hl2⟩ := wI hn (by assumption) (by assumption)
    have hn2 := hn.2
    refine lv_iload_n F.1 F.2.1 dX7_change_10 rfl (lv_at hl 2 rfl) ?_
    refine lv_iload_n F.1 F.2.1 dX7_change_11 rfl (lv_at hl 3 rfl) ?_
    refine lv_iload F.1 F.2.1 dX7_change_12 (lv_at hl 4 rfl) ?_
    refine jcip (jrunS (As := [.int a, .int b, .int d]) (rest := []) F hT hW yc_X7_areSizes ys_X7_areSizes ml_X7_54 (c_X7_areSizes l E (fo μ 13 S) a b d) rfl hl.1 ⟨Nat.le_of_ble_eq_true rfl, Nat.le_of_ble_eq_true rfl⟩ rfl (Nat.le_of_ble_eq_true rfl) ⟨Nat.le_refl _, Nat.le_refl _⟩ dX7_change_14) hW (fun x3 H locs ex3 hW => ?_)
    refine lv_if_ne (tgt := 23) F.1 F.2.1 dX7_change_17 (by decide) (fun h4 => ?_) (fun h4 => ?_)
    · refine lv_aload_n F.1 F.2.1 dX7_change_23 rfl (lv_at hl 0 rfl) ?_
      refine jcvf (jrunV (As := []) (rest := []) F hT hW yc_X7_record yv_X7_record ml_X7_51 oM0 (by decide) rfl (c_X7_record l E μ S (by first | assumption | omega)) rfl hl.1 ⟨Nat.le_of_ble_eq_true rfl, Nat.le_of_ble_eq_true rfl⟩ rfl (Nat.le_of_ble_eq_true rfl) ⟨Nat.le_refl _, Nat.le_refl _⟩ dX7_change_24) hW (fun S5 H locs eS5 hW => ?_)
      refine lv_aload_n F.1 F.2.1 dX7_change_27 rfl (lv_at hl 0 rfl) ?_
      refine lv_iload_n F.1 F.2.1 dX7_change_28 rfl (lv_at hl 1 rfl) ?_
      refine lv_iconst (v := 0) F.1 F.2.1 dX7_change_29 (by decide) ?_
      refine jcip (jrunV (As := [.int ln, .int 0]) (rest := []) F hT hW yc_X7_of yv_X7_of ml_X7_61 oM0 (by decide) rfl (c_X7_of l E μ S5 ln (cn ln) hl1 0 0 (lI 0) (by first | assumption | omega) (by first | assumption | omega)) rfl hl.1 ⟨Nat.le_of_ble_eq_true rfl, Nat.le_of_ble_eq_true rfl⟩ rfl (Nat.le_of_ble_eq_true rfl) ⟨Nat.le_refl _, Nat.le_refl _⟩ dX7_change_30) hW (fun x6 H locs ex6 hW => ?_)
      refine lv_istore (lv' := [(5, .int x6), (0, .ref (ea E 13 0)), (1, .int ln), (2, .int a), (3, .int b), (4, .int d)]) F.1 F.2.1 dX7_change_33 hl (by decide) rfl (fun ls hl => ?_)
      refine lv_aload_n F.1 F.2.1 dX7_change_35 rfl (lv_at hl 1 rfl) ?_
      refine lv_iload_n F.1 F.2.1 dX7_change_36 rfl (lv_at hl 2 rfl) ?_
      refine lv_iconst (v := 0) F.1 F.2.1 dX7_change_37 (by decide) ?_
      refine lv_iload_n F.1 F.2.1 dX7_change_38 rfl (lv_at hl 3 rfl) ?_
      refine lv_iconst (v := 0) F.1 F.2.1 dX7_change_39 (by decide) ?_
      refine jcvf (jrunV (As := [.int ln, .int 0, .int a, .int 0]) (rest := []) F hT hW yc_X7_book yv_X7_book ml_X7_65 oM0 (by decide) rfl (c_X7_book l E μ S5 ln (cn ln) hl1 0 0 (lI 0) a 0 (by first | assumption | omega) (by first | assumption | omega)) rfl hl.1 ⟨Nat.le_of_ble_eq_true rfl, Nat.le_of_ble_eq_true rfl⟩ rfl (Nat.le_of_ble_eq_true rfl) ⟨Nat.le_refl _, Nat.le_refl _⟩ dX7_change_40) hW (fun S7 H locs eS7 hW => ?_)
      refine lv_aload_n F.1 F.2.1 dX7_change_43 rfl (lv_at hl 1 rfl) ?_
      refine lv_iload_n F.1 F.2.1 dX7_change_44 rfl (lv_at hl 2 rfl) ?_
      refine lv_iconst (v := 1) F.1 F.2.1 dX7_change_45 (by decide) ?_
      refine lv_iload_n F.1 F.2.1 dX7_change_46 rfl (lv_at hl 4 rfl) ?_
      refine lv_iconst (v := 0) F.1 F.2.1 dX7_change_47 (by decide) ?_
      refine jcvf (jrunV (As := [.int ln, .int 1, .int b, .int 0]) (rest := []) F hT hW yc_X7_book yv_X7_book ml_X7_65 oM0 (by decide) rfl (c_X7_book l E μ S7 ln (cn ln) hl1 1 1 (lI 1) b 0 (by first | assumption | omega) (by first | assumption | omega)) rfl hl.1 ⟨Nat.le_of_ble_eq_true rfl, Nat.le_of_ble_eq_true rfl⟩ rfl (Nat.le_of_ble_eq_true rfl) ⟨Nat.le_refl _, Nat.le_refl _⟩ dX7_change_48) hW (fun S8 H locs eS8 hW => ?_)
      refine lv_aload_n F.1 F.2.1 dX7_change_51 rfl (lv_at hl 1 rfl) ?_
      refine lv_iload_n F.1 F.2.1 dX7_change_52 rfl (lv_at hl 2 rfl) ?_
      refine lv_iconst (v := 2) F.1 F.2.1 dX7_change_53 (by decide) ?_
      refine lv_iload F.1 F.2.1 dX7_change_54 (lv_at hl 5 rfl) ?_
      refine lv_iconst (v := 0) F.1 F.2.1 dX7_change_56 (by decide) ?_
      refine jcvf (jrunV (As := [.int ln, .int 2, .int d, .int 0]) (rest := []) F hT hW yc_X7_book yv_X7_book ml_X7_65 oM0 (by decide) rfl (c_X7_book l E μ S8 ln (cn ln) hl1 2 2 (lI 2) d 0 (by first | assumption | omega) (by first | assumption | omega)) rfl hl.1 ⟨Nat.le_of_ble_eq_true rfl, Nat.le_of_ble_eq_true rfl⟩ rfl (Nat.le_of_ble_eq_true rfl) ⟨Nat.le_refl _, Nat.le_refl _⟩ dX7_change_57) hW (fun S9 H locs eS9 hW => ?_)
      refine lv_iload F.1 F.2.1 dX7_change_60 (lv_at hl 0 rfl) ?_
      have hq : ((x6 : Int32), S9) = p_X7_change S ln a b d := by
        subst eS9
        subst eS8
        subst eS7
        subst ex6
        subst eS5
        subst ex3
        subst ex1
        exact ((if_neg h2).trans (if_neg h4)).symm
      exact jri F hr0 hlk hW rfl dX7_change_62 ⟨congrArg Prod.fst hq, congrArg (fun z => fo μ 13 z.2) hq⟩
    · refine lv_bipush (v := (-2)) F.1 F.2.1 dX7_change_20 (by decide) ?_
      have hq : (((-2) : Int32), S) = p_X7_change S ln a b d := by
        subst ex3
        subst ex1
        exact ((if_neg h2).trans (if_pos h4)).symm
      exact jri F hr0 hlk hW rfl dX7_change_22 ⟨congrArg Prod.fst hq, congrArg (fun z => fo μ 13 z.2) hq⟩
  · refine lv_iconst (v := (-1)) F.1 F.2.1 dX7_change_8 (by decide) ?_
    have hq : (((-1) : Int32), S) = p_X7_change S ln a b d := by
      subst ex1
      exact (if_pos h2).symm
    exact jri F hr0 hlk hW rfl dX7_change_9 ⟨congrArg Prod.fst hq, congrArg (fun z => fo μ 13 z.2) hq⟩

def p_X7_ofLine (S : Sv) (ln : Int32) (wh : Int32) : Int32 :=
  let x1 : Int32 := p_X7_isLine S ln
  if x1 = 0 then
    ((-1) : Int32)
  else
    if wh = 6 then
      let x3 : Int32 := p_X7_waits S (cn ln)
      let v6 : Int32 := (if x3 = 0 then (-6) else (let x5 : Int32 := p_X7_of S (cn ln) 6; x5))
      (v6 : Int32)
    else
      if wh = 7 then
        let x8 : Int32 := p_X7_present S (cn ln)
        (x8 : Int32)
      else
        if wh = 8 then
          let x9 : Int32 := p_X7_placeOf S ln
          (x9 : Int32)
        else
          let x10 : Int32 := p_X7_in wh 0 5
          let v16 : Int32 := (if x10 = 0 then (let x12 : Int32 := p_X7_in wh 9 16; (if x12 = 0 then (-2) else (let x14 : Int32 := p_X7_of S (cn ln) (cn (wh - 2)); x14))) else (let x15 : Int32 := p_X7_of S (cn ln) (cn wh); x15))
          (v16 : Int32)

set_option maxHeartbeats 4000000 in
set_option maxRecDepth 100000 in
theorem c_X7_ofLine (l : Launch) (E : mE) (μ : Mu) (S : Sv) (ln : Int32) (wh : Int32) (hn : Bn (S 1 8) 12) (hd : Bn (S 1 10) 8) : CtI l E yX7_ofLine cX7_ofLine 3 (some .int) 3 66 [.ref (ea E 13 0), .int ln, .int wh] (fo μ 13 S) (fun x μ' => x = p_X7_ofLine S ln wh ∧ μ' = (fo μ 13 S)) := by
  refine jMet (by decide +kernel) (Nat.le_of_ble_eq_true rfl) ?_
  intro p e s m below meth c ls F hT hr0 hlk hW hl
  have F : CallFix p m c cX7_ofLine 3 s _ TB RX7 := F
  have hl : lv_has ls 3 [(0, .ref (ea E 13 0)), (1, .int ln), (2, .int wh)] := hl
  refine lv_aload_n F.1 F.2.1 dX7_ofLine_0 rfl (lv_at hl 0 rfl) ?_
  refine lv_iload_n F.1 F.2.1 dX7_ofLine_1 rfl (lv_at hl 1 rfl) ?_
  refine jcip (jrunV (As := [.int ln]) (rest := []) F hT hW yc_X7_isLine yv_X7_isLine ml_X7_57 oM0 (by decide) rfl (c_X7_isLine l E μ S ln) rfl hl.1 ⟨Nat.le_of_ble_eq_true rfl, Nat.le_of_ble_eq_true rfl⟩ rfl (Nat.le_of_ble_eq_true rfl) ⟨Nat.le_refl _, Nat.le_refl _⟩ dX7_ofLine_2) hW (fun x1 H locs ex1 hW => ?_)
  refine lv_if_ne (tgt := 10) F.1 F.2.1 dX7_ofLine_5 (by decide) (fun h2 => ?_) (fun h2 => ?_)
  · obtain ⟨hl1, hl2⟩ := wI hn (by assumption) (by assumption)
    have hn2 := hn.2
    refine lv_iload_n F.1 F.2.1 dX7_ofLine_10 rfl (lv_at hl 2 rfl) ?_
    rcases Decidable.em (wh = 6) with hk11_0 | hk11_0
    · refine lv_tableIn (off := 25) (tgt := 36) F.1 F.2.1 dX7_ofLine_11 (by rw [hk11_0]; decide) (by rw [hk11_0]; decide) (by rw [hk11_0]; rfl) (by decide) ?_
      refine lv_aload_n F.1 F.2.1 dX7_ofLine_36 rfl (lv_at hl 0 rfl) ?_
      refine lv_iload_n F.1 F.2.1 dX7_ofLine_37 rfl (lv_at hl 1 rfl) ?_
      refine jcip (jrunV (As := [.int ln]) (rest := []) F hT hW yc_X7_waits yv_X7_waits ml_X7_69 oM0 (by decide) rfl (c_X7_waits l E μ S ln (cn ln) hl1 (by first | assumption | omega)) rfl hl.1 ⟨Nat.le_of_ble_eq_true rfl, Nat.le_of_ble_eq_true rfl⟩ rfl (Nat.le_of_ble_eq_true rfl) ⟨Nat.le_refl _, Nat.le_refl _⟩ dX7_ofLine_38) hW (fun x3 H locs ex3 hW => ?_)
      have hJ7 : ∀ (v6 : Int32) (H : Heap) (locs : List Loc) (ls : Array Slot), v6 = (if x3 = 0 then (-6) else (let x5 : Int32 := p_X7_of S (cn ln) 6; x5)) → Wd E s H locs (fo μ 13 S) → lv_has ls 3 [(0, .ref (ea E 13 0)), (1, .int ln), (2, .int wh)] → W p l e (rmO 3 66) s m ([.ref (ea E 13 0), .int ln, .int wh] : List Value).toArray below meth c H locs 0 0 (MQ below (va_Qi (fun x μ' => x = p_X7_ofLine S ln wh ∧ μ' = (fo μ 13 S)) (fun μ' t => MB E μ' t.heap) (AA E)) ([.ref (ea E 13 0), .int ln, .int wh] : List Value).toArray s 0 0 (AA E)) (F0 m 56 ls [.int v6]) := by
        intro v6 H locs ls ev6 hW hl
        have hq : (v6 : Int32) = p_X7_ofLine S ln wh := by
          subst ev6
          subst ex3
          subst ex1
          exact ((if_neg h2).trans (if_pos hk11_0)).symm
        exact jri F hr0 hlk hW rfl dX7_ofLine_56 ⟨hq, rfl⟩
      refine lv_if_eq (tgt := 54) F.1 F.2.1 dX7_ofLine_41 (by decide) (fun h4 => ?_) (fun h4 => ?_)
      · refine lv_bipush (v := (-6)) F.1 F.2.1 dX7_ofLine_54 (by decide) ?_
        exact hJ7 _ _ _ _ (if_pos h4).symm hW (lv_sub hl [0, 1, 2] rfl)
      · refine lv_aload_n F.1 F.2.1 dX7_ofLine_44 rfl (lv_at hl 0 rfl) ?_
        refine lv_iload_n F.1 F.2.1 dX7_ofLine_45 rfl (lv_at hl 1 rfl) ?_
        refine lv_bipush (v := 6) F.1 F.2.1 dX7_ofLine_46 (by decide) ?_
        refine jcip (jrunV (As := [.int ln, .int 6]) (rest := []) F hT hW yc_X7_of yv_X7_of ml_X7_61 oM0 (by decide) rfl (c_X7_of l E μ S ln (cn ln) hl1 6 6 (lI 6) (by first | assumption | omega) (by first | assumption | omega)) rfl hl.1 ⟨Nat.le_of_ble_eq_true rfl, Nat.le_of_ble_eq_true rfl⟩ rfl (Nat.le_of_ble_eq_true rfl) ⟨Nat.le_refl _, Nat.le_refl _⟩ dX7_ofLine_48) hW (fun x5 H locs ex5 hW => ?_)
        refine lv_goto (tgt := 56) F.1 F.2.1 dX7_ofLine_51 (by decide) ?_
        subst ex5
        exact hJ7 _ _ _ _ (if_neg h4).symm hW (lv_sub hl [0, 1, 2] rfl)
    · rcases Decidable.em (wh = 7) with hk11_1 | hk11_1
      · refine lv_tableIn (off := 46) (tgt := 57) F.1 F.2.1 dX7_ofLine_11 (by rw [hk11_1]; decide) (by rw [hk11_1]; decide) (by rw [hk11_1]; rfl) (by decide) ?_
        refine lv_aload_n F.1 F.2.1 dX7_ofLine_57 rfl (lv_at hl 0 rfl) ?_
        refine lv_iload_n F.1 F.2.1 dX7_ofLine_58 rfl (lv_at hl 1 rfl) ?_
        refine jcip (jrunV (As := [.int ln]) (rest := []) F hT hW yc_X7_present yv_X7_present ml_X7_86 oM0 (by decide) rfl (c_X7_present l E μ S ln (cn ln) hl1 (by first | assumption | omega)) rfl hl.1 ⟨Nat.le_of_ble_eq_true rfl, Nat.le_of_ble_eq_true rfl⟩ rfl (Nat.le_of_ble_eq_true rfl) ⟨Nat.le_refl _, Nat.le_refl _⟩ dX7_ofLine_59) hW (fun x8 H locs ex8 hW => ?_)
        have hq : (x8 : Int32) = p_X7_ofLine S ln wh := by
          subst ex8
          subst ex1
          exact ((if_neg h2).trans ((if_neg hk11_0).trans (if_pos hk11_1))).symm
        exact jri F hr0 hlk hW rfl dX7_ofLine_62 ⟨hq, rfl⟩
      · rcases Decidable.em (wh = 8) with hk11_2 | hk11_2
        · refine lv_tableIn (off := 52) (tgt := 63) F.1 F.2.1 dX7_ofLine_11 (by rw [hk11_2]; decide) (by rw [hk11_2]; decide) (by rw [hk11_2]; rfl) (by decide) ?_
          refine lv_aload_n F.1 F.2.1 dX7_ofLine_63 rfl (lv_at hl 0 rfl) ?_
          refine lv_iload_n F.1 F.2.1 dX7_ofLine_64 rfl (lv_at hl 1 rfl) ?_
          refine jcip (jrunV (As := [.int ln]) (rest := []) F hT hW yc_X7_placeOf yv_X7_placeOf ml_X7_79 oM0 (by decide) rfl (c_X7_placeOf l E μ S ln (by first | assumption | omega)) rfl hl.1 ⟨Nat.le_of_ble_eq_true rfl, Nat.le_of_ble_eq_true rfl⟩ rfl (Nat.le_of_ble_eq_true rfl) ⟨Nat.le_refl _, Nat.le_refl _⟩ dX7_ofLine_65) hW (fun x9 H locs ex9 hW => ?_)
          have hq : (x9 : Int32) = p_X7_ofLine S ln wh := by
            subst ex9
            subst ex1
            exact ((if_neg h2).trans ((if_neg hk11_0).trans ((if_neg hk11_1).trans (if_pos hk11_2)))).symm
          exact jri F hr0 hlk hW rfl dX7_ofLine_68 ⟨hq, rfl⟩
        · refine lv_tableOut (tgt := 69) F.1 F.2.1 dX7_ofLine_11 (by have := lv_neT (a := 6) hk11_0 rfl; have := lv_neT (a := 7) hk11_1 rfl; have := lv_neT (a := 8) hk11_2 rfl; omega) (by decide) ?_
          refine lv_iload_n F.1 F.2.1 dX7_ofLine_69 rfl (lv_at hl 2 rfl) ?_
          refine lv_iconst (v := 0) F.1 F.2.1 dX7_ofLine_70 (by decide) ?_
          refine lv_iconst (v := 5) F.1 F.2.1 dX7_ofLine_71 (by decide) ?_
          refine jcip (jrunS (As := [.int wh, .int 0, .int 5]) (rest := []) F hT hW yc_X7_in ys_X7_in ml_X7_40 (c_X7_in l E (fo μ 13 S) wh 0 5) rfl hl.1 ⟨Nat.le_of_ble_eq_true rfl, Nat.le_of_ble_eq_true rfl⟩ rfl (Nat.le_of_ble_eq_true rfl) ⟨Nat.le_refl _, Nat.le_refl _⟩ dX7_ofLine_72) hW (fun x10 H locs ex10 hW => ?_)
          have hJ17 : ∀ (v16 : Int32) (H : Heap) (locs : List Loc) (ls : Array Slot), v16 = (if x10 = 0 then (let x12 : Int32 := p_X7_in wh 9 16; (if x12 = 0 then (-2) else (let x14 : Int32 := p_X7_of S (cn ln) (cn (wh - 2)); x14))) else (let x15 : Int32 := p_X7_of S (cn ln) (cn wh); x15)) → Wd E s H locs (fo μ 13 S) → lv_has ls 3 [(0, .ref (ea E 13 0)), (1, .int ln), (2, .int wh)] → W p l e (rmO 3 66) s m ([.ref (ea E 13 0), .int ln, .int wh] : List Value).toArray below meth c H locs 0 0 (MQ below (va_Qi (fun x μ' => x = p_X7_ofLine S ln wh ∧ μ' = (fo μ 13 S)) (fun μ' t => MB E μ' t.heap) (AA E)) ([.ref (ea E 13 0), .int ln, .int wh] : List Value).toArray s 0 0 (AA E)) (F0 m 111 ls [.int v16]) := by
            intro v16 H locs ls ev16 hW hl
            have hq : (v16 : Int32) = p_X7_ofLine S ln wh := by
              subst ev16
              subst ex10
              subst ex1
              exact ((if_neg h2).trans ((if_neg hk11_0).trans ((if_neg hk11_1).trans (if_neg hk11_2)))).symm
            exact jri F hr0 hlk hW rfl dX7_ofLine_111 ⟨hq, rfl⟩
          refine lv_if_eq (tgt := 87) F.1 F.2.1 dX7_ofLine_75 (by decide) (fun h11 => ?_) (fun h11 => ?_)
          · refine lv_iload_n F.1 F.2.1 dX7_ofLine_87 rfl (lv_at hl 2 rfl) ?_
            refine lv_bipush (v := 9) F.1 F.2.1 dX7_ofLine_88 (by decide) ?_
            refine lv_bipush (v := 16) F.1 F.2.1 dX7_ofLine_90 (by decide) ?_
            refine jcip (jrunS (As := [.int wh, .int 9, .int 16]) (rest := []) F hT hW yc_X7_in ys_X7_in ml_X7_40 (c_X7_in l E (fo μ 13 S) wh 9 16) rfl hl.1 ⟨Nat.le_of_ble_eq_true rfl, Nat.le_of_ble_eq_true rfl⟩ rfl (Nat.le_of_ble_eq_true rfl) ⟨Nat.le_refl _, Nat.le_refl _⟩ dX7_ofLine_92) hW (fun x12 H locs ex12 hW => ?_)
            refine lv_if_eq (tgt := 109) F.1 F.2.1 dX7_ofLine_95 (by decide) (fun h13 => ?_) (fun h13 => ?_)
            · refine lv_bipush (v := (-2)) F.1 F.2.1 dX7_ofLine_109 (by decide) ?_
              subst ex12
              exact hJ17 _ _ _ _ ((if_pos h11).trans (if_pos h13)).symm hW (lv_sub hl [0, 1, 2] rfl)
            · obtain ⟨hw3, hw4, hw5⟩ : wh - 2 = nI (cn (wh - 2)) ∧ 9 - 2 ≤ cn (wh - 2) ∧ cn (wh - 2) ≤ 16 - 2 := wRg (a := wh) (lI 9) (lI 16) (lI 2) (by decide) (by decide) (by decide) (by assumption) (by assumption)
              refine lv_aload_n F.1 F.2.1 dX7_ofLine_98 rfl (lv_at hl 0 rfl) ?_
              refine lv_iload_n F.1 F.2.1 dX7_ofLine_99 rfl (lv_at hl 1 rfl) ?_
              refine lv_iload_n F.1 F.2.1 dX7_ofLine_100 rfl (lv_at hl 2 rfl) ?_
              refine lv_iconst (v := 2) F.1 F.2.1 dX7_ofLine_101 (by decide) ?_
              refine lv_isub F.1 F.2.1 dX7_ofLine_102 ?_
              refine jcip (jrunV (As := [.int ln, .int (wh - 2)]) (rest := []) F hT hW yc_X7_of yv_X7_of ml_X7_61 oM0 (by decide) rfl (c_X7_of l E μ S ln (cn ln) hl1 (wh - 2) (cn (wh - 2)) hw3 (by first | assumption | omega) (by first | assumption | omega)) rfl hl.1 ⟨Nat.le_of_ble_eq_true rfl, Nat.le_of_ble_eq_true rfl⟩ rfl (Nat.le_of_ble_eq_true rfl) ⟨Nat.le_refl _, Nat.le_refl _⟩ dX7_ofLine_103) hW (fun x14 H locs ex14 hW => ?_)
              refine lv_goto (tgt := 111) F.1 F.2.1 dX7_ofLine_106 (by decide) ?_
              subst ex14
              subst ex12
              exact hJ17 _ _ _ _ ((if_pos h11).trans (if_neg h13)).symm hW (lv_sub hl [0, 1, 2] rfl)
          · obtain ⟨hw1, hw2⟩ := wNi (a := wh) (lI 5) (by decide) (by assumption) (by assumption)
            refine lv_aload_n F.1 F.2.1 dX7_ofLine_78 rfl (lv_at hl 0 rfl) ?_
            refine lv_iload_n F.1 F.2.1 dX7_ofLine_79 rfl (lv_at hl 1 rfl) ?_
            refine lv_iload_n F.1 F.2.1 dX7_ofLine_80 rfl (lv_at hl 2 rfl) ?_
            refine jcip (jrunV (As := [.int ln, .int wh]) (rest := []) F hT hW yc_X7_of yv_X7_of ml_X7_61 oM0 (by decide) rfl (c_X7_of l E μ S ln (cn ln) hl1 wh (cn wh) hw1 (by first | assumption | omega) (by first | assumption | omega)) rfl hl.1 ⟨Nat.le_of_ble_eq_true rfl, Nat.le_of_ble_eq_true rfl⟩ rfl (Nat.le_of_ble_eq_true rfl) ⟨Nat.le_refl _, Nat.le_refl _⟩ dX7_ofLine_81) hW (fun x15 H locs ex15 hW => ?_)
            refine lv_goto (tgt := 111) F.1 F.2.1 dX7_ofLine_84 (by decide) ?_
            subst ex15
            exact hJ17 _ _ _ _ (if_neg h11).symm hW (lv_sub hl [0, 1, 2] rfl)
  · refine lv_iconst (v := (-1)) F.1 F.2.1 dX7_ofLine_8 (by decide) ?_
    have hq : ((-1) : Int32) = p_X7_ofLine S ln wh := by
      subst ex1
      exact (if_pos h2).symm
    exact jri F hr0 hlk hW rfl dX7_ofLine_9 ⟨hq, rfl⟩

def p_X7_ofNest (S : Sv) (pl : Int32) (wh : Int32) : Int32 :=
  let x1 : Int32 := p_X7_in pl 0 ((S 1 10) - 1)
  if x1 = 0 then
    ((-1) : Int32)
  else
    let x3 : Int32 := p_X7_in wh 0 3
    let v5 : Int32 := (if x3 = 0 then (-2) else S 1 (220 + 4 * (cn pl) + cn wh))
    (v5 : Int32)

set_option maxHeartbeats 4000000 in
set_option maxRecDepth 100000 in
theorem c_X7_ofNest (l : Launch) (E : mE) (μ : Mu) (S : Sv) (pl : Int32) (wh : Int32) (hd : Bn (S 1 10) 8) : CtI l E yX7_ofNest cX7_ofNest 3 (some .int) 1 22 [.ref (ea E 13 0), .int pl, .int wh] (fo μ 13 S) (fun x μ' => x = p_X7_ofNest S pl wh ∧ μ' = (fo μ 13 S)) := by
  refine jMet (by decide +kernel) (Nat.le_of_ble_eq_true rfl) ?_
  intro p e s m below meth c ls F hT hr0 hlk hW hl
  have F : CallFix p m c cX7_ofNest 3 s _ TB RX7 := F
  have hl : lv_has ls 3 [(0, .ref (ea E 13 0)), (1, .int pl), (2, .int wh)] := hl
  refine lv_iload_n F.1 F.2.1 dX7_ofNest_0 rfl (lv_at hl 1 rfl) ?_
  refine lv_iconst (v := 0) F.1 F.2.1 dX7_ofNest_1 (by decide) ?_
  refine lv_aload_n F.1 F.2.1 dX7_ofNest_2 rfl (lv_at hl 0 rfl) ?_
  refine jgetR F hT hW fw_X7_7 oM0 (by decide) rfl dX7_ofNest_3 ?_
  refine lv_bipush (v := 10) F.1 F.2.1 dX7_ofNest_6 (by decide) ?_
  refine jiald F hT hW 10 oM1 (by omega) (by decide) (lI 10) rfl dX7_ofNest_8 ?_
  refine lv_iconst (v := 1) F.1 F.2.1 dX7_ofNest_9 (by decide) ?_
  refine lv_isub F.1 F.2.1 dX7_ofNest_10 ?_
  refine jcip (jrunS (As := [.int pl, .int 0, .int ((S 1 10) - 1)]) (rest := []) F hT hW yc_X7_in ys_X7_in ml_X7_40 (c_X7_in l E (fo μ 13 S) pl 0 ((S 1 10) - 1)) rfl hl.1 ⟨Nat.le_of_ble_eq_true rfl, Nat.le_of_ble_eq_true rfl⟩ rfl (Nat.le_of_ble_eq_true rfl) ⟨Nat.le_refl _, Nat.le_refl _⟩ dX7_ofNest_11) hW (fun x1 H locs ex1 hW => ?_)
  refine lv_if_ne (tgt := 19) F.1 F.2.1 dX7_ofNest_14 (by decide) (fun h2 => ?_) (fun h2 => ?_)
  · obtain ⟨hl1, hl2⟩ := wLi (a := pl) hd (by decide) (by assumption) (by assumption)
    have hd2 := hd.2
    refine lv_iload_n F.1 F.2.1 dX7_ofNest_19 rfl (lv_at hl 2 rfl) ?_
    refine lv_iconst (v := 0) F.1 F.2.1 dX7_ofNest_20 (by decide) ?_
    refine lv_iconst (v := 3) F.1 F.2.1 dX7_ofNest_21 (by decide) ?_
    refine jcip (jrunS (As := [.int wh, .int 0, .int 3]) (rest := []) F hT hW yc_X7_in ys_X7_in ml_X7_40 (c_X7_in l E (fo μ 13 S) wh 0 3) rfl hl.1 ⟨Nat.le_of_ble_eq_true rfl, Nat.le_of_ble_eq_true rfl⟩ rfl (Nat.le_of_ble_eq_true rfl) ⟨Nat.le_refl _, Nat.le_refl _⟩ dX7_ofNest_22) hW (fun x3 H locs ex3 hW => ?_)
    have hJ6 : ∀ (v5 : Int32) (H : Heap) (locs : List Loc) (ls : Array Slot), v5 = (if x3 = 0 then (-2) else S 1 (220 + 4 * (cn pl) + cn wh)) → Wd E s H locs (fo μ 13 S) → lv_has ls 3 [(0, .ref (ea E 13 0)), (1, .int pl), (2, .int wh)] → W p l e (rmO 1 22) s m ([.ref (ea E 13 0), .int pl, .int wh] : List Value).toArray below meth c H locs 0 0 (MQ below (va_Qi (fun x μ' => x = p_X7_ofNest S pl wh ∧ μ' = (fo μ 13 S)) (fun μ' t => MB E μ' t.heap) (AA E)) ([.ref (ea E 13 0), .int pl, .int wh] : List Value).toArray s 0 0 (AA E)) (F0 m 47 ls [.int v5]) := by
      intro v5 H locs ls ev5 hW hl
      have hq : (v5 : Int32) = p_X7_ofNest S pl wh := by
        subst ev5
        subst ex3
        subst ex1
        exact (if_neg h2).symm
      exact jri F hr0 hlk hW rfl dX7_ofNest_47 ⟨hq, rfl⟩
    refine lv_if_eq (tgt := 45) F.1 F.2.1 dX7_ofNest_25 (by decide) (fun h4 => ?_) (fun h4 => ?_)
    · refine lv_bipush (v := (-2)) F.1 F.2.1 dX7_ofNest_45 (by decide) ?_
      exact hJ6 _ _ _ _ (if_pos h4).symm hW (lv_sub hl [0, 1, 2] rfl)
    · obtain ⟨hw1, hw2⟩ := wNi (a := wh) (lI 3) (by decide) (by assumption) (by assumption)
      refine lv_aload_n F.1 F.2.1 dX7_ofNest_28 rfl (lv_at hl 0 rfl) ?_
      refine jgetR F hT hW fw_X7_7 oM0 (by decide) rfl dX7_ofNest_29 ?_
      refine lv_sipush (v := 220) F.1 F.2.1 dX7_ofNest_32 (by decide) ?_
      refine lv_iconst (v := 4) F.1 F.2.1 dX7_ofNest_35 (by decide) ?_
      refine lv_iload_n F.1 F.2.1 dX7_ofNest_36 rfl (lv_at hl 1 rfl) ?_
      refine lv_imul F.1 F.2.1 dX7_ofNest_37 ?_
      refine lv_iadd F.1 F.2.1 dX7_ofNest_38 ?_
      refine lv_iload_n F.1 F.2.1 dX7_ofNest_39 rfl (lv_at hl 2 rfl) ?_
      refine lv_iadd F.1 F.2.1 dX7_ofNest_40 ?_
      refine jiald F hT hW (220 + 4 * (cn pl) + cn wh) oM1 (by omega) (by decide) (ia (ia (lI 220) (im (lI 4) hl1)) hw1) rfl dX7_ofNest_41 ?_
      refine lv_goto (tgt := 47) F.1 F.2.1 dX7_ofNest_42 (by decide) ?_
      exact hJ6 _ _ _ _ (if_neg h4).symm hW (lv_sub hl [0, 1, 2] rfl)
  · refine lv_iconst (v := (-1)) F.1 F.2.1 dX7_ofNest_17 (by decide) ?_
    have hq : ((-1) : Int32) = p_X7_ofNest S pl wh := by
      subst ex1
      exact (if_pos h2).symm
    exact jri F hr0 hlk hW rfl dX7_ofNest_18 ⟨hq, rfl⟩

def p_X7_ofTimer (S : Sv) (tm : Int32) (wh : Int32) : Int32 :=
  let x1 : Int32 := p_X7_in tm 0 ((S 1 9) - 1)
  if x1 = 0 then
    ((-1) : Int32)
  else
    let x3 : Int32 := p_X7_in wh 0 2
    let v5 : Int32 := (if x3 = 0 then (-2) else S 1 (260 + 3 * (cn tm) + cn wh))
    (v5 : Int32)

set_option maxHeartbeats 4000000 in
set_option maxRecDepth 100000 in
theorem c_X7_ofTimer (l : Launch) (E : mE) (μ : Mu) (S : Sv) (tm : Int32) (wh : Int32) (ht : Bn (S 1 9) 6) : CtI l E yX7_ofTimer cX7_ofTimer 3 (some .int) 1 22 [.ref (ea E 13 0), .int tm, .int wh] (fo μ 13 S) (fun x μ' => x = p_X7_ofTimer S tm wh ∧ μ' = (fo μ 13 S)) := by
  refine jMet (by decide +kernel) (Nat.le_of_ble_eq_true rfl) ?_
  intro p e s m below meth c ls F hT hr0 hlk hW hl
  have F : CallFix p m c cX7_ofTimer 3 s _ TB RX7 := F
  have hl : lv_has ls 3 [(0, .ref (ea E 13 0)), (1, .int tm), (2, .int wh)] := hl
  refine lv_iload_n F.1 F.2.1 dX7_ofTimer_0 rfl (lv_at hl 1 rfl) ?_
  refine lv_iconst (v := 0) F.1 F.2.1 dX7_ofTimer_1 (by decide) ?_
  refine lv_aload_n F.1 F.2.1 dX7_ofTimer_2 rfl (lv_at hl 0 rfl) ?_
  refine jgetR F hT hW fw_X7_7 oM0 (by decide) rfl dX7_ofTimer_3 ?_
  refine lv_bipush (v := 9) F.1 F.2.1 dX7_ofTimer_6 (by decide) ?_
  refine jiald F hT hW 9 oM1 (by omega) (by decide) (lI 9) rfl dX7_ofTimer_8 ?_
  refine lv_iconst (v := 1) F.1 F.2.1 dX7_ofTimer_9 (by decide) ?_
  refine lv_isub F.1 F.2.1 dX7_ofTimer_10 ?_
  refine jcip (jrunS (As := [.int tm, .int 0, .int ((S 1 9) - 1)]) (rest := []) F hT hW yc_X7_in ys_X7_in ml_X7_40 (c_X7_in l E (fo μ 13 S) tm 0 ((S 1 9) - 1)) rfl hl.1 ⟨Nat.le_of_ble_eq_true rfl, Nat.le_of_ble_eq_true rfl⟩ rfl (Nat.le_of_ble_eq_true rfl) ⟨Nat.le_refl _, Nat.le_refl _⟩ dX7_ofTimer_11) hW (fun x1 H locs ex1 hW => ?_)
  refine lv_if_ne (tgt := 19) F.1 F.2.1 dX7_ofTimer_14 (by decide) (fun h2 => ?_) (fun h2 => ?_)
  · obtain ⟨hl1, hl2⟩ := wLi (a := tm) ht (by decide) (by assumption) (by assumption)
    have ht2 := ht.2
    refine lv_iload_n F.1 F.2.1 dX7_ofTimer_19 rfl (lv_at hl 2 rfl) ?_
    refine lv_iconst (v := 0) F.1 F.2.1 dX7_ofTimer_20 (by decide) ?_
    refine lv_iconst (v := 2) F.1 F.2.1 dX7_ofTimer_21 (by decide) ?_
    refine jcip (jrunS (As := [.int wh, .int 0, .int 2]) (rest := []) F hT hW yc_X7_in ys_X7_in ml_X7_40 (c_X7_in l E (fo μ 13 S) wh 0 2) rfl hl.1 ⟨Nat.le_of_ble_eq_true rfl, Nat.le_of_ble_eq_true rfl⟩ rfl (Nat.le_of_ble_eq_true rfl) ⟨Nat.le_refl _, Nat.le_refl _⟩ dX7_ofTimer_22) hW (fun x3 H locs ex3 hW => ?_)
    have hJ6 : ∀ (v5 : Int32) (H : Heap) (locs : List Loc) (ls : Array Slot), v5 = (if x3 = 0 then (-2) else S 1 (260 + 3 * (cn tm) + cn wh)) → Wd E s H locs (fo μ 13 S) → lv_has ls 3 [(0, .ref (ea E 13 0)), (1, .int tm), (2, .int wh)] → W p l e (rmO 1 22) s m ([.ref (ea E 13 0), .int tm, .int wh] : List Value).toArray below meth c H locs 0 0 (MQ below (va_Qi (fun x μ' => x = p_X7_ofTimer S tm wh ∧ μ' = (fo μ 13 S)) (fun μ' t => MB E μ' t.heap) (AA E)) ([.ref (ea E 13 0), .int tm, .int wh] : List Value).toArray s 0 0 (AA E)) (F0 m 47 ls [.int v5]) := by
      intro v5 H locs ls ev5 hW hl
      have hq : (v5 : Int32) = p_X7_ofTimer S tm wh := by
        subst ev5
        subst ex3
        subst ex1
        exact (if_neg h2).symm
      exact jri F hr0 hlk hW rfl dX7_ofTimer_47 ⟨hq, rfl⟩
    refine lv_if_eq (tgt := 45) F.1 F.2.1 dX7_ofTimer_25 (by decide) (fun h4 => ?_) (fun h4 => ?_)
    · refine lv_bipush (v := (-2)) F.1 F.2.1 dX7_ofTimer_45 (by decide) ?_
      exact hJ6 _ _ _ _ (if_pos h4).symm hW (lv_sub hl [0, 1, 2] rfl)
    · obtain ⟨hw1, hw2⟩ := wNi (a := wh) (lI 2) (by decide) (by assumption) (by assumption)
      refine lv_aload_n F.1 F.2.1 dX7_ofTimer_28 rfl (lv_at hl 0 rfl) ?_
      refine jgetR F hT hW fw_X7_7 oM0 (by decide) rfl dX7_ofTimer_29 ?_
      refine lv_sipush (v := 260) F.1 F.2.1 dX7_ofTimer_32 (by decide) ?_
      refine lv_iconst (v := 3) F.1 F.2.1 dX7_ofTimer_35 (by decide) ?_
      refine lv_iload_n F.1 F.2.1 dX7_ofTimer_36 rfl (lv_at hl 1 rfl) ?_
      refine lv_imul F.1 F.2.1 dX7_ofTimer_37 ?_
      refine lv_iadd F.1 F.2.1 dX7_ofTimer_38 ?_
      refine lv_iload_n F.1 F.2.1 dX7_ofTimer_39 rfl (lv_at hl 2 rfl) ?_
      refine lv_iadd F.1 F.2.1 dX7_ofTimer_40 ?_
      refine jiald F hT hW (260 + 3 * (cn tm) + cn wh) oM1 (by omega) (by decide) (ia (ia (lI 260) (im (lI 3) hl1)) hw1) rfl dX7_ofTimer_41 ?_
      refine lv_goto (tgt := 47) F.1 F.2.1 dX7_ofTimer_42 (by decide) ?_
      exact hJ6 _ _ _ _ (if_neg h4).symm hW (lv_sub hl [0, 1, 2] rfl)
  · refine lv_iconst (v := (-1)) F.1 F.2.1 dX7_ofTimer_17 (by decide) ?_
    have hq : ((-1) : Int32) = p_X7_ofTimer S tm wh := by
      subst ex1
      exact (if_pos h2).symm
    exact jri F hr0 hlk hW rfl dX7_ofTimer_18 ⟨hq, rfl⟩

def p_X7_count (S : Sv) (wh : Int32) : Int32 :=
  let x1 : Int32 := p_X7_in wh 12 18
  if x1 = 0 then
    if wh = 0 then
      (S 1 7 : Int32)
    else
      if wh = 1 then
        (S 1 8 : Int32)
      else
        if wh = 2 then
          (S 1 9 : Int32)
        else
          if wh = 3 then
            (S 1 10 : Int32)
          else
            if wh = 4 then
              let x3 : Int32 := p_X7_waiting S
              (x3 : Int32)
            else
              if wh = 5 then
                let x4 : Int32 := p_X7_found S
                (x4 : Int32)
              else
                if wh = 6 then
                  (S 1 11 : Int32)
                else
                  if wh = 7 then
                    (S 1 12 : Int32)
                  else
                    if wh = 8 then
                      let x5 : Int32 := p_X7_misses S
                      (x5 : Int32)
                    else
                      if wh = 9 then
                        (S 1 13 : Int32)
                      else
                        if wh = 10 then
                          (S 0 7 : Int32)
                        else
                          let v7 : Int32 := (if wh = 11 then S 0 3 else (-2))
                          (v7 : Int32)
  else
    (S 1 (cn (wh - 12)) : Int32)

set_option maxHeartbeats 4000000 in
set_option maxRecDepth 100000 in
theorem c_X7_count (l : Launch) (E : mE) (μ : Mu) (S : Sv) (wh : Int32) (hn : Bn (S 1 8) 12) (hd : Bn (S 1 10) 8) : CtI l E yX7_count cX7_count 2 (some .int) 4 89 [.ref (ea E 13 0), .int wh] (fo μ 13 S) (fun x μ' => x = p_X7_count S wh ∧ μ' = (fo μ 13 S)) := by
  refine jMet (by decide +kernel) (Nat.le_of_ble_eq_true rfl) ?_
  intro p e s m below meth c ls F hT hr0 hlk hW hl
  have F : CallFix p m c cX7_count 2 s _ TB RX7 := F
  have hl : lv_has ls 2 [(0, .ref (ea E 13 0)), (1, .int wh)] := hl
  refine lv_iload_n F.1 F.2.1 dX7_count_0 rfl (lv_at hl 1 rfl) ?_
  refine lv_bipush (v := 12) F.1 F.2.1 dX7_count_1 (by decide) ?_
  refine lv_bipush (v := 18) F.1 F.2.1 dX7_count_3 (by decide) ?_
  refine jcip (jrunS (As := [.int wh, .int 12, .int 18]) (rest := []) F hT hW yc_X7_in ys_X7_in ml_X7_40 (c_X7_in l E (fo μ 13 S) wh 12 18) rfl hl.1 ⟨Nat.le_of_ble_eq_true rfl, Nat.le_of_ble_eq_true rfl⟩ rfl (Nat.le_of_ble_eq_true rfl) ⟨Nat.le_refl _, Nat.le_refl _⟩ dX7_count_5) hW (fun x1 H locs ex1 hW => ?_)
  refine lv_if_eq (tgt := 21) F.1 F.2.1 dX7_count_8 (by decide) (fun h2 => ?_) (fun h2 => ?_)
  · refine lv_iload_n F.1 F.2.1 dX7_count_21 rfl (lv_at hl 1 rfl) ?_
    rcases Decidable.em (wh = 0) with hk22_0 | hk22_0
    · refine lv_tableIn (off := 58) (tgt := 80) F.1 F.2.1 dX7_count_22 (by rw [hk22_0]; decide) (by rw [hk22_0]; decide) (by rw [hk22_0]; rfl) (by decide) ?_
      refine lv_aload_n F.1 F.2.1 dX7_count_80 rfl (lv_at hl 0 rfl) ?_
      refine jgetR F hT hW fw_X7_7 oM0 (by decide) rfl dX7_count_81 ?_
      refine lv_bipush (v := 7) F.1 F.2.1 dX7_count_84 (by decide) ?_
      refine jiald F hT hW 7 oM1 (by omega) (by decide) (lI 7) rfl dX7_count_86 ?_
      have hq : (S 1 7 : Int32) = p_X7_count S wh := by
        subst ex1
        exact ((if_pos h2).trans (if_pos hk22_0)).symm
      exact jri F hr0 hlk hW rfl dX7_count_87 ⟨hq, rfl⟩
    · rcases Decidable.em (wh = 1) with hk22_1 | hk22_1
      · refine lv_tableIn (off := 66) (tgt := 88) F.1 F.2.1 dX7_count_22 (by rw [hk22_1]; decide) (by rw [hk22_1]; decide) (by rw [hk22_1]; rfl) (by decide) ?_
        refine lv_aload_n F.1 F.2.1 dX7_count_88 rfl (lv_at hl 0 rfl) ?_
        refine jgetR F hT hW fw_X7_7 oM0 (by decide) rfl dX7_count_89 ?_
        refine lv_bipush (v := 8) F.1 F.2.1 dX7_count_92 (by decide) ?_
        refine jiald F hT hW 8 oM1 (by omega) (by decide) (lI 8) rfl dX7_count_94 ?_
        have hq : (S 1 8 : Int32) = p_X7_count S wh := by
          subst ex1
          exact ((if_pos h2).trans ((if_neg hk22_0).trans (if_pos hk22_1))).symm
        exact jri F hr0 hlk hW rfl dX7_count_95 ⟨hq, rfl⟩
      · rcases Decidable.em (wh = 2) with hk22_2 | hk22_2
        · refine lv_tableIn (off := 74) (tgt := 96) F.1 F.2.1 dX7_count_22 (by rw [hk22_2]; decide) (by rw [hk22_2]; decide) (by rw [hk22_2]; rfl) (by decide) ?_
          refine lv_aload_n F.1 F.2.1 dX7_count_96 rfl (lv_at hl 0 rfl) ?_
          refine jgetR F hT hW fw_X7_7 oM0 (by decide) rfl dX7_count_97 ?_
          refine lv_bipush (v := 9) F.1 F.2.1 dX7_count_100 (by decide) ?_
          refine jiald F hT hW 9 oM1 (by omega) (by decide) (lI 9) rfl dX7_count_102 ?_
          have hq : (S 1 9 : Int32) = p_X7_count S wh := by
            subst ex1
            exact ((if_pos h2).trans ((if_neg hk22_0).trans ((if_neg hk22_1).trans (if_pos hk22_2)))).symm
          exact jri F hr0 hlk hW rfl dX7_count_103 ⟨hq, rfl⟩
        · rcases Decidable.em (wh = 3) with hk22_3 | hk22_3
          · refine lv_tableIn (off := 82) (tgt := 104) F.1 F.2.1 dX7_count_22 (by rw [hk22_3]; decide) (by rw [hk22_3]; decide) (by rw [hk22_3]; rfl) (by decide) ?_
            refine lv_aload_n F.1 F.2.1 dX7_count_104 rfl (lv_at hl 0 rfl) ?_
            refine jgetR F hT hW fw_X7_7 oM0 (by decide) rfl dX7_count_105 ?_
            refine lv_bipush (v := 10) F.1 F.2.1 dX7_count_108 (by decide) ?_
            refine jiald F hT hW 10 oM1 (by omega) (by decide) (lI 10) rfl dX7_count_110 ?_
            have hq : (S 1 10 : Int32) = p_X7_count S wh := by
              subst ex1
              exact ((if_pos h2).trans ((if_neg hk22_0).trans ((if_neg hk22_1).trans ((if_neg hk22_2).trans (if_pos hk22_3))))).symm
            exact jri F hr0 hlk hW rfl dX7_count_111 ⟨hq, rfl⟩
          · rcases Decidable.em (wh = 4) with hk22_4 | hk22_4
            · refine lv_tableIn (off := 90) (tgt := 112) F.1 F.2.1 dX7_count_22 (by rw [hk22_4]; decide) (by rw [hk22_4]; decide) (by rw [hk22_4]; rfl) (by decide) ?_
              refine lv_aload_n F.1 F.2.1 dX7_count_112 rfl (lv_at hl 0 rfl) ?_
              refine jcip (jrunV (As := []) (rest := []) F hT hW yc_X7_waiting yv_X7_waiting ml_X7_102 oM0 (by decide) rfl (c_X7_waiting l E μ S (by first | assumption | omega)) rfl hl.1 ⟨Nat.le_of_ble_eq_true rfl, Nat.le_of_ble_eq_true rfl⟩ rfl (Nat.le_of_ble_eq_true rfl) ⟨Nat.le_refl _, Nat.le_refl _⟩ dX7_count_113) hW (fun x3 H locs ex3 hW => ?_)
              have hq : (x3 : Int32) = p_X7_count S wh := by
                subst ex3
                subst ex1
                exact ((if_pos h2).trans ((if_neg hk22_0).trans ((if_neg hk22_1).trans ((if_neg hk22_2).trans ((if_neg hk22_3).trans (if_pos hk22_4)))))).symm
              exact jri F hr0 hlk hW rfl dX7_count_116 ⟨hq, rfl⟩
            · rcases Decidable.em (wh = 5) with hk22_5 | hk22_5
              · refine lv_tableIn (off := 95) (tgt := 117) F.1 F.2.1 dX7_count_22 (by rw [hk22_5]; decide) (by rw [hk22_5]; decide) (by rw [hk22_5]; rfl) (by decide) ?_
                refine lv_aload_n F.1 F.2.1 dX7_count_117 rfl (lv_at hl 0 rfl) ?_
                refine jcip (jrunV (As := []) (rest := []) F hT hW yc_X7_found yv_X7_found ml_X7_89 oM0 (by decide) rfl (c_X7_found l E μ S (by first | assumption | omega) (by first | assumption | omega)) rfl hl.1 ⟨Nat.le_of_ble_eq_true rfl, Nat.le_of_ble_eq_true rfl⟩ rfl (Nat.le_of_ble_eq_true rfl) ⟨Nat.le_refl _, Nat.le_refl _⟩ dX7_count_118) hW (fun x4 H locs ex4 hW => ?_)
                have hq : (x4 : Int32) = p_X7_count S wh := by
                  subst ex4
                  subst ex1
                  exact ((if_pos h2).trans ((if_neg hk22_0).trans ((if_neg hk22_1).trans ((if_neg hk22_2).trans ((if_neg hk22_3).trans ((if_neg hk22_4).trans (if_pos hk22_5))))))).symm
                exact jri F hr0 hlk hW rfl dX7_count_121 ⟨hq, rfl⟩
              · rcases Decidable.em (wh = 6) with hk22_6 | hk22_6
                · refine lv_tableIn (off := 100) (tgt := 122) F.1 F.2.1 dX7_count_22 (by rw [hk22_6]; decide) (by rw [hk22_6]; decide) (by rw [hk22_6]; rfl) (by decide) ?_
                  refine lv_aload_n F.1 F.2.1 dX7_count_122 rfl (lv_at hl 0 rfl) ?_
                  refine jgetR F hT hW fw_X7_7 oM0 (by decide) rfl dX7_count_123 ?_
                  refine lv_bipush (v := 11) F.1 F.2.1 dX7_count_126 (by decide) ?_
                  refine jiald F hT hW 11 oM1 (by omega) (by decide) (lI 11) rfl dX7_count_128 ?_
                  have hq : (S 1 11 : Int32) = p_X7_count S wh := by
                    subst ex1
                    exact ((if_pos h2).trans ((if_neg hk22_0).trans ((if_neg hk22_1).trans ((if_neg hk22_2).trans ((if_neg hk22_3).trans ((if_neg hk22_4).trans ((if_neg hk22_5).trans (if_pos hk22_6)))))))).symm
                  exact jri F hr0 hlk hW rfl dX7_count_129 ⟨hq, rfl⟩
                · rcases Decidable.em (wh = 7) with hk22_7 | hk22_7
                  · refine lv_tableIn (off := 108) (tgt := 130) F.1 F.2.1 dX7_count_22 (by rw [hk22_7]; decide) (by rw [hk22_7]; decide) (by rw [hk22_7]; rfl) (by decide) ?_
                    refine lv_aload_n F.1 F.2.1 dX7_count_130 rfl (lv_at hl 0 rfl) ?_
                    refine jgetR F hT hW fw_X7_7 oM0 (by decide) rfl dX7_count_131 ?_
                    refine lv_bipush (v := 12) F.1 F.2.1 dX7_count_134 (by decide) ?_
                    refine jiald F hT hW 12 oM1 (by omega) (by decide) (lI 12) rfl dX7_count_136 ?_
                    have hq : (S 1 12 : Int32) = p_X7_count S wh := by
                      subst ex1
                      exact ((if_pos h2).trans ((if_neg hk22_0).trans ((if_neg hk22_1).trans ((if_neg hk22_2).trans ((if_neg hk22_3).trans ((if_neg hk22_4).trans ((if_neg hk22_5).trans ((if_neg hk22_6).trans (if_pos hk22_7))))))))).symm
                    exact jri F hr0 hlk hW rfl dX7_count_137 ⟨hq, rfl⟩
                  · rcases Decidable.em (wh = 8) with hk22_8 | hk22_8
                    · refine lv_tableIn (off := 116) (tgt := 138) F.1 F.2.1 dX7_count_22 (by rw [hk22_8]; decide) (by rw [hk22_8]; decide) (by rw [hk22_8]; rfl) (by decide) ?_
                      refine lv_aload_n F.1 F.2.1 dX7_count_138 rfl (lv_at hl 0 rfl) ?_
                      refine jcip (jrunV (As := []) (rest := []) F hT hW yc_X7_misses yv_X7_misses ml_X7_105 oM0 (by decide) rfl (c_X7_misses l E μ S (by first | assumption | omega)) rfl hl.1 ⟨Nat.le_of_ble_eq_true rfl, Nat.le_of_ble_eq_true rfl⟩ rfl (Nat.le_of_ble_eq_true rfl) ⟨Nat.le_refl _, Nat.le_refl _⟩ dX7_count_139) hW (fun x5 H locs ex5 hW => ?_)
                      have hq : (x5 : Int32) = p_X7_count S wh := by
                        subst ex5
                        subst ex1
                        exact ((if_pos h2).trans ((if_neg hk22_0).trans ((if_neg hk22_1).trans ((if_neg hk22_2).trans ((if_neg hk22_3).trans ((if_neg hk22_4).trans ((if_neg hk22_5).trans ((if_neg hk22_6).trans ((if_neg hk22_7).trans (if_pos hk22_8)))))))))).symm
                      exact jri F hr0 hlk hW rfl dX7_count_142 ⟨hq, rfl⟩
                    · rcases Decidable.em (wh = 9) with hk22_9 | hk22_9
                      · refine lv_tableIn (off := 121) (tgt := 143) F.1 F.2.1 dX7_count_22 (by rw [hk22_9]; decide) (by rw [hk22_9]; decide) (by rw [hk22_9]; rfl) (by decide) ?_
                        refine lv_aload_n F.1 F.2.1 dX7_count_143 rfl (lv_at hl 0 rfl) ?_
                        refine jgetR F hT hW fw_X7_7 oM0 (by decide) rfl dX7_count_144 ?_
                        refine lv_bipush (v := 13) F.1 F.2.1 dX7_count_147 (by decide) ?_
                        refine jiald F hT hW 13 oM1 (by omega) (by decide) (lI 13) rfl dX7_count_149 ?_
                        have hq : (S 1 13 : Int32) = p_X7_count S wh := by
                          subst ex1
                          exact ((if_pos h2).trans ((if_neg hk22_0).trans ((if_neg hk22_1).trans ((if_neg hk22_2).trans ((if_neg hk22_3).trans ((if_neg hk22_4).trans ((if_neg hk22_5).trans ((if_neg hk22_6).trans ((if_neg hk22_7).trans ((if_neg hk22_8).trans (if_pos hk22_9))))))))))).symm
                        exact jri F hr0 hlk hW rfl dX7_count_150 ⟨hq, rfl⟩
                      · rcases Decidable.em (wh = 10) with hk22_10 | hk22_10
                        · refine lv_tableIn (off := 129) (tgt := 151) F.1 F.2.1 dX7_count_22 (by rw [hk22_10]; decide) (by rw [hk22_10]; decide) (by rw [hk22_10]; rfl) (by decide) ?_
                          refine lv_aload_n F.1 F.2.1 dX7_count_151 rfl (lv_at hl 0 rfl) ?_
                          refine jget F hT hW fw_X7_108 oM0 (by decide) rfl dX7_count_152 ?_
                          have hq : (S 0 7 : Int32) = p_X7_count S wh := by
                            subst ex1
                            exact ((if_pos h2).trans ((if_neg hk22_0).trans ((if_neg hk22_1).trans ((if_neg hk22_2).trans ((if_neg hk22_3).trans ((if_neg hk22_4).trans ((if_neg hk22_5).trans ((if_neg hk22_6).trans ((if_neg hk22_7).trans ((if_neg hk22_8).trans ((if_neg hk22_9).trans (if_pos hk22_10)))))))))))).symm
                          exact jri F hr0 hlk hW rfl dX7_count_155 ⟨hq, rfl⟩
                        · refine lv_tableOut (tgt := 156) F.1 F.2.1 dX7_count_22 (by have := lv_neT (a := 0) hk22_0 rfl; have := lv_neT (a := 1) hk22_1 rfl; have := lv_neT (a := 2) hk22_2 rfl; have := lv_neT (a := 3) hk22_3 rfl; have := lv_neT (a := 4) hk22_4 rfl; have := lv_neT (a := 5) hk22_5 rfl; have := lv_neT (a := 6) hk22_6 rfl; have := lv_neT (a := 7) hk22_7 rfl; have := lv_neT (a := 8) hk22_8 rfl; have := lv_neT (a := 9) hk22_9 rfl; have := lv_neT (a := 10) hk22_10 rfl; omega) (by decide) ?_
                          refine lv_iload_n F.1 F.2.1 dX7_count_156 rfl (lv_at hl 1 rfl) ?_
                          refine lv_bipush (v := 11) F.1 F.2.1 dX7_count_157 (by decide) ?_
                          have hJ8 : ∀ (v7 : Int32) (H : Heap) (locs : List Loc) (ls : Array Slot), v7 = (if wh = 11 then S 0 3 else (-2)) → Wd E s H locs (fo μ 13 S) → lv_has ls 2 [(0, .ref (ea E 13 0)), (1, .int wh)] → W p l e (rmO 4 89) s m ([.ref (ea E 13 0), .int wh] : List Value).toArray below meth c H locs 0 0 (MQ below (va_Qi (fun x μ' => x = p_X7_count S wh ∧ μ' = (fo μ 13 S)) (fun μ' t => MB E μ' t.heap) (AA E)) ([.ref (ea E 13 0), .int wh] : List Value).toArray s 0 0 (AA E)) (F0 m 171 ls [.int v7]) := by
                            intro v7 H locs ls ev7 hW hl
                            have hq : (v7 : Int32) = p_X7_count S wh := by
                              subst ev7
                              subst ex1
                              exact ((if_pos h2).trans ((if_neg hk22_0).trans ((if_neg hk22_1).trans ((if_neg hk22_2).trans ((if_neg hk22_3).trans ((if_neg hk22_4).trans ((if_neg hk22_5).trans ((if_neg hk22_6).trans ((if_neg hk22_7).trans ((if_neg hk22_8).trans ((if_neg hk22_9).trans (if_neg hk22_10)))))))))))).symm
                            exact jri F hr0 hlk hW rfl dX7_count_171 ⟨hq, rfl⟩
                          refine lv_icmp_ne (tgt := 169) F.1 F.2.1 dX7_count_159 (by decide) (fun h6 => ?_) (fun h6 => ?_)
                          · refine lv_bipush (v := (-2)) F.1 F.2.1 dX7_count_169 (by decide) ?_
                            exact hJ8 _ _ _ _ (if_neg h6).symm hW (lv_sub hl [0, 1] rfl)
                          · refine lv_aload_n F.1 F.2.1 dX7_count_162 rfl (lv_at hl 0 rfl) ?_
                            refine jget F hT hW fw_X7_36 oM0 (by decide) rfl dX7_count_163 ?_
                            refine lv_goto (tgt := 171) F.1 F.2.1 dX7_count_166 (by decide) ?_
                            exact hJ8 _ _ _ _ (if_pos h6).symm hW (lv_sub hl [0, 1] rfl)
  · obtain ⟨hw3, hw4, hw5⟩ : wh - 12 = nI (cn (wh - 12)) ∧ 12 - 12 ≤ cn (wh - 12) ∧ cn (wh - 12) ≤ 18 - 12 := wRg (a := wh) (lI 12) (lI 18) (lI 12) (by decide) (by decide) (by decide) (by assumption) (by assumption)
    refine lv_aload_n F.1 F.2.1 dX7_count_11 rfl (lv_at hl 0 rfl) ?_
    refine jgetR F hT hW fw_X7_7 oM0 (by decide) rfl dX7_count_12 ?_
    refine lv_iload_n F.1 F.2.1 dX7_count_15 rfl (lv_at hl 1 rfl) ?_
    refine lv_bipush (v := 12) F.1 F.2.1 dX7_count_16 (by decide) ?_
    refine lv_isub F.1 F.2.1 dX7_count_18 ?_
    refine jiald F hT hW (cn (wh - 12)) oM1 (by omega) (by decide) hw3 rfl dX7_count_19 ?_
    have hq : (S 1 (cn (wh - 12)) : Int32) = p_X7_count S wh := by
      subst ex1
      exact (if_neg h2).symm
    exact jri F hr0 hlk hW rfl dX7_count_20 ⟨hq, rfl⟩

