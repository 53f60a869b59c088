/-! the reference: a number, an order -/
theorem one_f {S : Sv} {no hi : Int32} {p k : Nat} (hp : ¬ (p = 0 ∧ (k = 11 ∨ k = 12))) : (p_X7_one S no hi).2 p k = S p k := by
  unfold p_X7_one
  dsimp only
  rw [us_ne _ _ (by omega), us_ne _ _ (by omega)]
theorem one_c {S : Sv} {no hi : Int32} (h : Pk S) (hno : no = 48 ∨ no = 65) : ((p_X7_one S no hi).2 0 12 = 0 ∧ S 0 12 = 0 ∧ ¬ p_X7_in (p_X7_sign S - no) 0 hi = 0 ∧ ¬ p_X7_sign S = 0 ∧ (p_X7_one S no hi).2 0 11 = S 0 11 + 1) ∨ ((p_X7_one S no hi).2 0 12 = 1 ∧ (p_X7_one S no hi).2 0 11 = S 0 11) := by
  unfold p_X7_one
  dsimp only
  simp only [us]
  by_cases h12 : S 0 12 = 0
  · by_cases hin : p_X7_in (p_X7_sign S - no) 0 hi = 0
    · right
      simp [h12, hin]
    · left
      refine ⟨by simp [h12, hin], h12, hin, fun hz => ?_, by simp [h12, hin]⟩
      obtain ⟨h1, h2⟩ := in_ne rfl hin
      rw [hz] at h1
      rcases hno with rfl | rfl
      · exact h1 (by decide)
      · exact h1 (by decide)
  · right
    simp [h12]
theorem one_pk {S : Sv} {no hi : Int32} (h : Pk S) (hno : no = 48 ∨ no = 65) : Pk (p_X7_one S no hi).2 ∧ cn (S 0 11) ≤ cn ((p_X7_one S no hi).2 0 11) ∧ ((p_X7_one S no hi).2 0 12 = 0 → S 0 12 = 0 ∧ cn ((p_X7_one S no hi).2 0 11) = cn (S 0 11) + 1 ∧ ¬ p_X7_in (p_X7_sign S - no) 0 hi = 0) := by
  have h7 : (p_X7_one S no hi).2 0 7 = S 0 7 := one_f (by decide)
  rcases one_c (S := S) (hi := hi) h hno with ⟨a, b, c, d, e⟩ | ⟨a, b⟩
  · have hi := h.inc d h7 e
    exact ⟨hi.1, by omega, fun _ => ⟨b, hi.2, c⟩⟩
  · refine ⟨h.same h7 b, by rw [b]; exact Nat.le_refl _, fun q => ?_⟩
    rw [a] at q
    exact absurd q (by decide)
/-- a number that is being read -/
def Nv (S : Sv) (v : Int32) (j : Nat) : Prop := (S 0 12 = 0 → 0 < v → Bn v 999 ∧ 10 ^ j ≤ cn v) ∧ (j = 0 ∨ (S 0 12 = 0 ∧ 0 < v))
theorem nv3 {S : Sv} {v : Int32} (h : Nv S v 3) : False := by
  rcases h.2 with h1 | ⟨h1, h2⟩
  · exact absurd h1 (by decide)
  · obtain ⟨h3, h4⟩ := h.1 h1 h2
    have h5 := h3.2
    omega
theorem nI_gt0 {n : Nat} (hn : n < 2 ^ 31) (h : (0 : Int32) < nI n) : 0 < n := (nI_ltI (a := 0) (by decide) hn).mp h
theorem in_n {a c : Int32} {n : Nat} (hc : c = nI n) (hn : n < 2 ^ 31) (h : ¬ p_X7_in a 0 c = 0) : Bn a n := wNi hc hn rfl h
theorem nv0 {S : Sv} (h : Pk S) : Nv (p_X7_one S 48 9).2 (p_X7_sign S - 48) 0 := by
  refine ⟨fun h1 h2 => ?_, Or.inl rfl⟩
  have h3 := in_n (lI 9) (by decide) ((one_pk (hi := 9) h (Or.inl rfl)).2.2 h1).2.2
  refine ⟨⟨h3.1, Nat.le_trans h3.2 (by decide)⟩, ?_⟩
  rw [h3.1] at h2
  exact nI_gt0 (Nat.lt_of_le_of_lt h3.2 (by decide)) h2
theorem digit {S : Sv} {x : Int32} (hx : x = p_X7_in (p_X7_sign S) 48 57) (h : ¬ x = 0) : p_X7_sign S - 48 = nI (cn (p_X7_sign S - 48)) ∧ cn (p_X7_sign S - 48) ≤ 9 ∧ ¬ p_X7_sign S = 0 := by
  obtain ⟨a, b, c⟩ : p_X7_sign S - 48 = nI (cn (p_X7_sign S - 48)) ∧ 48 - 48 ≤ cn (p_X7_sign S - 48) ∧ cn (p_X7_sign S - 48) ≤ 57 - 48 := wRg (a := p_X7_sign S) (lI 48) (lI 57) (lI 48) (by decide) (by decide) (by decide) hx h
  refine ⟨a, c, fun hz => ?_⟩
  have h1 := (in_ne hx h).1
  rw [hz] at h1
  exact h1 (by decide)
theorem nv_s {S S' : Sv} {v x : Int32} {j : Nat} (h : Nv S v j) (h12 : S 0 12 = 0) (hv : ¬ v ≤ 0) (hx : x = p_X7_in (p_X7_sign S) 48 57) (h0 : ¬ x = 0) (hm : ¬ 999 < 10 * v + p_X7_sign S - 48) (h12' : S' 0 12 = S 0 12) : Nv S' (10 * v + p_X7_sign S - 48) (j + 1) := by
  have hv' : 0 < v := Int32.not_le.mp hv
  obtain ⟨h1, h2⟩ := h.1 h12 hv'
  obtain ⟨h3, h4, _⟩ := digit hx h0
  have h5 := h1.2
  have e : 10 * v + p_X7_sign S - 48 = nI (10 * cn v + cn (p_X7_sign S - 48)) := by
    rw [← ia (im (lI 10) h1.1) h3, Int32.sub_eq_add_neg, Int32.sub_eq_add_neg, Int32.add_assoc]
  rw [e] at hm ⊢
  have h6 : 10 * cn v + cn (p_X7_sign S - 48) ≤ 999 := (nI_leI (b := 999) (by omega) (by decide)).mp (Int32.not_lt.mp hm)
  have hcn : cn (nI (10 * cn v + cn (p_X7_sign S - 48))) = 10 * cn v + cn (p_X7_sign S - 48) := nI_clamp (by omega)
  have hp : 0 < 10 ^ j := Nat.pow_pos (by decide)
  refine ⟨fun _ _ => ⟨bnI h6 (by omega), ?_⟩, Or.inr ⟨h12'.trans h12, ?_⟩⟩
  · rw [hcn, Nat.pow_succ]
    omega
  · exact (nI_ltI (a := 0) (by decide) (by omega)).mpr (by omega)

def q_X7_number_9 (S : Sv) : Nat → Nat → Sv → Int32 → Int32 × Sv
  | 0, j, S3, v4 =>
    (v4, S3)
  | fu + 1, j, S3, v4 =>
    if (S3 0 12) = 0 then
      if v4 ≤ 0 then
        ((v4 : Int32), S3)
      else
        let x7 : Int32 := p_X7_sign S3
        let x8 : Int32 := p_X7_in x7 48 57
        if x8 = 0 then
          ((v4 : Int32), S3)
        else
          let x10 : Int32 := p_X7_sign S3
          if 999 < (((10 * v4) + x10) - 48) then
            ((v4 : Int32), S3)
          else
            let x12 : Int32 := p_X7_sign S3
            let S13 : Sv := us S3 0 11 ((S3 0 11) + 1)
            q_X7_number_9 S fu (j + 1) S13 (((10 * v4) + x12) - 48)
    else
      ((v4 : Int32), S3)
def p_X7_number (S : Sv) : Int32 × Sv :=
  let x1 : Int32 := (p_X7_one S 48 9).1
  let S2 : Sv := (p_X7_one S 48 9).2
  q_X7_number_9 S 3 0 S2 x1

set_option maxHeartbeats 4000000 in
set_option maxRecDepth 100000 in
theorem c_X7_number (l : Launch) (E : mE) (μ : Mu) (S : Sv) (pkS : Pk S) : CtI l E yX7_number cX7_number 2 (some .int) 2 45 [.ref (ea E 13 0)] (fo μ 13 S) (fun x μ' => x = (p_X7_number S).1 ∧ μ' = fo μ 13 (p_X7_number S).2) := by
  refine jMet (by decide +kernel) (Nat.le_of_ble_eq_true rfl) ?_
  intro p e s m below meth c ls F hT hr0 hlk hW hl
  have F : CallFix p m c cX7_number 2 s _ TB RX7 := F
  have hl : lv_has ls 2 [(0, .ref (ea E 13 0))] := hl
  refine lv_aload_n F.1 F.2.1 dX7_number_0 rfl (lv_at hl 0 rfl) ?_
  refine lv_bipush (v := 48) F.1 F.2.1 dX7_number_1 (by decide) ?_
  refine lv_bipush (v := 9) F.1 F.2.1 dX7_number_3 (by decide) ?_
  refine jcif (jrunV (As := [.int 48, .int 9]) (rest := []) F hT hW yc_X7_one yv_X7_one ml_X7_132 oM0 (by decide) rfl (c_X7_one l E μ S 48 9 pkS) rfl hl.1 ⟨Nat.le_of_ble_eq_true rfl, Nat.le_of_ble_eq_true rfl⟩ rfl (Nat.le_of_ble_eq_true rfl) ⟨Nat.le_refl _, Nat.le_refl _⟩ dX7_number_5) hW (fun x1 S2 H locs ex1 eS2 hW => ?_)
  have pk1 := (one_pk (hi := 9) pkS (Or.inl rfl)).1
  rw [← eS2] at pk1
  have nv1 : Nv S2 x1 0 := by rw [eS2, ex1]; exact nv0 pkS
  refine lv_istore_n (lv' := [(1, .int x1), (0, .ref (ea E 13 0))]) F.1 F.2.1 dX7_number_8 rfl hl (by decide) rfl (fun ls hl => ?_)
  have hL5 : ∀ (fu j : Nat) (S3 : Sv) (v4 : Int32) (H : Heap) (locs : List Loc) (ls : Array Slot), j + fu = 3 → p_X7_number S = q_X7_number_9 S fu j S3 v4 → Pk S3 → Nv S3 v4 j → Wd E s H locs (fo μ 13 S3) → lv_has ls 2 [(1, .int v4), (0, .ref (ea E 13 0))] → W p l e (rmO 2 45) s m ([.ref (ea E 13 0)] : List Value).toArray below meth c H locs 0 0 (MQ below (va_Qi (fun x μ' => x = (p_X7_number S).1 ∧ μ' = fo μ 13 (p_X7_number S).2) (fun μ' t => MB E μ' t.heap) (AA E)) ([.ref (ea E 13 0)] : List Value).toArray s 0 0 (AA E)) (F0 m 9 ls []) := by
    intro fu
    induction fu with
    | zero =>
      intro j S3 v4 H locs ls hj hres pkx hnv hW hl
      exact (nv3 (by rw [← show j = 3 by omega]; exact hnv)).elim
    | succ fu ih =>
      intro j S3 v4 H locs ls hj hres pkx hnv hW hl
      refine lv_aload_n F.1 F.2.1 dX7_number_9 rfl (lv_at hl 1 rfl) ?_
      refine jget F hT hW fw_X7_129 oM0 (by decide) rfl dX7_number_10 ?_
      refine lv_if_ne (tgt := 78) F.1 F.2.1 dX7_number_13 (by decide) (fun h5 => ?_) (fun h5 => ?_)
      · refine lv_iload_n F.1 F.2.1 dX7_number_78 rfl (lv_at hl 0 rfl) ?_
        have hq : ((v4 : Int32), S3) = p_X7_number S := by
          exact ((hres).trans (if_neg h5)).symm
        exact jri F hr0 hlk hW rfl dX7_number_79 ⟨congrArg Prod.fst hq, congrArg (fun z => fo μ 13 z.2) hq⟩
      · refine lv_iload_n F.1 F.2.1 dX7_number_16 rfl (lv_at hl 0 rfl) ?_
        refine lv_if_le (tgt := 78) F.1 F.2.1 dX7_number_17 (by decide) (fun h6 => ?_) (fun h6 => ?_)
        · refine lv_iload_n F.1 F.2.1 dX7_number_78 rfl (lv_at hl 0 rfl) ?_
          have hq : ((v4 : Int32), S3) = p_X7_number S := by
            exact ((hres).trans ((if_pos h5).trans (if_pos h6))).symm
          exact jri F hr0 hlk hW rfl dX7_number_79 ⟨congrArg Prod.fst hq, congrArg (fun z => fo μ 13 z.2) hq⟩
        · refine lv_aload_n F.1 F.2.1 dX7_number_20 rfl (lv_at hl 1 rfl) ?_
          refine jcip (jrunV (As := []) (rest := []) F hT hW yc_X7_sign yv_X7_sign ml_X7_126 oM0 (by decide) rfl (c_X7_sign l E μ S3 pkx) rfl hl.1 ⟨Nat.le_of_ble_eq_true rfl, Nat.le_of_ble_eq_true rfl⟩ rfl (Nat.le_of_ble_eq_true rfl) ⟨Nat.le_refl _, Nat.le_refl _⟩ dX7_number_21) hW (fun x7 H locs ex7 hW => ?_)
          refine lv_bipush (v := 48) F.1 F.2.1 dX7_number_24 (by decide) ?_
          refine lv_bipush (v := 57) F.1 F.2.1 dX7_number_26 (by decide) ?_
          refine jcip (jrunS (As := [.int x7, .int 48, .int 57]) (rest := []) F hT hW yc_X7_in ys_X7_in ml_X7_40 (c_X7_in l E (fo μ 13 S3) x7 48 57) rfl hl.1 ⟨Nat.le_of_ble_eq_true rfl, Nat.le_of_ble_eq_true rfl⟩ rfl (Nat.le_of_ble_eq_true rfl) ⟨Nat.le_refl _, Nat.le_refl _⟩ dX7_number_28) hW (fun x8 H locs ex8 hW => ?_)
          refine lv_if_eq (tgt := 78) F.1 F.2.1 dX7_number_31 (by decide) (fun h9 => ?_) (fun h9 => ?_)
          · refine lv_iload_n F.1 F.2.1 dX7_number_78 rfl (lv_at hl 0 rfl) ?_
            have hq : ((v4 : Int32), S3) = p_X7_number S := by
              subst ex8
              subst ex7
              exact ((hres).trans ((if_pos h5).trans ((if_neg h6).trans (if_pos h9)))).symm
            exact jri F hr0 hlk hW rfl dX7_number_79 ⟨congrArg Prod.fst hq, congrArg (fun z => fo μ 13 z.2) hq⟩
          · refine lv_bipush (v := 10) F.1 F.2.1 dX7_number_34 (by decide) ?_
            refine lv_iload_n F.1 F.2.1 dX7_number_36 rfl (lv_at hl 0 rfl) ?_
            refine lv_imul F.1 F.2.1 dX7_number_37 ?_
            refine lv_aload_n F.1 F.2.1 dX7_number_38 rfl (lv_at hl 1 rfl) ?_
            refine jcip (jrunV (As := []) (rest := [.int (10 * v4)]) F hT hW yc_X7_sign yv_X7_sign ml_X7_126 oM0 (by decide) rfl (c_X7_sign l E μ S3 pkx) rfl hl.1 ⟨Nat.le_of_ble_eq_true rfl, Nat.le_of_ble_eq_true rfl⟩ rfl (Nat.le_of_ble_eq_true rfl) ⟨Nat.le_refl _, Nat.le_refl _⟩ dX7_number_39) hW (fun x10 H locs ex10 hW => ?_)
            refine lv_iadd F.1 F.2.1 dX7_number_42 ?_
            refine lv_bipush (v := 48) F.1 F.2.1 dX7_number_43 (by decide) ?_
            refine lv_isub F.1 F.2.1 dX7_number_45 ?_
            refine lv_sipush (v := 999) F.1 F.2.1 dX7_number_46 (by decide) ?_
            refine lv_icmp_gt (tgt := 78) F.1 F.2.1 dX7_number_49 (by decide) (fun h11 => ?_) (fun h11 => ?_)
            · refine lv_iload_n F.1 F.2.1 dX7_number_78 rfl (lv_at hl 0 rfl) ?_
              have hq : ((v4 : Int32), S3) = p_X7_number S := by
                subst ex10
                subst ex8
                subst ex7
                exact ((hres).trans ((if_pos h5).trans ((if_neg h6).trans ((if_neg h9).trans (if_pos h11))))).symm
              exact jri F hr0 hlk hW rfl dX7_number_79 ⟨congrArg Prod.fst hq, congrArg (fun z => fo μ 13 z.2) hq⟩
            · refine lv_bipush (v := 10) F.1 F.2.1 dX7_number_52 (by decide) ?_
              refine lv_iload_n F.1 F.2.1 dX7_number_54 rfl (lv_at hl 0 rfl) ?_
              refine lv_imul F.1 F.2.1 dX7_number_55 ?_
              refine lv_aload_n F.1 F.2.1 dX7_number_56 rfl (lv_at hl 1 rfl) ?_
              refine jcip (jrunV (As := []) (rest := [.int (10 * v4)]) F hT hW yc_X7_sign yv_X7_sign ml_X7_126 oM0 (by decide) rfl (c_X7_sign l E μ S3 pkx) rfl hl.1 ⟨Nat.le_of_ble_eq_true rfl, Nat.le_of_ble_eq_true rfl⟩ rfl (Nat.le_of_ble_eq_true rfl) ⟨Nat.le_refl _, Nat.le_refl _⟩ dX7_number_57) hW (fun x12 H locs ex12 hW => ?_)
              refine lv_iadd F.1 F.2.1 dX7_number_60 ?_
              refine lv_bipush (v := 48) F.1 F.2.1 dX7_number_61 (by decide) ?_
              refine lv_isub F.1 F.2.1 dX7_number_63 ?_
              refine lv_istore_n (lv' := [(1, .int (((10 * v4) + x12) - 48)), (0, .ref (ea E 13 0))]) F.1 F.2.1 dX7_number_64 rfl hl (by decide) rfl (fun ls hl => ?_)
              refine lv_aload_n F.1 F.2.1 dX7_number_65 rfl (lv_at hl 1 rfl) ?_
              refine lv_dup F.1 F.2.1 dX7_number_66 rfl ?_
              refine jget F hT hW fw_X7_123 oM0 (by decide) rfl dX7_number_67 ?_
              refine lv_iconst (v := 1) F.1 F.2.1 dX7_number_70 (by decide) ?_
              refine lv_iadd F.1 F.2.1 dX7_number_71 ?_
              refine jput F hT hW fw_X7_123 ft_7_11 oM0 (by decide) (by decide) rfl rfl rfl dX7_number_72 (fun S13 H locs eS13 hW => ?_)
              have hx8 := ex8
              rw [ex7] at hx8
              have hdg := (digit hx8 (by assumption)).2.2
              have pkn := (pkx.inc hdg (by rw [eS13]; exact us_ne _ _ (by decide)) (by rw [eS13]; exact us_at _ _ _ _) : Pk S13 ∧ _).1
              have nvn : Nv S13 (((10 * v4) + x12) - 48) (j + 1) := by rw [ex12]; exact nv_s hnv (by assumption) (by assumption) hx8 (by assumption) (by rw [← ex10]; assumption) (by rw [eS13]; exact us_ne _ _ (by decide))
              refine lv_goto (tgt := 9) F.1 F.2.1 dX7_number_75 (by decide) ?_
              subst eS13
              subst ex12
              subst ex10
              subst ex8
              subst ex7
              exact ih (j + 1) _ _ _ _ _ (by omega) (hres.trans ((if_pos h5).trans ((if_neg h6).trans ((if_neg h9).trans (if_neg h11))))) pkn nvn hW (lv_sub hl [0, 1] rfl)
  exact hL5 3 0 S2 x1 _ _ _ (by omega) (by subst eS2; subst ex1; exact rfl) pk1 nv1 hW (lv_sub hl [0, 1] rfl)

