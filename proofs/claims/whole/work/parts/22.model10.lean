/-! the reference: an order, a text -/
theorem nu_f {S : Sv} {p k : Nat} (hp : ¬ (p = 0 ∧ (k = 11 ∨ k = 12))) : ∀ fu j (S2 : Sv) (v : Int32), (q_X7_number_9 S fu j S2 v).2 p k = S2 p k := by
  intro fu
  induction fu with
  | zero => intro j S2 v; rfl
  | succ fu ih =>
    intro j S2 v
    unfold q_X7_number_9
    dsimp only
    repeat' split
    all_goals first | rfl | (rw [ih, us_ne _ _ (by omega)])
theorem number_f {S : Sv} {p k : Nat} (hp : ¬ (p = 0 ∧ (k = 11 ∨ k = 12))) : (p_X7_number S).2 p k = S p k := (nu_f hp _ _ _ _).trans (one_f hp)
theorem nu_pk {S : Sv} : ∀ fu j (S2 : Sv) (v : Int32), Pk S2 → Pk (q_X7_number_9 S fu j S2 v).2 ∧ cn (S2 0 11) ≤ cn ((q_X7_number_9 S fu j S2 v).2 0 11) ∧ (q_X7_number_9 S fu j S2 v).2 0 12 = S2 0 12 := by
  intro fu
  induction fu with
  | zero => intro j S2 v h; exact ⟨h, Nat.le_refl _, rfl⟩
  | succ fu ih =>
    intro j S2 v h
    unfold q_X7_number_9
    dsimp only
    split
    · split
      · exact ⟨h, Nat.le_refl _, rfl⟩
      · split
        · exact ⟨h, Nat.le_refl _, rfl⟩
        · next hd =>
          split
          · exact ⟨h, Nat.le_refl _, rfl⟩
          · have h1 := h.inc (S' := us S2 0 11 (S2 0 11 + 1)) (digit rfl hd).2.2 (us_ne _ _ (by decide)) (us_at _ _ _ _)
            have h2 := ih (j + 1) (us S2 0 11 (S2 0 11 + 1)) (10 * v + p_X7_sign S2 - 48) h1.1
            exact ⟨h2.1, by omega, h2.2.2.trans (us_ne _ _ (by decide))⟩
    · exact ⟨h, Nat.le_refl _, rfl⟩
theorem number_pk {S : Sv} (h : Pk S) : Pk (p_X7_number S).2 ∧ cn (S 0 11) ≤ cn ((p_X7_number S).2 0 11) ∧ ((p_X7_number S).2 0 12 = 0 → S 0 12 = 0 ∧ cn (S 0 11) + 1 ≤ cn ((p_X7_number S).2 0 11)) := by
  have h1 := one_pk (no := 48) (hi := 9) h (Or.inl rfl)
  have h2 := nu_pk (S := S) 3 0 (p_X7_one S 48 9).2 (p_X7_one S 48 9).1 h1.1
  refine ⟨h2.1, Nat.le_trans h1.2.1 h2.2.1, fun q => ?_⟩
  have h3 := h1.2.2 (h2.2.2.symm.trans q)
  exact ⟨h3.1, Nat.le_trans (by omega) h2.2.1⟩
/-- an order may be read: there is room in the row of orders -/
def Rd (S : Sv) : Prop := Pk S ∧ Bn (S 0 10) 27 ∧ 3 * cn (S 0 10) ≤ cn (S 0 11)

theorem kind_nz {x v : Int32} (hv : v = if x = 117 then 0 else if x = 104 then 0 else if x = 108 then 0 else if x = 109 then 0 else if x = 110 then 0 else if x = 116 then 0 else 1) (h : v = 0) : ¬ x = 0 := by
  intro hz
  subst hz
  rw [hv] at h
  exact absurd h (by decide)

def p_X7_readOne (S : Sv) : Sv :=
  let x1 : Int32 := p_X7_sign S
  let S2 : Sv := us S 7 (3 * (cn (S 0 10))) x1
  let v9 : Int32 := (if x1 = 117 then 0 else (if x1 = 104 then 0 else (if x1 = 108 then 0 else (if x1 = 109 then 0 else (if x1 = 110 then 0 else (if x1 = 116 then 0 else 1))))))
  let S11 : Sv := us S2 0 12 v9
  if (S11 0 12) = 0 then
    let S13 : Sv := us S11 0 11 ((S11 0 11) + 1)
    let S19 : Sv := (if x1 = 116 then (let x17 : Int32 := (p_X7_number S13).1; (let S18 : Sv := (p_X7_number S13).2; S18)) else (let x15 : Int32 := (p_X7_one S13 65 11).1; (let S16 : Sv := (p_X7_one S13 65 11).2; S16)))
    let v20 : Int32 := (if x1 = 116 then (let x17 : Int32 := (p_X7_number S13).1; (let S18 : Sv := (p_X7_number S13).2; x17)) else (let x15 : Int32 := (p_X7_one S13 65 11).1; (let S16 : Sv := (p_X7_one S13 65 11).2; x15)))
    let S22 : Sv := us S19 7 (3 * (cn (S 0 10)) + 1) v20
    let S31 : Sv := (if x1 = 104 then (if (S22 0 12) = 0 then (let x25 : Int32 := (p_X7_one S22 48 3).1; (let S26 : Sv := (p_X7_one S22 48 3).2; S26)) else S22) else (if x1 = 108 then (if (S22 0 12) = 0 then (let x29 : Int32 := (p_X7_one S22 48 3).1; (let S30 : Sv := (p_X7_one S22 48 3).2; S30)) else S22) else S22))
    let v32 : Int32 := (if x1 = 104 then (if (S22 0 12) = 0 then (let x25 : Int32 := (p_X7_one S22 48 3).1; (let S26 : Sv := (p_X7_one S22 48 3).2; x25)) else 0) else (if x1 = 108 then (if (S22 0 12) = 0 then (let x29 : Int32 := (p_X7_one S22 48 3).1; (let S30 : Sv := (p_X7_one S22 48 3).2; x29)) else 0) else 0))
    let S34 : Sv := us S31 7 (3 * (cn (S 0 10)) + 2) v32
    let S35 : Sv := us S34 0 10 ((S34 0 10) + 1)
    S35
  else
    S11

set_option maxHeartbeats 4000000 in
set_option maxRecDepth 100000 in
theorem c_X7_readOne (l : Launch) (E : mE) (μ : Mu) (S : Sv) (rdS : Rd S) : CtV l E yX7_readOne cX7_readOne 3 3 66 [.ref (ea E 13 0)] (fo μ 13 S) (fun μ' => μ' = fo μ 13 (p_X7_readOne S)) := by
  refine jMet (by decide +kernel) (Nat.le_of_ble_eq_true rfl) ?_
  intro p e s m below meth c ls F hT hr0 hlk hW hl
  have F : CallFix p m c cX7_readOne 3 s _ TB RX7 := F
  have hl : lv_has ls 3 [(0, .ref (ea E 13 0))] := hl
  have h10 := rdS.2.2
  have h80 := rdS.1.1.2
  have hps := rdS.1.2.2
  refine lv_iconst (v := 3) F.1 F.2.1 dX7_readOne_0 (by decide) ?_
  refine lv_aload_n F.1 F.2.1 dX7_readOne_1 rfl (lv_at hl 0 rfl) ?_
  refine jget F hT hW fw_X7_135 oM0 (by decide) rfl dX7_readOne_2 ?_
  refine lv_imul F.1 F.2.1 dX7_readOne_5 ?_
  refine lv_istore_n (lv' := [(1, .int (3 * (S 0 10))), (0, .ref (ea E 13 0))]) F.1 F.2.1 dX7_readOne_6 rfl hl (by decide) rfl (fun ls hl => ?_)
  refine lv_aload_n F.1 F.2.1 dX7_readOne_7 rfl (lv_at hl 1 rfl) ?_
  refine jcip (jrunV (As := []) (rest := []) F hT hW yc_X7_sign yv_X7_sign ml_X7_126 oM0 (by decide) rfl (c_X7_sign l E μ S rdS.1) rfl hl.1 ⟨Nat.le_of_ble_eq_true rfl, Nat.le_of_ble_eq_true rfl⟩ rfl (Nat.le_of_ble_eq_true rfl) ⟨Nat.le_refl _, Nat.le_refl _⟩ dX7_readOne_8) hW (fun x1 H locs ex1 hW => ?_)
  refine lv_istore_n (lv' := [(2, .int x1), (1, .int (3 * (S 0 10))), (0, .ref (ea E 13 0))]) F.1 F.2.1 dX7_readOne_11 rfl hl (by decide) rfl (fun ls hl => ?_)
  refine lv_aload_n F.1 F.2.1 dX7_readOne_12 rfl (lv_at hl 2 rfl) ?_
  refine jgetR F hT hW fw_X7_29 oM0 (by decide) rfl dX7_readOne_13 ?_
  refine lv_iload_n F.1 F.2.1 dX7_readOne_16 rfl (lv_at hl 1 rfl) ?_
  refine lv_iload_n F.1 F.2.1 dX7_readOne_17 rfl (lv_at hl 0 rfl) ?_
  refine jiast F hT hW (3 * (cn (S 0 10))) oM7 (by decide) (by omega) (by decide) (im (lI 3) rdS.2.1.1) rfl dX7_readOne_18 (fun S2 H locs eS2 hW => ?_)
  refine lv_aload_n F.1 F.2.1 dX7_readOne_19 rfl (lv_at hl 2 rfl) ?_
  refine lv_iload_n F.1 F.2.1 dX7_readOne_20 rfl (lv_at hl 0 rfl) ?_
  refine lv_bipush (v := 117) F.1 F.2.1 dX7_readOne_21 (by decide) ?_
  have hJ10 : ∀ (v9 : Int32) (H : Heap) (locs : List Loc) (ls : Array Slot), v9 = (if x1 = 117 then 0 else (if x1 = 104 then 0 else (if x1 = 108 then 0 else (if x1 = 109 then 0 else (if x1 = 110 then 0 else (if x1 = 116 then 0 else 1)))))) → Wd E s H locs (fo μ 13 S2) → lv_has ls 3 [(2, .int x1), (1, .int (3 * (S 0 10))), (0, .ref (ea E 13 0))] → W p l e (rmO 3 66) s m ([.ref (ea E 13 0)] : List Value).toArray below meth c H locs 0 0 (MQ below (va_Qv (fun μ' => μ' = fo μ 13 (p_X7_readOne S)) (fun μ' t => MB E μ' t.heap) (AA E)) ([.ref (ea E 13 0)] : List Value).toArray s 0 0 (AA E)) (F0 m 61 ls [.int v9, .ref (ea E 13 0)]) := by
    intro v9 H locs ls ev9 hW hl
    refine jput F hT hW fw_X7_129 ft_7_12 oM0 (by decide) (by decide) rfl (znar (by first | assumption | ((try clear hq); subst_vars; (try dsimp only); repeat' (first | exact Or.inl rfl | exact Or.inr rfl | refine iteZ ?_ ?_)))) (zfit (by first | assumption | ((try clear hq); subst_vars; (try dsimp only); repeat' (first | exact Or.inl rfl | exact Or.inr rfl | refine iteZ ?_ ?_)))) dX7_readOne_61 (fun S11 H locs eS11 hW => ?_)
    refine lv_aload_n F.1 F.2.1 dX7_readOne_64 rfl (lv_at hl 2 rfl) ?_
    refine jget F hT hW fw_X7_129 oM0 (by decide) rfl dX7_readOne_65 ?_
    refine lv_if_eq (tgt := 72) F.1 F.2.1 dX7_readOne_68 (by decide) (fun h12 => ?_) (fun h12 => ?_)
    · refine lv_aload_n F.1 F.2.1 dX7_readOne_72 rfl (lv_at hl 2 rfl) ?_
      refine lv_dup F.1 F.2.1 dX7_readOne_73 rfl ?_
      refine jget F hT hW fw_X7_123 oM0 (by decide) rfl dX7_readOne_74 ?_
      refine lv_iconst (v := 1) F.1 F.2.1 dX7_readOne_77 (by decide) ?_
      refine lv_iadd F.1 F.2.1 dX7_readOne_78 ?_
      refine jput F hT hW fw_X7_123 ft_7_11 oM0 (by decide) (by decide) rfl rfl rfl dX7_readOne_79 (fun S13 H locs eS13 hW => ?_)
      have q12 : S11 0 12 = 0 := by assumption
      rw [eS11, us_at] at q12
      have hk0 : ¬ p_X7_sign S = 0 := by rw [← ex1]; exact kind_nz ev9 q12
      have pk82 := (rdS.1.inc (S' := S13) hk0 (by rw [eS13, us_ne _ _ (by omega), eS11, us_ne _ _ (by omega), eS2, us_ne _ _ (by omega)]) (by rw [eS13, us_at, eS11, us_ne _ _ (by omega), eS2, us_ne _ _ (by omega)])).1
      refine lv_aload_n F.1 F.2.1 dX7_readOne_82 rfl (lv_at hl 2 rfl) ?_
      refine jgetR F hT hW fw_X7_29 oM0 (by decide) rfl dX7_readOne_83 ?_
      refine lv_iload_n F.1 F.2.1 dX7_readOne_86 rfl (lv_at hl 1 rfl) ?_
      refine lv_iconst (v := 1) F.1 F.2.1 dX7_readOne_87 (by decide) ?_
      refine lv_iadd F.1 F.2.1 dX7_readOne_88 ?_
      refine lv_iload_n F.1 F.2.1 dX7_readOne_89 rfl (lv_at hl 0 rfl) ?_
      refine lv_bipush (v := 116) F.1 F.2.1 dX7_readOne_90 (by decide) ?_
      have hJ21 : ∀ (S19 : Sv) (v20 : Int32) (H : Heap) (locs : List Loc) (ls : Array Slot), S19 = (if x1 = 116 then (let x17 : Int32 := (p_X7_number S13).1; (let S18 : Sv := (p_X7_number S13).2; S18)) else (let x15 : Int32 := (p_X7_one S13 65 11).1; (let S16 : Sv := (p_X7_one S13 65 11).2; S16))) → v20 = (if x1 = 116 then (let x17 : Int32 := (p_X7_number S13).1; (let S18 : Sv := (p_X7_number S13).2; x17)) else (let x15 : Int32 := (p_X7_one S13 65 11).1; (let S16 : Sv := (p_X7_one S13 65 11).2; x15))) → Wd E s H locs (fo μ 13 S19) → lv_has ls 3 [(2, .int x1), (1, .int (3 * (S 0 10))), (0, .ref (ea E 13 0))] → W p l e (rmO 3 66) s m ([.ref (ea E 13 0)] : List Value).toArray below meth c H locs 0 0 (MQ below (va_Qv (fun μ' => μ' = fo μ 13 (p_X7_readOne S)) (fun μ' t => MB E μ' t.heap) (AA E)) ([.ref (ea E 13 0)] : List Value).toArray s 0 0 (AA E)) (F0 m 110 ls [.int v20, .int ((3 * (S 0 10)) + 1), .ref (ea E 13 7)]) := by
        intro S19 v20 H locs ls eS19 ev20 hW hl
        have pk110 : Pk S19 := by
          rw [eS19]
          dsimp only
          split
          · exact (number_pk pk82).1
          · exact (one_pk pk82 (Or.inr rfl)).1
        refine jiast F hT hW (3 * (cn (S 0 10)) + 1) oM7 (by decide) (by omega) (by decide) (ia (im (lI 3) rdS.2.1.1) (lI 1)) rfl dX7_readOne_110 (fun S22 H locs eS22 hW => ?_)
        refine lv_aload_n F.1 F.2.1 dX7_readOne_111 rfl (lv_at hl 2 rfl) ?_
        refine jgetR F hT hW fw_X7_29 oM0 (by decide) rfl dX7_readOne_112 ?_
        refine lv_iload_n F.1 F.2.1 dX7_readOne_115 rfl (lv_at hl 1 rfl) ?_
        refine lv_iconst (v := 2) F.1 F.2.1 dX7_readOne_116 (by decide) ?_
        refine lv_iadd F.1 F.2.1 dX7_readOne_117 ?_
        refine lv_iload_n F.1 F.2.1 dX7_readOne_118 rfl (lv_at hl 0 rfl) ?_
        refine lv_bipush (v := 104) F.1 F.2.1 dX7_readOne_119 (by decide) ?_
        have hJ33 : ∀ (S31 : Sv) (v32 : Int32) (H : Heap) (locs : List Loc) (ls : Array Slot), S31 = (if x1 = 104 then (if (S22 0 12) = 0 then (let x25 : Int32 := (p_X7_one S22 48 3).1; (let S26 : Sv := (p_X7_one S22 48 3).2; S26)) else S22) else (if x1 = 108 then (if (S22 0 12) = 0 then (let x29 : Int32 := (p_X7_one S22 48 3).1; (let S30 : Sv := (p_X7_one S22 48 3).2; S30)) else S22) else S22)) → v32 = (if x1 = 104 then (if (S22 0 12) = 0 then (let x25 : Int32 := (p_X7_one S22 48 3).1; (let S26 : Sv := (p_X7_one S22 48 3).2; x25)) else 0) else (if x1 = 108 then (if (S22 0 12) = 0 then (let x29 : Int32 := (p_X7_one S22 48 3).1; (let S30 : Sv := (p_X7_one S22 48 3).2; x29)) else 0) else 0)) → Wd E s H locs (fo μ 13 S31) → lv_has ls 3 [(2, .int x1), (1, .int (3 * (S 0 10))), (0, .ref (ea E 13 0))] → W p l e (rmO 3 66) s m ([.ref (ea E 13 0)] : List Value).toArray below meth c H locs 0 0 (MQ below (va_Qv (fun μ' => μ' = fo μ 13 (p_X7_readOne S)) (fun μ' t => MB E μ' t.heap) (AA E)) ([.ref (ea E 13 0)] : List Value).toArray s 0 0 (AA E)) (F0 m 148 ls [.int v32, .int ((3 * (S 0 10)) + 2), .ref (ea E 13 7)]) := by
          intro S31 v32 H locs ls eS31 ev32 hW hl
          refine jiast F hT hW (3 * (cn (S 0 10)) + 2) oM7 (by decide) (by omega) (by decide) (ia (im (lI 3) rdS.2.1.1) (lI 2)) rfl dX7_readOne_148 (fun S34 H locs eS34 hW => ?_)
          refine lv_aload_n F.1 F.2.1 dX7_readOne_149 rfl (lv_at hl 2 rfl) ?_
          refine lv_dup F.1 F.2.1 dX7_readOne_150 rfl ?_
          refine jget F hT hW fw_X7_135 oM0 (by decide) rfl dX7_readOne_151 ?_
          refine lv_iconst (v := 1) F.1 F.2.1 dX7_readOne_154 (by decide) ?_
          refine lv_iadd F.1 F.2.1 dX7_readOne_155 ?_
          refine jput F hT hW fw_X7_135 ft_7_10 oM0 (by decide) (by decide) rfl rfl rfl dX7_readOne_156 (fun S35 H locs eS35 hW => ?_)
          have hq : S35 = p_X7_readOne S := by
            subst eS35
            subst eS34
            subst ev32
            subst eS31
            subst eS22
            subst ev20
            subst eS19
            subst eS13
            subst eS11
            subst ev9
            subst eS2
            subst ex1
            exact (if_pos h12).symm
          exact jrv F hr0 hlk hW dX7_readOne_159 (congrArg (fun z => fo μ 13 z) hq)
        refine lv_icmp_eq (tgt := 130) F.1 F.2.1 dX7_readOne_121 (by decide) (fun h23 => ?_) (fun h23 => ?_)
        · refine lv_aload_n F.1 F.2.1 dX7_readOne_130 rfl (lv_at hl 2 rfl) ?_
          refine jget F hT hW fw_X7_129 oM0 (by decide) rfl dX7_readOne_131 ?_
          refine lv_if_ne (tgt := 147) F.1 F.2.1 dX7_readOne_134 (by decide) (fun h24 => ?_) (fun h24 => ?_)
          · refine lv_iconst (v := 0) F.1 F.2.1 dX7_readOne_147 (by decide) ?_
            exact hJ33 _ _ _ _ _ ((if_pos h23).trans (if_neg h24)).symm ((if_pos h23).trans (if_neg h24)).symm hW (lv_sub hl [0, 1, 2] rfl)
          · refine lv_aload_n F.1 F.2.1 dX7_readOne_137 rfl (lv_at hl 2 rfl) ?_
            refine lv_bipush (v := 48) F.1 F.2.1 dX7_readOne_138 (by decide) ?_
            refine lv_iconst (v := 3) F.1 F.2.1 dX7_readOne_140 (by decide) ?_
            refine jcif (jrunV (As := [.int 48, .int 3]) (rest := [.int ((3 * (S 0 10)) + 2), .ref (ea E 13 7)]) F hT hW yc_X7_one yv_X7_one ml_X7_132 oM0 (by decide) rfl (c_X7_one l E μ S22 48 3 (pk110.same (by rw [eS22]; exact us_ne _ _ (by omega)) (by rw [eS22]; exact us_ne _ _ (by omega)))) rfl hl.1 ⟨Nat.le_of_ble_eq_true rfl, Nat.le_of_ble_eq_true rfl⟩ rfl (Nat.le_of_ble_eq_true rfl) ⟨Nat.le_refl _, Nat.le_refl _⟩ dX7_readOne_141) hW (fun x25 S26 H locs ex25 eS26 hW => ?_)
            refine lv_goto (tgt := 148) F.1 F.2.1 dX7_readOne_144 (by decide) ?_
            subst eS26
            subst ex25
            exact hJ33 _ _ _ _ _ ((if_pos h23).trans (if_pos h24)).symm ((if_pos h23).trans (if_pos h24)).symm hW (lv_sub hl [0, 1, 2] rfl)
        · refine lv_iload_n F.1 F.2.1 dX7_readOne_124 rfl (lv_at hl 0 rfl) ?_
          refine lv_bipush (v := 108) F.1 F.2.1 dX7_readOne_125 (by decide) ?_
          refine lv_icmp_ne (tgt := 147) F.1 F.2.1 dX7_readOne_127 (by decide) (fun h27 => ?_) (fun h27 => ?_)
          · refine lv_iconst (v := 0) F.1 F.2.1 dX7_readOne_147 (by decide) ?_
            exact hJ33 _ _ _ _ _ ((if_neg h23).trans (if_neg h27)).symm ((if_neg h23).trans (if_neg h27)).symm hW (lv_sub hl [0, 1, 2] rfl)
          · refine lv_aload_n F.1 F.2.1 dX7_readOne_130 rfl (lv_at hl 2 rfl) ?_
            refine jget F hT hW fw_X7_129 oM0 (by decide) rfl dX7_readOne_131 ?_
            refine lv_if_ne (tgt := 147) F.1 F.2.1 dX7_readOne_134 (by decide) (fun h28 => ?_) (fun h28 => ?_)
            · refine lv_iconst (v := 0) F.1 F.2.1 dX7_readOne_147 (by decide) ?_
              exact hJ33 _ _ _ _ _ ((if_neg h23).trans ((if_pos h27).trans (if_neg h28))).symm ((if_neg h23).trans ((if_pos h27).trans (if_neg h28))).symm hW (lv_sub hl [0, 1, 2] rfl)
            · refine lv_aload_n F.1 F.2.1 dX7_readOne_137 rfl (lv_at hl 2 rfl) ?_
              refine lv_bipush (v := 48) F.1 F.2.1 dX7_readOne_138 (by decide) ?_
              refine lv_iconst (v := 3) F.1 F.2.1 dX7_readOne_140 (by decide) ?_
              refine jcif (jrunV (As := [.int 48, .int 3]) (rest := [.int ((3 * (S 0 10)) + 2), .ref (ea E 13 7)]) F hT hW yc_X7_one yv_X7_one ml_X7_132 oM0 (by decide) rfl (c_X7_one l E μ S22 48 3 (pk110.same (by rw [eS22]; exact us_ne _ _ (by omega)) (by rw [eS22]; exact us_ne _ _ (by omega)))) rfl hl.1 ⟨Nat.le_of_ble_eq_true rfl, Nat.le_of_ble_eq_true rfl⟩ rfl (Nat.le_of_ble_eq_true rfl) ⟨Nat.le_refl _, Nat.le_refl _⟩ dX7_readOne_141) hW (fun x29 S30 H locs ex29 eS30 hW => ?_)
              refine lv_goto (tgt := 148) F.1 F.2.1 dX7_readOne_144 (by decide) ?_
              subst eS30
              subst ex29
              exact hJ33 _ _ _ _ _ ((if_neg h23).trans ((if_pos h27).trans (if_pos h28))).symm ((if_neg h23).trans ((if_pos h27).trans (if_pos h28))).symm hW (lv_sub hl [0, 1, 2] rfl)
      refine lv_icmp_ne (tgt := 102) F.1 F.2.1 dX7_readOne_92 (by decide) (fun h14 => ?_) (fun h14 => ?_)
      · refine lv_aload_n F.1 F.2.1 dX7_readOne_102 rfl (lv_at hl 2 rfl) ?_
        refine lv_bipush (v := 65) F.1 F.2.1 dX7_readOne_103 (by decide) ?_
        refine lv_bipush (v := 11) F.1 F.2.1 dX7_readOne_105 (by decide) ?_
        refine jcif (jrunV (As := [.int 65, .int 11]) (rest := [.int ((3 * (S 0 10)) + 1), .ref (ea E 13 7)]) F hT hW yc_X7_one yv_X7_one ml_X7_132 oM0 (by decide) rfl (c_X7_one l E μ S13 65 11 pk82) rfl hl.1 ⟨Nat.le_of_ble_eq_true rfl, Nat.le_of_ble_eq_true rfl⟩ rfl (Nat.le_of_ble_eq_true rfl) ⟨Nat.le_refl _, Nat.le_refl _⟩ dX7_readOne_107) hW (fun x15 S16 H locs ex15 eS16 hW => ?_)
        subst eS16
        subst ex15
        exact hJ21 _ _ _ _ _ (if_neg h14).symm (if_neg h14).symm hW (lv_sub hl [0, 1, 2] rfl)
      · refine lv_aload_n F.1 F.2.1 dX7_readOne_95 rfl (lv_at hl 2 rfl) ?_
        refine jcif (jrunV (As := []) (rest := [.int ((3 * (S 0 10)) + 1), .ref (ea E 13 7)]) F hT hW yc_X7_number yv_X7_number ml_X7_138 oM0 (by decide) rfl (c_X7_number l E μ S13 pk82) rfl hl.1 ⟨Nat.le_of_ble_eq_true rfl, Nat.le_of_ble_eq_true rfl⟩ rfl (Nat.le_of_ble_eq_true rfl) ⟨Nat.le_refl _, Nat.le_refl _⟩ dX7_readOne_96) hW (fun x17 S18 H locs ex17 eS18 hW => ?_)
        refine lv_goto (tgt := 110) F.1 F.2.1 dX7_readOne_99 (by decide) ?_
        subst eS18
        subst ex17
        exact hJ21 _ _ _ _ _ (if_pos h14).symm (if_pos h14).symm hW (lv_sub hl [0, 1, 2] rfl)
    · have hq : S11 = p_X7_readOne S := by
        subst eS11
        subst ev9
        subst eS2
        subst ex1
        exact (if_neg h12).symm
      exact jrv F hr0 hlk hW dX7_readOne_71 (congrArg (fun z => fo μ 13 z) hq)
  refine lv_icmp_eq (tgt := 60) F.1 F.2.1 dX7_readOne_23 (by decide) (fun h3 => ?_) (fun h3 => ?_)
  · refine lv_iconst (v := 0) F.1 F.2.1 dX7_readOne_60 (by decide) ?_
    exact hJ10 _ _ _ _ (if_pos h3).symm hW (lv_sub hl [0, 1, 2] rfl)
  · refine lv_iload_n F.1 F.2.1 dX7_readOne_26 rfl (lv_at hl 0 rfl) ?_
    refine lv_bipush (v := 104) F.1 F.2.1 dX7_readOne_27 (by decide) ?_
    refine lv_icmp_eq (tgt := 60) F.1 F.2.1 dX7_readOne_29 (by decide) (fun h4 => ?_) (fun h4 => ?_)
    · refine lv_iconst (v := 0) F.1 F.2.1 dX7_readOne_60 (by decide) ?_
      exact hJ10 _ _ _ _ ((if_neg h3).trans (if_pos h4)).symm hW (lv_sub hl [0, 1, 2] rfl)
    · refine lv_iload_n F.1 F.2.1 dX7_readOne_32 rfl (lv_at hl 0 rfl) ?_
      refine lv_bipush (v := 108) F.1 F.2.1 dX7_readOne_33 (by decide) ?_
      refine lv_icmp_eq (tgt := 60) F.1 F.2.1 dX7_readOne_35 (by decide) (fun h5 => ?_) (fun h5 => ?_)
      · refine lv_iconst (v := 0) F.1 F.2.1 dX7_readOne_60 (by decide) ?_
        exact hJ10 _ _ _ _ ((if_neg h3).trans ((if_neg h4).trans (if_pos h5))).symm hW (lv_sub hl [0, 1, 2] rfl)
      · refine lv_iload_n F.1 F.2.1 dX7_readOne_38 rfl (lv_at hl 0 rfl) ?_
        refine lv_bipush (v := 109) F.1 F.2.1 dX7_readOne_39 (by decide) ?_
        refine lv_icmp_eq (tgt := 60) F.1 F.2.1 dX7_readOne_41 (by decide) (fun h6 => ?_) (fun h6 => ?_)
        · refine lv_iconst (v := 0) F.1 F.2.1 dX7_readOne_60 (by decide) ?_
          exact hJ10 _ _ _ _ ((if_neg h3).trans ((if_neg h4).trans ((if_neg h5).trans (if_pos h6)))).symm hW (lv_sub hl [0, 1, 2] rfl)
        · refine lv_iload_n F.1 F.2.1 dX7_readOne_44 rfl (lv_at hl 0 rfl) ?_
          refine lv_bipush (v := 110) F.1 F.2.1 dX7_readOne_45 (by decide) ?_
          refine lv_icmp_eq (tgt := 60) F.1 F.2.1 dX7_readOne_47 (by decide) (fun h7 => ?_) (fun h7 => ?_)
          · refine lv_iconst (v := 0) F.1 F.2.1 dX7_readOne_60 (by decide) ?_
            exact hJ10 _ _ _ _ ((if_neg h3).trans ((if_neg h4).trans ((if_neg h5).trans ((if_neg h6).trans (if_pos h7))))).symm hW (lv_sub hl [0, 1, 2] rfl)
          · refine lv_iload_n F.1 F.2.1 dX7_readOne_50 rfl (lv_at hl 0 rfl) ?_
            refine lv_bipush (v := 116) F.1 F.2.1 dX7_readOne_51 (by decide) ?_
            refine lv_icmp_eq (tgt := 60) F.1 F.2.1 dX7_readOne_53 (by decide) (fun h8 => ?_) (fun h8 => ?_)
            · refine lv_iconst (v := 0) F.1 F.2.1 dX7_readOne_60 (by decide) ?_
              exact hJ10 _ _ _ _ ((if_neg h3).trans ((if_neg h4).trans ((if_neg h5).trans ((if_neg h6).trans ((if_neg h7).trans (if_pos h8)))))).symm hW (lv_sub hl [0, 1, 2] rfl)
            · refine lv_iconst (v := 1) F.1 F.2.1 dX7_readOne_56 (by decide) ?_
              refine lv_goto (tgt := 61) F.1 F.2.1 dX7_readOne_57 (by decide) ?_
              exact hJ10 _ _ _ _ ((if_neg h3).trans ((if_neg h4).trans ((if_neg h5).trans ((if_neg h6).trans ((if_neg h7).trans (if_neg h8)))))).symm hW (lv_sub hl [0, 1, 2] rfl)

theorem readOne_pk {S : Sv} (h : Rd S) : Pk (p_X7_readOne S) ∧ Bn (p_X7_readOne S 0 10) 27 ∧ cn (S 0 11) ≤ cn (p_X7_readOne S 0 11) ∧ (p_X7_readOne S 0 12 = 0 → cn (S 0 11) + 2 ≤ cn (p_X7_readOne S 0 11) ∧ cn (p_X7_readOne S 0 10) = cn (S 0 10) + 1) := by
  obtain ⟨hp, h10, h3⟩ := id h
  have h80 := hp.1.2
  have hps := hp.2.2
  unfold p_X7_readOne
  dsimp only
  generalize hx : p_X7_sign S = x
  generalize hv : (if x = 117 then (0 : Int32) else if x = 104 then 0 else if x = 108 then 0 else if x = 109 then 0 else if x = 110 then 0 else if x = 116 then 0 else 1) = v
  have e11 : ∀ p k, ¬ p = 7 → ¬ (p = 0 ∧ k = 12) → us (us S 7 (3 * cn (S 0 10)) x) 0 12 v p k = S p k := fun p k h1 h2 => by rw [us_ne _ _ h2, us_ne _ _ (by omega)]
  have e12 : us (us S 7 (3 * cn (S 0 10)) x) 0 12 v 0 12 = v := us_at _ _ _ _
  generalize us (us S 7 (3 * cn (S 0 10)) x) 0 12 v = S11 at e11 e12 ⊢
  by_cases hz : v = 0
  · rw [if_pos (e12.trans hz)]
    have hs : ¬ p_X7_sign S = 0 := by rw [hx]; exact kind_nz hv.symm hz
    have i13 := hp.inc (S' := us S11 0 11 (S11 0 11 + 1)) hs (by rw [us_ne _ _ (by omega)]; exact e11 _ _ (by decide) (by decide)) (by rw [us_at, e11 _ _ (by decide) (by decide)])
    have e13 : us S11 0 11 (S11 0 11 + 1) 0 10 = S 0 10 := by rw [us_ne _ _ (by omega)]; exact e11 _ _ (by decide) (by decide)
    generalize us S11 0 11 (S11 0 11 + 1) = S13 at i13 e13 ⊢
    have h19 : Pk (if x = 116 then (p_X7_number S13).2 else (p_X7_one S13 65 11).2) ∧ cn (S13 0 11) ≤ cn ((if x = 116 then (p_X7_number S13).2 else (p_X7_one S13 65 11).2) 0 11) ∧ ((if x = 116 then (p_X7_number S13).2 else (p_X7_one S13 65 11).2) 0 12 = 0 → cn (S13 0 11) + 1 ≤ cn ((if x = 116 then (p_X7_number S13).2 else (p_X7_one S13 65 11).2) 0 11)) ∧ (if x = 116 then (p_X7_number S13).2 else (p_X7_one S13 65 11).2) 0 10 = S13 0 10 := by
      split
      · have q := number_pk i13.1
        exact ⟨q.1, q.2.1, fun z => (q.2.2 z).2, number_f (by decide)⟩
      · have q := one_pk (no := 65) (hi := 11) i13.1 (Or.inr rfl)
        exact ⟨q.1, q.2.1, fun z => by have := (q.2.2 z).2.1; omega, one_f (by decide)⟩
    generalize (if x = 116 then (p_X7_number S13).2 else (p_X7_one S13 65 11).2) = S19 at h19 ⊢
    generalize (if x = 116 then (p_X7_number S13).1 else (p_X7_one S13 65 11).1) = v20
    obtain ⟨p19, l19, n19, m19⟩ := h19
    have f22 : ∀ k, us S19 7 (3 * cn (S 0 10) + 1) v20 0 k = S19 0 k := fun k => us_ne _ _ (by omega)
    generalize us S19 7 (3 * cn (S 0 10) + 1) v20 = S22 at f22 ⊢
    have p22 : Pk S22 := p19.same (f22 7) (f22 11)
    have q := one_pk (no := 48) (hi := 3) p22 (Or.inl rfl)
    have q10 : (p_X7_one S22 48 3).2 0 10 = S22 0 10 := one_f (by decide)
    have h31 : ∀ T : Sv, (T = S22 ∨ T = (p_X7_one S22 48 3).2) → Pk T ∧ cn (S19 0 11) ≤ cn (T 0 11) ∧ (T 0 12 = 0 → S19 0 12 = 0) ∧ T 0 10 = S19 0 10 := by
      intro T hT
      rcases hT with rfl | rfl
      · exact ⟨p22, by rw [f22]; exact Nat.le_refl _, fun z => by rw [← f22]; exact z, f22 10⟩
      · exact ⟨q.1, by rw [← f22]; exact q.2.1, fun z => by rw [← f22]; exact (q.2.2 z).1, q10.trans (f22 10)⟩
    have h31b := h31 (if x = 104 then (if S22 0 12 = 0 then (p_X7_one S22 48 3).2 else S22) else (if x = 108 then (if S22 0 12 = 0 then (p_X7_one S22 48 3).2 else S22) else S22)) (by repeat' (first | exact Or.inl rfl | exact Or.inr rfl | split))
    generalize (if x = 104 then (if S22 0 12 = 0 then (p_X7_one S22 48 3).2 else S22) else (if x = 108 then (if S22 0 12 = 0 then (p_X7_one S22 48 3).2 else S22) else S22)) = S31 at h31b ⊢
    generalize (if x = 104 then (if S22 0 12 = 0 then (p_X7_one S22 48 3).1 else 0) else (if x = 108 then (if S22 0 12 = 0 then (p_X7_one S22 48 3).1 else 0) else 0)) = v32
    obtain ⟨p31, l31, n31, m31⟩ := h31b
    have f34 : ∀ k, us S31 7 (3 * cn (S 0 10) + 2) v32 0 k = S31 0 k := fun k => us_ne _ _ (by omega)
    generalize us S31 7 (3 * cn (S 0 10) + 2) v32 = S34 at f34 ⊢
    have e10 : S34 0 10 = S 0 10 := by rw [f34, m31, m19, e13]
    obtain ⟨hc, hB⟩ := bn_inc (x := S 0 10) (b := 27) h10 (by omega) (by decide)
    rw [us_at, us_ne _ _ (by decide), us_ne _ _ (by decide), e10, hc, f34, f34]
    refine ⟨p31.same (by rw [us_ne _ _ (by decide), f34]) (by rw [us_ne _ _ (by decide), f34]), hB, by omega, fun z => ⟨?_, rfl⟩⟩
    have := n19 (n31 z)
    omega
  · rw [if_neg (fun q => hz (e12.symm.trans q))]
    rw [e11 0 10 (by decide) (by decide), e11 0 11 (by decide) (by decide), e12]
    exact ⟨hp.same (e11 _ _ (by decide) (by decide)) (e11 _ _ (by decide) (by decide)), h10, Nat.le_refl _, fun q => absurd q hz⟩
theorem readOne_f {S : Sv} {p k : Nat} (h1 : ¬ p = 7) (h2 : ¬ (p = 0 ∧ (k = 10 ∨ k = 11 ∨ k = 12))) : p_X7_readOne S p k = S p k := by
  have h3 : ¬ (p = 0 ∧ (k = 11 ∨ k = 12)) := by omega
  unfold p_X7_readOne
  dsimp only
  generalize p_X7_sign S = x
  generalize (if x = 117 then (0 : Int32) else if x = 104 then 0 else if x = 108 then 0 else if x = 109 then 0 else if x = 110 then 0 else if x = 116 then 0 else 1) = v
  have e11 : us (us S 7 (3 * cn (S 0 10)) x) 0 12 v p k = S p k := by rw [us_ne _ _ (by omega), us_ne _ _ (by omega)]
  generalize us (us S 7 (3 * cn (S 0 10)) x) 0 12 v = S11 at e11 ⊢
  split
  · have e13 : us S11 0 11 (S11 0 11 + 1) p k = S p k := by rw [us_ne _ _ (by omega)]; exact e11
    generalize us S11 0 11 (S11 0 11 + 1) = S13 at e13 ⊢
    have h19 : (if x = 116 then (p_X7_number S13).2 else (p_X7_one S13 65 11).2) p k = S p k := by
      split
      · exact (number_f h3).trans e13
      · exact (one_f h3).trans e13
    generalize (if x = 116 then (p_X7_number S13).2 else (p_X7_one S13 65 11).2) = S19 at h19 ⊢
    generalize (if x = 116 then (p_X7_number S13).1 else (p_X7_one S13 65 11).1) = v20
    have f22 : us S19 7 (3 * cn (S 0 10) + 1) v20 p k = S p k := by rw [us_ne _ _ (by omega)]; exact h19
    generalize us S19 7 (3 * cn (S 0 10) + 1) v20 = S22 at f22 ⊢
    have h31 : (if x = 104 then (if S22 0 12 = 0 then (p_X7_one S22 48 3).2 else S22) else (if x = 108 then (if S22 0 12 = 0 then (p_X7_one S22 48 3).2 else S22) else S22)) p k = S p k := by
      repeat' split
      all_goals first | exact f22 | exact (one_f h3).trans f22
    rw [us_ne _ _ (by omega), us_ne _ _ (by omega)]
    exact h31
  · exact e11

