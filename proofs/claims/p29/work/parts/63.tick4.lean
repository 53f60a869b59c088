/-! isTick: its contract -/
theorem kd13 {q : Nat} : kd 13 q = (10, if q < 11 then 12 else if q < 14 then 9 else if q = 14 then 6 else 12) := rfl
theorem mb_down {E : mE} {m z : Nat} {M : Mu} {H : Heap} (hm : nlc E ≤ m) (h : MB (xE E m z) M H) : MB E M H := by
  intro r p hl
  have h0 := h r p (lv_to hm hl)
  have h1 : cellV E (sl (xE E m z) M r p) H r p := by
    unfold cellAt at h0
    unfold cellV
    rw [xE_o (lv_old hl)] at h0
    exact h0
  refine h1.congr (fun k hk => ?_) (kdN hl)
  unfold sl
  cases hr : rf r p k with
  | none => rfl
  | some q =>
    obtain ⟨r', p'⟩ := q
    dsimp only
    rw [xE_o (Or.inl (rf_live hl hk hr).2)]
theorem chg13 {μ : Mu} {a : Int32 × Sv} (h : Wc μ) : (chgF μ a).2 13 = μ 13 := by
  have hn := h.2.1.2
  unfold chgF p_X0_prepare
  try dsimp only
  rw [fo_ne _ _ (by decide), fo_ne _ _ (by decide), fo_ne _ _ (by omega)]
theorem tick_1 {μ : Mu} : (p_X3_passTicks (μ 0) 1) = ((p_X3_passTick (μ 0)).2 0 0, (p_X3_passTick (μ 0)).2) := by
  unfold p_X3_passTicks
  try dsimp only
  rw [show p_X6_within 1 1 500 = 1 by decide, if_neg (by decide), show cn 1 = 1 by decide]
  rfl
set_option maxHeartbeats 4000000 in
set_option maxRecDepth 100000 in
theorem c_L_isTick (l : Launch) (E : mE) (μ : Mu) {b n t d g : Nat} (hJ : JJ b n t d g μ) (hb : b < 900) (hE0 : nlc E = 0) : Met l yL_isTick (Cond.code yL_isTick cL_isTick 27 (some .boolean) :: TB) (rmC 6 136 16 177) (Pj E [.ref (ea E 11 0)] μ) (va_Qi (fun x μ' => x = 1 ∧ ∃ d', JJ (b + 1) n t d' (g + 1) μ') (fun μ' t => MB E μ' t.heap) (AA E)) 16 177 (AA E) := by
  refine tMet (by decide +kernel) (Nat.le_of_ble_eq_true rfl) ?_
  intro p e s m below meth c ls F hT hr0 hlk hW hl
  have F : CallFix p m c cL_isTick 27 s _ TB RL := F
  have hl : lv_has ls 27 [(0, .ref (ea E 11 0))] := hl
  obtain ⟨hc, hKA⟩ := id hJ
  have hK := hKA.1
  have hn := hK.n12
  have ht := hK.t6
  have hd := hK.d8
  refine lv_aload_n F.1 F.2.1 dL_isTick_0 rfl (lv_at hl 0 rfl) ?_
  refine lv_iconst (v := 1) F.1 F.2.1 dL_isTick_1 (by decide) ?_
  refine jcir (jrunV (As := [.int 1]) (rest := []) F hT hW yc_X6_count yv_X6_count ml_L_14 oH0 (by decide) rfl (r_count l E μ rfl hc 1 (by decide) (by decide)) rfl hl.1 ⟨Nat.le_of_ble_eq_true rfl, Nat.le_of_ble_eq_true rfl⟩ rfl (Nat.le_of_ble_eq_true rfl) ⟨Nat.zero_le _, Nat.zero_le _⟩ dL_isTick_2) hW (fun H0 locs hW => ?_)
  refine lv_istore_n (lv' := [(1, .int (p_X3_numberOfAll (μ 0) 1)), (0, .ref (ea E 11 0))]) F.1 F.2.1 dL_isTick_5 rfl hl (by decide) rfl (fun ls hl => ?_)
  have hT1 := stat_x (m := 15) hT hW (by omega)
  have hB := bw_x (m := 15) hW (by omega)
  rw [hE0] at hB
  have hB : BW (xE E 15 H0.size) s H0 locs (nV E μ) (nL E 0) (H0.size + (0 - nlc E)) := ⟨hB.1, hB.2.1, by omega⟩
  have e11 : ea (xE E 15 H0.size) 11 0 = ea E 11 0 := xE_o (Or.inl (by decide))
  have aa1 : ∀ q, q < s.heap.size → AA (xE E 15 H0.size) q → AA E q := fun q hq h => (aa_of h).resolve_right (by have := hW.2.1; omega)
  have nl1 : nlc (xE E 15 H0.size) = 15 := xE_lc
  have md1 : ∀ (M : Mu) (H : Heap), MB (xE E 15 H0.size) M H → MB E M H := fun M H h => mb_down (by omega) h
  refine lv_bipush (v := 12) F.1 F.2.1 dL_isTick_6 (by decide) ?_
  refine jnw (N := 12) F hT1 0 hB (by omega) (by omega) rfl rfl (by omega) (Nat.le_of_ble_eq_true rfl) (Nat.le_of_ble_eq_true rfl) dL_isTick_8 (fun H hB => ?_)
  refine lv_astore_n (lv' := [(2, .ref (ea (xE E 15 H0.size) 13 0)), (1, .int (p_X3_numberOfAll (μ 0) 1)), (0, .ref (ea E 11 0))]) F.1 F.2.1 dL_isTick_10 rfl hl (by decide) rfl (fun ls hl => ?_)
  refine lv_bipush (v := 12) F.1 F.2.1 dL_isTick_11 (by decide) ?_
  refine jnw (N := 12) F hT1 1 hB (by omega) (by omega) rfl rfl (by omega) (Nat.le_of_ble_eq_true rfl) (Nat.le_of_ble_eq_true rfl) dL_isTick_13 (fun H hB => ?_)
  refine lv_astore_n (lv' := [(3, .ref (ea (xE E 15 H0.size) 13 1)), (2, .ref (ea (xE E 15 H0.size) 13 0)), (1, .int (p_X3_numberOfAll (μ 0) 1)), (0, .ref (ea E 11 0))]) F.1 F.2.1 dL_isTick_15 rfl hl (by decide) rfl (fun ls hl => ?_)
  refine lv_bipush (v := 12) F.1 F.2.1 dL_isTick_16 (by decide) ?_
  refine jnw (N := 12) F hT1 2 hB (by omega) (by omega) rfl rfl (by omega) (Nat.le_of_ble_eq_true rfl) (Nat.le_of_ble_eq_true rfl) dL_isTick_18 (fun H hB => ?_)
  refine lv_astore (lv' := [(4, .ref (ea (xE E 15 H0.size) 13 2)), (3, .ref (ea (xE E 15 H0.size) 13 1)), (2, .ref (ea (xE E 15 H0.size) 13 0)), (1, .int (p_X3_numberOfAll (μ 0) 1)), (0, .ref (ea E 11 0))]) F.1 F.2.1 dL_isTick_20 hl (by decide) rfl (fun ls hl => ?_)
  refine lv_bipush (v := 12) F.1 F.2.1 dL_isTick_22 (by decide) ?_
  refine jnw (N := 12) F hT1 3 hB (by omega) (by omega) rfl rfl (by omega) (Nat.le_of_ble_eq_true rfl) (Nat.le_of_ble_eq_true rfl) dL_isTick_24 (fun H hB => ?_)
  refine lv_astore (lv' := [(5, .ref (ea (xE E 15 H0.size) 13 3)), (4, .ref (ea (xE E 15 H0.size) 13 2)), (3, .ref (ea (xE E 15 H0.size) 13 1)), (2, .ref (ea (xE E 15 H0.size) 13 0)), (1, .int (p_X3_numberOfAll (μ 0) 1)), (0, .ref (ea E 11 0))]) F.1 F.2.1 dL_isTick_26 hl (by decide) rfl (fun ls hl => ?_)
  refine lv_bipush (v := 12) F.1 F.2.1 dL_isTick_28 (by decide) ?_
  refine jnw (N := 12) F hT1 4 hB (by omega) (by omega) rfl rfl (by omega) (Nat.le_of_ble_eq_true rfl) (Nat.le_of_ble_eq_true rfl) dL_isTick_30 (fun H hB => ?_)
  refine lv_astore (lv' := [(6, .ref (ea (xE E 15 H0.size) 13 4)), (5, .ref (ea (xE E 15 H0.size) 13 3)), (4, .ref (ea (xE E 15 H0.size) 13 2)), (3, .ref (ea (xE E 15 H0.size) 13 1)), (2, .ref (ea (xE E 15 H0.size) 13 0)), (1, .int (p_X3_numberOfAll (μ 0) 1)), (0, .ref (ea E 11 0))]) F.1 F.2.1 dL_isTick_32 hl (by decide) rfl (fun ls hl => ?_)
  refine lv_bipush (v := 12) F.1 F.2.1 dL_isTick_34 (by decide) ?_
  refine jnw (N := 12) F hT1 5 hB (by omega) (by omega) rfl rfl (by omega) (Nat.le_of_ble_eq_true rfl) (Nat.le_of_ble_eq_true rfl) dL_isTick_36 (fun H hB => ?_)
  refine lv_astore (lv' := [(7, .ref (ea (xE E 15 H0.size) 13 5)), (6, .ref (ea (xE E 15 H0.size) 13 4)), (5, .ref (ea (xE E 15 H0.size) 13 3)), (4, .ref (ea (xE E 15 H0.size) 13 2)), (3, .ref (ea (xE E 15 H0.size) 13 1)), (2, .ref (ea (xE E 15 H0.size) 13 0)), (1, .int (p_X3_numberOfAll (μ 0) 1)), (0, .ref (ea E 11 0))]) F.1 F.2.1 dL_isTick_38 hl (by decide) rfl (fun ls hl => ?_)
  refine lv_bipush (v := 12) F.1 F.2.1 dL_isTick_40 (by decide) ?_
  refine jnw (N := 12) F hT1 6 hB (by omega) (by omega) rfl rfl (by omega) (Nat.le_of_ble_eq_true rfl) (Nat.le_of_ble_eq_true rfl) dL_isTick_42 (fun H hB => ?_)
  refine lv_astore (lv' := [(8, .ref (ea (xE E 15 H0.size) 13 6)), (7, .ref (ea (xE E 15 H0.size) 13 5)), (6, .ref (ea (xE E 15 H0.size) 13 4)), (5, .ref (ea (xE E 15 H0.size) 13 3)), (4, .ref (ea (xE E 15 H0.size) 13 2)), (3, .ref (ea (xE E 15 H0.size) 13 1)), (2, .ref (ea (xE E 15 H0.size) 13 0)), (1, .int (p_X3_numberOfAll (μ 0) 1)), (0, .ref (ea E 11 0))]) F.1 F.2.1 dL_isTick_44 hl (by decide) rfl (fun ls hl => ?_)
  refine lv_bipush (v := 12) F.1 F.2.1 dL_isTick_46 (by decide) ?_
  refine jnw (N := 12) F hT1 7 hB (by omega) (by omega) rfl rfl (by omega) (Nat.le_of_ble_eq_true rfl) (Nat.le_of_ble_eq_true rfl) dL_isTick_48 (fun H hB => ?_)
  refine lv_astore (lv' := [(9, .ref (ea (xE E 15 H0.size) 13 7)), (8, .ref (ea (xE E 15 H0.size) 13 6)), (7, .ref (ea (xE E 15 H0.size) 13 5)), (6, .ref (ea (xE E 15 H0.size) 13 4)), (5, .ref (ea (xE E 15 H0.size) 13 3)), (4, .ref (ea (xE E 15 H0.size) 13 2)), (3, .ref (ea (xE E 15 H0.size) 13 1)), (2, .ref (ea (xE E 15 H0.size) 13 0)), (1, .int (p_X3_numberOfAll (μ 0) 1)), (0, .ref (ea E 11 0))]) F.1 F.2.1 dL_isTick_50 hl (by decide) rfl (fun ls hl => ?_)
  refine lv_bipush (v := 12) F.1 F.2.1 dL_isTick_52 (by decide) ?_
  refine jnw (N := 12) F hT1 8 hB (by omega) (by omega) rfl rfl (by omega) (Nat.le_of_ble_eq_true rfl) (Nat.le_of_ble_eq_true rfl) dL_isTick_54 (fun H hB => ?_)
  refine lv_astore (lv' := [(10, .ref (ea (xE E 15 H0.size) 13 8)), (9, .ref (ea (xE E 15 H0.size) 13 7)), (8, .ref (ea (xE E 15 H0.size) 13 6)), (7, .ref (ea (xE E 15 H0.size) 13 5)), (6, .ref (ea (xE E 15 H0.size) 13 4)), (5, .ref (ea (xE E 15 H0.size) 13 3)), (4, .ref (ea (xE E 15 H0.size) 13 2)), (3, .ref (ea (xE E 15 H0.size) 13 1)), (2, .ref (ea (xE E 15 H0.size) 13 0)), (1, .int (p_X3_numberOfAll (μ 0) 1)), (0, .ref (ea E 11 0))]) F.1 F.2.1 dL_isTick_56 hl (by decide) rfl (fun ls hl => ?_)
  refine lv_bipush (v := 12) F.1 F.2.1 dL_isTick_58 (by decide) ?_
  refine jnw (N := 12) F hT1 9 hB (by omega) (by omega) rfl rfl (by omega) (Nat.le_of_ble_eq_true rfl) (Nat.le_of_ble_eq_true rfl) dL_isTick_60 (fun H hB => ?_)
  refine lv_astore (lv' := [(11, .ref (ea (xE E 15 H0.size) 13 9)), (10, .ref (ea (xE E 15 H0.size) 13 8)), (9, .ref (ea (xE E 15 H0.size) 13 7)), (8, .ref (ea (xE E 15 H0.size) 13 6)), (7, .ref (ea (xE E 15 H0.size) 13 5)), (6, .ref (ea (xE E 15 H0.size) 13 4)), (5, .ref (ea (xE E 15 H0.size) 13 3)), (4, .ref (ea (xE E 15 H0.size) 13 2)), (3, .ref (ea (xE E 15 H0.size) 13 1)), (2, .ref (ea (xE E 15 H0.size) 13 0)), (1, .int (p_X3_numberOfAll (μ 0) 1)), (0, .ref (ea E 11 0))]) F.1 F.2.1 dL_isTick_62 hl (by decide) rfl (fun ls hl => ?_)
  refine lv_bipush (v := 12) F.1 F.2.1 dL_isTick_64 (by decide) ?_
  refine jnw (N := 12) F hT1 10 hB (by omega) (by omega) rfl rfl (by omega) (Nat.le_of_ble_eq_true rfl) (Nat.le_of_ble_eq_true rfl) dL_isTick_66 (fun H hB => ?_)
  refine lv_astore (lv' := [(12, .ref (ea (xE E 15 H0.size) 13 10)), (11, .ref (ea (xE E 15 H0.size) 13 9)), (10, .ref (ea (xE E 15 H0.size) 13 8)), (9, .ref (ea (xE E 15 H0.size) 13 7)), (8, .ref (ea (xE E 15 H0.size) 13 6)), (7, .ref (ea (xE E 15 H0.size) 13 5)), (6, .ref (ea (xE E 15 H0.size) 13 4)), (5, .ref (ea (xE E 15 H0.size) 13 3)), (4, .ref (ea (xE E 15 H0.size) 13 2)), (3, .ref (ea (xE E 15 H0.size) 13 1)), (2, .ref (ea (xE E 15 H0.size) 13 0)), (1, .int (p_X3_numberOfAll (μ 0) 1)), (0, .ref (ea E 11 0))]) F.1 F.2.1 dL_isTick_68 hl (by decide) rfl (fun ls hl => ?_)
  refine lv_bipush (v := 9) F.1 F.2.1 dL_isTick_70 (by decide) ?_
  refine jnw (N := 9) F hT1 11 hB (by omega) (by omega) rfl rfl (by omega) (Nat.le_of_ble_eq_true rfl) (Nat.le_of_ble_eq_true rfl) dL_isTick_72 (fun H hB => ?_)
  refine lv_astore (lv' := [(13, .ref (ea (xE E 15 H0.size) 13 11)), (12, .ref (ea (xE E 15 H0.size) 13 10)), (11, .ref (ea (xE E 15 H0.size) 13 9)), (10, .ref (ea (xE E 15 H0.size) 13 8)), (9, .ref (ea (xE E 15 H0.size) 13 7)), (8, .ref (ea (xE E 15 H0.size) 13 6)), (7, .ref (ea (xE E 15 H0.size) 13 5)), (6, .ref (ea (xE E 15 H0.size) 13 4)), (5, .ref (ea (xE E 15 H0.size) 13 3)), (4, .ref (ea (xE E 15 H0.size) 13 2)), (3, .ref (ea (xE E 15 H0.size) 13 1)), (2, .ref (ea (xE E 15 H0.size) 13 0)), (1, .int (p_X3_numberOfAll (μ 0) 1)), (0, .ref (ea E 11 0))]) F.1 F.2.1 dL_isTick_74 hl (by decide) rfl (fun ls hl => ?_)
  refine lv_bipush (v := 9) F.1 F.2.1 dL_isTick_76 (by decide) ?_
  refine jnw (N := 9) F hT1 12 hB (by omega) (by omega) rfl rfl (by omega) (Nat.le_of_ble_eq_true rfl) (Nat.le_of_ble_eq_true rfl) dL_isTick_78 (fun H hB => ?_)
  refine lv_astore (lv' := [(14, .ref (ea (xE E 15 H0.size) 13 12)), (13, .ref (ea (xE E 15 H0.size) 13 11)), (12, .ref (ea (xE E 15 H0.size) 13 10)), (11, .ref (ea (xE E 15 H0.size) 13 9)), (10, .ref (ea (xE E 15 H0.size) 13 8)), (9, .ref (ea (xE E 15 H0.size) 13 7)), (8, .ref (ea (xE E 15 H0.size) 13 6)), (7, .ref (ea (xE E 15 H0.size) 13 5)), (6, .ref (ea (xE E 15 H0.size) 13 4)), (5, .ref (ea (xE E 15 H0.size) 13 3)), (4, .ref (ea (xE E 15 H0.size) 13 2)), (3, .ref (ea (xE E 15 H0.size) 13 1)), (2, .ref (ea (xE E 15 H0.size) 13 0)), (1, .int (p_X3_numberOfAll (μ 0) 1)), (0, .ref (ea E 11 0))]) F.1 F.2.1 dL_isTick_80 hl (by decide) rfl (fun ls hl => ?_)
  refine lv_bipush (v := 9) F.1 F.2.1 dL_isTick_82 (by decide) ?_
  refine jnw (N := 9) F hT1 13 hB (by omega) (by omega) rfl rfl (by omega) (Nat.le_of_ble_eq_true rfl) (Nat.le_of_ble_eq_true rfl) dL_isTick_84 (fun H hB => ?_)
  refine lv_astore (lv' := [(15, .ref (ea (xE E 15 H0.size) 13 13)), (14, .ref (ea (xE E 15 H0.size) 13 12)), (13, .ref (ea (xE E 15 H0.size) 13 11)), (12, .ref (ea (xE E 15 H0.size) 13 10)), (11, .ref (ea (xE E 15 H0.size) 13 9)), (10, .ref (ea (xE E 15 H0.size) 13 8)), (9, .ref (ea (xE E 15 H0.size) 13 7)), (8, .ref (ea (xE E 15 H0.size) 13 6)), (7, .ref (ea (xE E 15 H0.size) 13 5)), (6, .ref (ea (xE E 15 H0.size) 13 4)), (5, .ref (ea (xE E 15 H0.size) 13 3)), (4, .ref (ea (xE E 15 H0.size) 13 2)), (3, .ref (ea (xE E 15 H0.size) 13 1)), (2, .ref (ea (xE E 15 H0.size) 13 0)), (1, .int (p_X3_numberOfAll (μ 0) 1)), (0, .ref (ea E 11 0))]) F.1 F.2.1 dL_isTick_86 hl (by decide) rfl (fun ls hl => ?_)
  refine lv_bipush (v := 6) F.1 F.2.1 dL_isTick_88 (by decide) ?_
  refine jnw (N := 6) F hT1 14 hB (by omega) (by omega) rfl rfl (by omega) (Nat.le_of_ble_eq_true rfl) (Nat.le_of_ble_eq_true rfl) dL_isTick_90 (fun H hB => ?_)
  refine lv_astore (lv' := [(16, .ref (ea (xE E 15 H0.size) 13 14)), (15, .ref (ea (xE E 15 H0.size) 13 13)), (14, .ref (ea (xE E 15 H0.size) 13 12)), (13, .ref (ea (xE E 15 H0.size) 13 11)), (12, .ref (ea (xE E 15 H0.size) 13 10)), (11, .ref (ea (xE E 15 H0.size) 13 9)), (10, .ref (ea (xE E 15 H0.size) 13 8)), (9, .ref (ea (xE E 15 H0.size) 13 7)), (8, .ref (ea (xE E 15 H0.size) 13 6)), (7, .ref (ea (xE E 15 H0.size) 13 5)), (6, .ref (ea (xE E 15 H0.size) 13 4)), (5, .ref (ea (xE E 15 H0.size) 13 3)), (4, .ref (ea (xE E 15 H0.size) 13 2)), (3, .ref (ea (xE E 15 H0.size) 13 1)), (2, .ref (ea (xE E 15 H0.size) 13 0)), (1, .int (p_X3_numberOfAll (μ 0) 1)), (0, .ref (ea E 11 0))]) F.1 F.2.1 dL_isTick_92 hl (by decide) rfl (fun ls hl => ?_)
  have hW := bw_wd hB
  generalize (fun p k => if nlc E ≤ p then 0 else μ 13 p k : Sv) = A at hW
  rw [← e11, na1, hK.en] at hl
  generalize xE E 15 H0.size = E1 at *
  clear hB e11
  obtain ⟨hpr, hb2, d3, hd3, eq3, hln, d4, hd4, eq4, fin⟩ := tick_sim hKA hb A
  refine sg_T1 F hT1 (μ 0) A n d t nl1 rfl hc hn hd ht (na1.trans hK.en) (na3.trans hK.ed) (na2.trans hK.et) (fun q hq => ?_) hW (lv_sub hl [16, 15, 14, 13, 12, 11, 10, 9, 8, 7, 6, 5, 4, 3, 2, 1, 0] rfl) (fun S' w17 w18 w19 w20 w21 H locs ls hq hW hl => ?_)
  · rw [hK.nt0 hq]
    obtain ⟨⟨i, i1, i2, -⟩, -⟩ := hK.2.2.1 q hq
    exact bn_of i2 (by omega) (by decide)
  have q0 : S' = (g_T1 (μ 0) A n d t).1 := congrArg (fun z => z.1) hq
  have q17 : w17 = nI d := (congrArg (fun z => z.2.1) hq).trans (na3.trans hK.ed)
  have q18 : w18 = nI g := (congrArg (fun z => z.2.2.1) hq).trans (na0.trans hK.eg)
  have q19 : w19 = μ 0 0 8 := (congrArg (fun z => z.2.2.2.1) hq).trans na6
  have q20 : w20 = μ 0 0 9 := (congrArg (fun z => z.2.2.2.2.1) hq).trans na7
  have q21 : w21 = μ 0 0 10 := (congrArg (fun z => z.2.2.2.2.2) hq).trans na9
  clear hq
  subst q0 q17 q18 q19 q20 q21
  generalize (g_T1 (μ 0) A n d t).1 = A1 at *
  refine sg_T2 F hT1 (μ 0) A1 n nl1 rfl hc hn hpr hW hl (fun w22 H locs ls hq hW hl => ?_)
  subst hq
  generalize g_T2 (μ 0) A1 n = u22 at *
  refine sg_T3 F hT1 (μ 0) A1 d (μ 0 0 9) (μ 0 0 10) u22 nl1 rfl hc hd hb2 hW hl (fun S' w17 w20 w21 H locs ls hq hW hl => ?_)
  have q0 : S' = (g_T3 (μ 0) A1 d (μ 0 0 9) (μ 0 0 10) u22).1 := congrArg (fun z => z.1) hq
  have q17 : w17 = nI d3 := (congrArg (fun z => z.2.1) hq).trans eq3
  have q20 : w20 = (g_T3 (μ 0) A1 d (μ 0 0 9) (μ 0 0 10) u22).2.2.1 := congrArg (fun z => z.2.2.1) hq
  have q21 : w21 = (g_T3 (μ 0) A1 d (μ 0 0 9) (μ 0 0 10) u22).2.2.2 := congrArg (fun z => z.2.2.2) hq
  clear hq eq3
  subst q0 q17 q20 q21
  generalize g_T3 (μ 0) A1 d (μ 0 0 9) (μ 0 0 10) u22 = R3 at *
  refine sg_T4 F hT1 (μ 0) R3.1 d3 (μ 0 0 8) nl1 rfl hc (by omega) hln hW (lv_sub hl [0, 1, 2, 3, 4, 5, 6, 7, 8, 9, 10, 11, 12, 13, 14, 15, 16, 17, 18, 19, 20, 21] rfl) (fun S' w17 w19 H5 locs ls hq hW hl => ?_)
  have q0 : S' = (g_T4 (μ 0) R3.1 d3 (μ 0 0 8)).1 := congrArg (fun z => z.1) hq
  have q17 : w17 = nI d4 := (congrArg (fun z => z.2.1) hq).trans eq4
  have q19 : w19 = (g_T4 (μ 0) R3.1 d3 (μ 0 0 8)).2.2 := congrArg (fun z => z.2.2) hq
  clear hq eq4
  subst q0 q17 q19
  generalize g_T4 (μ 0) R3.1 d3 (μ 0 0 8) = R4 at *
  have hT2 := stat_x (m := 16) hT1 hW (by omega)
  have hB := bw_x (m := 16) hW (by omega)
  rw [nl1] at hB
  have hB : BW (xE E1 16 H5.size) s H5 locs (nV E1 (fo μ 13 R4.1)) (nL E1 15) (H5.size + (15 - nlc E1)) := ⟨hB.1, hB.2.1, by omega⟩
  have aa2 : ∀ q, q < s.heap.size → AA (xE E1 16 H5.size) q → AA E q := fun q hq h => aa1 q hq ((aa_of h).resolve_right (by have := hW.2.1; omega))
  have nl2 : nlc (xE E1 16 H5.size) = 16 := xE_lc
  have md2 : ∀ (M : Mu) (H' : Heap), MB (xE E1 16 H5.size) M H' → MB E M H' := fun M H' h => md1 M H' (mb_down (by omega) h)
  have hz : ∀ r p, (r < 13 ∨ (r = 13 ∧ p < 15)) → ea (xE E1 16 H5.size) r p = ea E1 r p := fun r p h => xE_o (by rw [nl1]; exact h)
  refine lv_bipush (v := 12) F.1 F.2.1 dL_isTick_957 (by decide) ?_
  refine jnw (N := 12) F hT2 15 hB (by omega) (by omega) rfl rfl (by omega) (Nat.le_of_ble_eq_true rfl) (Nat.le_of_ble_eq_true rfl) dL_isTick_959 (fun H hB => ?_)
  rw [← hz 11 0 (by omega), ← hz 13 0 (by omega), ← hz 13 1 (by omega), ← hz 13 2 (by omega), ← hz 13 3 (by omega), ← hz 13 4 (by omega), ← hz 13 5 (by omega), ← hz 13 6 (by omega), ← hz 13 7 (by omega), ← hz 13 8 (by omega), ← hz 13 9 (by omega), ← hz 13 10 (by omega), ← hz 13 11 (by omega), ← hz 13 12 (by omega), ← hz 13 13 (by omega), ← hz 13 14 (by omega)] at hl
  have hW := bw_wd hB
  rw [fo_fo, nl1] at hW
  have hA4 : ∀ p k, p < 15 → (fun p k => if 15 ≤ p then 0 else fo μ 13 R4.1 13 p k : Sv) p k = R4.1 p k := fun p k hp => by
    dsimp only
    rw [if_neg (by omega), fo_at]
  generalize (fun p k => if 15 ≤ p then 0 else fo μ 13 R4.1 13 p k : Sv) = A4 at hW hA4
  obtain ⟨fKA, fAR, fAN, f14, f8, f9, f10⟩ := fin A4 hA4
  clear fin hA4 hB hz
  refine lv_astore (lv' := (23, .ref (ea (xE E1 16 H5.size) 13 15)) :: [(0, .ref (ea (xE E1 16 H5.size) 11 0)), (1, .int (nI n)), (2, .ref (ea (xE E1 16 H5.size) 13 0)), (3, .ref (ea (xE E1 16 H5.size) 13 1)), (4, .ref (ea (xE E1 16 H5.size) 13 2)), (5, .ref (ea (xE E1 16 H5.size) 13 3)), (6, .ref (ea (xE E1 16 H5.size) 13 4)), (7, .ref (ea (xE E1 16 H5.size) 13 5)), (8, .ref (ea (xE E1 16 H5.size) 13 6)), (9, .ref (ea (xE E1 16 H5.size) 13 7)), (10, .ref (ea (xE E1 16 H5.size) 13 8)), (11, .ref (ea (xE E1 16 H5.size) 13 9)), (12, .ref (ea (xE E1 16 H5.size) 13 10)), (13, .ref (ea (xE E1 16 H5.size) 13 11)), (14, .ref (ea (xE E1 16 H5.size) 13 12)), (15, .ref (ea (xE E1 16 H5.size) 13 13)), (16, .ref (ea (xE E1 16 H5.size) 13 14)), (17, .int (nI d4)), (18, .int (nI g)), (19, .int R4.2.2), (20, .int R3.2.2.1), (21, .int R3.2.2.2)]) F.1 F.2.1 dL_isTick_961 hl (by decide) rfl (fun ls hl => ?_)
  generalize xE E1 16 H5.size = E2 at *
  refine sg_T5 F hT2 (μ 0) A4 n nl2 rfl hc hn hW (lv_sub hl [1, 2, 3, 4, 5, 6, 7, 8, 9, 10, 11, 12, 13, 14, 15, 16, 17, 18, 19, 20, 21, 22, 0] rfl) (fun A5 H locs ls hq hW hl => ?_)
  rw [← hq] at fAR fAN f14
  clear hq
  have hcM : Wc (fo μ 13 A5) := wc13 hc
  have hJM : JJ b n t d g (fo μ 13 A5) := ⟨hcM, hKA⟩
  have hx : p_X6_ticks (fo μ 13 A5) 1 = chgF (fo μ 13 A5) (p_X3_passTicks (fo μ 13 A5 0) 1) := by rw [← hJM.p0]; rfl
  have e13 : (p_X6_ticks (fo μ 13 A5) 1).2 13 = A5 := by rw [hx, chg13 hcM, fo_at]
  rw [show fo μ 13 A5 0 = μ 0 from rfl, tick_1] at hx
  have hzP : Zb (p_X3_passTick (μ 0)).2 := by
    have := (ws_ticks (tk := 1) (hc.1 0 (by decide))).2
    rw [tick_1] at this
    exact this
  generalize (p_X3_passTick (μ 0)).2 = P at hx fKA fAR fAN f14 f8 f9 f10 hzP
  obtain ⟨y1, y2, y3⟩ := hJM.chg (b' := b + 1) (n' := n) (t' := t) (d' := d4) (g' := g + 1) hx hzP fKA
  dsimp only at y1 y2
  have eg1 : (p_X6_ticks (fo μ 13 A5) 1).1 = nI g + 1 := by
    rw [y1, fKA.1.eg]
    exact (nI_add g 1).symm
  clear hx hzP y1
  generalize hM2 : (p_X6_ticks (fo μ 13 A5) 1).2 = M2 at y2 y3 e13
  have K2 := y3.2.1
  refine sg_T6 (μ := μ) F hT2 (fo μ 13 A5) M2 n d4 t nl2 hcM hM2 y3.1 hn hd4 ht eg1 (na0.trans (K2.eg.trans (nI_add g 1).symm)) (na3.trans K2.ed) (by rw [na6, y2]; exact f8.symm) (by rw [na7, y2]; exact f9.symm) (by rw [na9, y2]; exact f10.symm) (na2.trans K2.et)
    (fun j hj => by rw [K2.nl5 hj, y2, e13]; exact (fAR j hj).1.1.symm)
    (fun j hj => by
      rw [K2.nl6 hj, y2, e13]
      intro q
      have z5 := (fKA.1.2.1 j hj).1.2.2.2.2.2.1
      have q5 : P (3 + j) 5 = 1 := z5.resolve_left (fun z => q ((fAR j hj).1.1.trans z))
      show (if P (3 + j) 5 = 0 then (-6) else P (3 + j) 6) = A5 1 j
      rw [if_neg (by rw [q5]; decide)]
      exact ((fAR j hj).1.2.1 q5).symm)
    (fun j hj => by rw [K2.nl8 hj, y2, e13]; exact (fAR j hj).1.2.2.2.1.symm)
    (fun j hj => by rw [K2.nl9 hj, y2, e13]; exact (fAR j hj).1.2.2.1.symm)
    (fun j hj => by rw [K2.nl4 hj, y2, e13]; exact (fAR j hj).2.symm)
    (fun j hj => by rw [K2.nl10 hj, y2, e13]; exact (fAR j hj).1.2.2.2.2.1.symm)
    (fun j hj => by rw [K2.nl11 hj, y2, e13]; exact (fAR j hj).1.2.2.2.2.2.1.symm)
    (fun j hj => by rw [K2.nl12 hj, y2, e13]; exact (fAR j hj).1.2.2.2.2.2.2.1.symm)
    (fun j hj => by rw [K2.nl13 hj, y2, e13]; exact (fAR j hj).1.2.2.2.2.2.2.2.1.symm)
    (fun j hj => by rw [K2.nl14 hj, y2, e13]; exact (fAR j hj).1.2.2.2.2.2.2.2.2.1.symm)
    (fun j hj => by rw [K2.nl15 hj, y2, e13]; exact (fAR j hj).1.2.2.2.2.2.2.2.2.2.1.symm)
    (fun j hj => by rw [K2.nl16 hj, y2, e13]; exact (fAR j hj).1.2.2.2.2.2.2.2.2.2.2.1.symm)
    (fun k hk => by rw [K2.np0 hk, y2, e13]; exact (fAN k hk).1.symm)
    (fun k hk => by rw [K2.np1 hk, y2, e13]; exact (fAN k hk).2.1.symm)
    (fun k hk => by rw [K2.np2 hk, y2, e13]; exact (fAN k hk).2.2.symm)
    (fun i hi => by rw [K2.nt2 hi, y2, e13]; exact (f14 i hi).symm) hW hl (fun H locs ls hW => ?_)
  refine xforget ?_
  exact W.zret F.1 F.2.1 hr0 rfl (fun t ht _ => ⟨⟨1, M2, rfl, ⟨rfl, d4, y3⟩, md2 M2 t.heap (by rw [ht]; exact hW.1)⟩, ⟨by rw [ht]; exact hW.2.1, fun q h1 h2 => by rw [ht]; exact hW.2.2.1 q h1 (fun z => h2 (aa2 q h1 z))⟩⟩) (fun q hq => by
    obtain ⟨h1, h2⟩ := List.mem_filter.mp hq
    exact aa2 q.base (of_decide_eq_true h2) (hW.2.2.2 q h1)) dL_isTick_1406 hlk