/-! the law's loop -/
theorem gt_no {L i : Nat} (hL : L ≤ 2560) (hi : i ≤ 5000) : (¬ (nI L - 5) < nI i) → i + 5 ≤ L := by
  intro h
  have h1 : (nI L - 5).toInt = (L : Int) - 5 := pk_sub_toInt (b := 5) (by omega) (by omega)
  have h2 : (nI i).toInt = (i : Int) := nI_toInt (by omega)
  rw [Int32.lt_iff_toInt_lt, h1, h2] at h
  omega
set_option maxHeartbeats 4000000 in
set_option maxRecDepth 100000 in
theorem law_loop {p : Program} {l : Launch} {e : Env} {s : State} {m : MethodId} {below : List Frame} {meth : Method} {c : Code} {b L : Nat} {xs : Nat → Int32} {E : mE} (F : CallFix p m c code 4 s #[.ref b] TB RL) (hT : Stat E s) (hX : va_X b L xs s s.heap) (hbl : b < s.heap.size) (hbA : ¬ AA E b) (hL : L ≤ 2560) (hr : meth.sig.returnType = ret) (hlk : meth.locks = false) (hA : ∀ q, AA E q → s.heap.size ≤ q) :
    ∀ (n i g : Nat) (μ : Mu) (H : Heap) (locs : List Loc) (ls : Array Slot), L ≤ i + 5 * n → i ≤ 3000 → g + 28000 * (n + 1) < 2 ^ 29 → Wd E s H locs μ → Iv g μ (μ 13) → lv_has ls 4 (LLw E b i) → W p l e room_1 s m #[.ref b] below meth c H locs 356 6383 (lw_Z below #[Value.ref b] s) (F0 m 18 ls []) := by
  intro n
  induction n with
  | zero =>
    intro i g μ H locs ls hn hi3 hg hW hI hl
    refine lv_iload_n F.1 F.2.1 dL_law_18 rfl (lv_at hl 0 rfl) ?_
    refine lv_aload_n F.1 F.2.1 dL_law_19 rfl (lv_at hl 3 rfl) ?_
    refine va_slen F.1 F.2.1 hX hbl hbA hW.2 dL_law_20 ?_
    refine lv_iconst (v := 5) F.1 F.2.1 dL_law_21 (by decide) ?_
    refine lv_isub F.1 F.2.1 dL_law_22 ?_
    refine lv_icmp_gt (tgt := 886) F.1 F.2.1 dL_law_23 (by decide) (fun _ => ?_) (fun h => absurd (gt_no hL (by omega) h) (by omega))
    refine lv_iconst (v := 1) F.1 F.2.1 dL_law_886 (by decide) ?_
    refine va_forget (fun q hq => hA _ (hW.2.2.2 q hq)) ?_
    refine W.widen (k := 600000) (n := 7302250) (Nat.le_of_ble_eq_true rfl) (Nat.le_of_ble_eq_true rfl) ?_
    exact lw_ret F.1 F.2.1 hr hlk dL_law_887
  | succ n ih =>
    intro i g μ H locs ls hn hi3 hg hW hI hl
    refine lv_iload_n F.1 F.2.1 dL_law_18 rfl (lv_at hl 0 rfl) ?_
    refine lv_aload_n F.1 F.2.1 dL_law_19 rfl (lv_at hl 3 rfl) ?_
    refine va_slen F.1 F.2.1 hX hbl hbA hW.2 dL_law_20 ?_
    refine lv_iconst (v := 5) F.1 F.2.1 dL_law_21 (by decide) ?_
    refine lv_isub F.1 F.2.1 dL_law_22 ?_
    refine lv_icmp_gt (tgt := 886) F.1 F.2.1 dL_law_23 (by decide) (fun _ => ?_) (fun h => ?_)
    · refine lv_iconst (v := 1) F.1 F.2.1 dL_law_886 (by decide) ?_
      refine va_forget (fun q hq => hA _ (hW.2.2.2 q hq)) ?_
      refine W.widen (k := 600000) (n := 7302250) (Nat.le_of_ble_eq_true rfl) (Nat.le_of_ble_eq_true rfl) ?_
      exact lw_ret F.1 F.2.1 hr hlk dL_law_887
    · have hi := gt_no hL (by omega) h
      have tail : ∀ (μ' : Mu) (H : Heap) (locs : List Loc), Iv (g + 28000) μ' (μ' 13) → Wd E s H locs μ' → W p l e room_1 s m #[.ref b] below meth c H locs 356 6383 (lw_Z below #[Value.ref b] s) (F0 m 880 ls []) := by
        intro μ' H locs hI hW
        refine lv_iinc (v := nI (i + 5)) (lv' := LLw E b (i + 5)) F.1 F.2.1 dL_law_880 hl (k := 0) rfl (nI_add i 5) (by decide) rfl (fun ls hl => ?_)
        refine lv_goto (tgt := 18) F.1 F.2.1 dL_law_883 (by decide) ?_
        exact ih (i + 5) (g + 28000) μ' H locs ls (by omega) (by omega) (by omega) hW hI hl
      refine lv_aload_n F.1 F.2.1 dL_law_26 rfl (lv_at hl 3 rfl) ?_
      refine lv_iload_n F.1 F.2.1 dL_law_27 rfl (lv_at hl 0 rfl) ?_
      refine va_sld F.1 F.2.1 hX hbl hbA hW.2 (vpk0 hi hL) dL_law_28 ?_
      refine lv_bipush (v := 31) F.1 F.2.1 dL_law_29 (by decide) ?_
      refine lv_iand F.1 F.2.1 dL_law_31 ?_
      obtain ⟨j, hj, ej⟩ := pk_andE (xs (nI i).toNatClampNeg) (m := 31) 5 (by decide)
      rw [ej]
      clear ej
      have hg1 : g + 28000 < 2 ^ 29 := by omega
      match j, hj with
      | 0, _ => exact lv_tableIn (off := 120) (tgt := 152) F.1 F.2.1 dL_law_32 (by decide) (by decide) (by decide) (by decide) (law_c0 F hT hX hbl hbA hL hi hW hI hg1 hl tail)
      | 1, _ => exact lv_tableIn (off := 153) (tgt := 185) F.1 F.2.1 dL_law_32 (by decide) (by decide) (by decide) (by decide) (law_c1 F hT hX hbl hbA hL hi hW hI hg1 hl tail)
      | 2, _ => exact lv_tableIn (off := 206) (tgt := 238) F.1 F.2.1 dL_law_32 (by decide) (by decide) (by decide) (by decide) (law_c2 F hT hX hbl hbA hL hi hW hI hg1 hl tail)
      | 3, _ => exact lv_tableIn (off := 249) (tgt := 281) F.1 F.2.1 dL_law_32 (by decide) (by decide) (by decide) (by decide) (law_c3 F hT hX hbl hbA hL hi hW hI hg1 hl tail)
      | 4, _ => exact lv_tableIn (off := 272) (tgt := 304) F.1 F.2.1 dL_law_32 (by decide) (by decide) (by decide) (by decide) (law_c4 F hT hX hbl hbA hL hi hW hI hg1 hl tail)
      | 5, _ => exact lv_tableIn (off := 295) (tgt := 327) F.1 F.2.1 dL_law_32 (by decide) (by decide) (by decide) (by decide) (law_c5 F hT hX hbl hbA hL hi hW hI hg1 hl tail)
      | 6, _ => exact lv_tableIn (off := 338) (tgt := 370) F.1 F.2.1 dL_law_32 (by decide) (by decide) (by decide) (by decide) (law_c6 F hT hX hbl hbA hL hi hW hI hg1 hl tail)
      | 7, _ => exact lv_tableIn (off := 371) (tgt := 403) F.1 F.2.1 dL_law_32 (by decide) (by decide) (by decide) (by decide) (law_c7 F hT hX hbl hbA hL hi hW hI hg1 hl tail)
      | 8, _ => exact lv_tableIn (off := 424) (tgt := 456) F.1 F.2.1 dL_law_32 (by decide) (by decide) (by decide) (by decide) (law_c8 F hT hX hbl hbA hL hi hW hI hg1 hl tail)
      | 9, _ => exact lv_tableIn (off := 447) (tgt := 479) F.1 F.2.1 dL_law_32 (by decide) (by decide) (by decide) (by decide) (law_c9 F hT hX hbl hbA hL hi hW hI hg1 hl tail)
      | 10, _ => exact lv_tableIn (off := 480) (tgt := 512) F.1 F.2.1 dL_law_32 (by decide) (by decide) (by decide) (by decide) (law_c10 F hT hX hbl hbA hL hi hW hI hg1 hl tail)
      | 11, _ => exact lv_tableIn (off := 513) (tgt := 545) F.1 F.2.1 dL_law_32 (by decide) (by decide) (by decide) (by decide) (law_c11 F hT hX hbl hbA hL hi hW hI hg1 hl tail)
      | 12, _ => exact lv_tableIn (off := 546) (tgt := 578) F.1 F.2.1 dL_law_32 (by decide) (by decide) (by decide) (by decide) (law_c12 F hT hX hbl hbA hL hi hW hI hg1 hl tail)
      | 13, _ => exact lv_tableIn (off := 569) (tgt := 601) F.1 F.2.1 dL_law_32 (by decide) (by decide) (by decide) (by decide) (law_c13 F hT hX hbl hbA hL hi hW hI hg1 hl tail)
      | 14, _ => exact lv_tableIn (off := 592) (tgt := 624) F.1 F.2.1 dL_law_32 (by decide) (by decide) (by decide) (by decide) (law_c14 F hT hX hbl hbA hL hi hW hI hg1 hl tail)
      | 15, _ => exact lv_tableIn (off := 605) (tgt := 637) F.1 F.2.1 dL_law_32 (by decide) (by decide) (by decide) (by decide) (law_c15 F hT hX hbl hbA hL hi hW hI hg1 hl tail)
      | 16, _ => exact lv_tableIn (off := 628) (tgt := 660) F.1 F.2.1 dL_law_32 (by decide) (by decide) (by decide) (by decide) (law_c16 F hT hX hbl hbA hL hi hW hI hg1 hl tail)
      | 17, _ => exact lv_tableIn (off := 661) (tgt := 693) F.1 F.2.1 dL_law_32 (by decide) (by decide) (by decide) (by decide) (law_c17 F hT hX hbl hbA hL hi hW hI hg1 hl tail)
      | 18, _ => exact lv_tableIn (off := 684) (tgt := 716) F.1 F.2.1 dL_law_32 (by decide) (by decide) (by decide) (by decide) (law_c18 F hT hX hbl hbA hL hi hW hI hg1 hl tail)
      | 19, _ => exact lv_tableIn (off := 697) (tgt := 729) F.1 F.2.1 dL_law_32 (by decide) (by decide) (by decide) (by decide) (law_c19 F hT hX hbl hbA hL hi hW hI hg1 hl tail)
      | 20, _ => exact lv_tableIn (off := 750) (tgt := 782) F.1 F.2.1 dL_law_32 (by decide) (by decide) (by decide) (by decide) (law_c20 F hT hX hbl hbA hL hi hW hI hg1 hl tail)
      | 21, _ => exact lv_tableIn (off := 763) (tgt := 795) F.1 F.2.1 dL_law_32 (by decide) (by decide) (by decide) (by decide) (law_c21 F hT hX hbl hbA hL hi hW hI hg1 hl tail)
      | 22, _ => exact lv_tableIn (off := 776) (tgt := 808) F.1 F.2.1 dL_law_32 (by decide) (by decide) (by decide) (by decide) (law_c22 F hT hX hbl hbA hL hi hW hI hg1 hl tail)
      | 23, _ => exact lv_tableIn (off := 789) (tgt := 821) F.1 F.2.1 dL_law_32 (by decide) (by decide) (by decide) (by decide) (law_c23 F hT hX hbl hbA hL hi hW hI hg1 hl tail)
      | 24, _ => exact lv_tableIn (off := 802) (tgt := 834) F.1 F.2.1 dL_law_32 (by decide) (by decide) (by decide) (by decide) (law_c24 F hT hX hbl hbA hL hi hW hI hg1 hl tail)
      | 25, _ => exact lv_tableIn (off := 825) (tgt := 857) F.1 F.2.1 dL_law_32 (by decide) (by decide) (by decide) (by decide) (law_c25 F hT hX hbl hbA hL hi hW hI hg1 hl tail)
      | 26, _ => exact lv_tableOut (tgt := 880) F.1 F.2.1 dL_law_32 (by decide) (by decide) (tail μ H locs (hI.mono (by omega)) hW)
      | 27, _ => exact lv_tableOut (tgt := 880) F.1 F.2.1 dL_law_32 (by decide) (by decide) (tail μ H locs (hI.mono (by omega)) hW)
      | 28, _ => exact lv_tableOut (tgt := 880) F.1 F.2.1 dL_law_32 (by decide) (by decide) (tail μ H locs (hI.mono (by omega)) hW)
      | 29, _ => exact lv_tableOut (tgt := 880) F.1 F.2.1 dL_law_32 (by decide) (by decide) (tail μ H locs (hI.mono (by omega)) hW)
      | 30, _ => exact lv_tableOut (tgt := 880) F.1 F.2.1 dL_law_32 (by decide) (by decide) (tail μ H locs (hI.mono (by omega)) hW)
      | 31, _ => exact lv_tableOut (tgt := 880) F.1 F.2.1 dL_law_32 (by decide) (by decide) (tail μ H locs (hI.mono (by omega)) hW)
      | j + 32, hj => exact absurd hj (by omega)
