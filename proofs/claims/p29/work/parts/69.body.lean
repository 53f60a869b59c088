/-! the law's body, stretch by stretch -/
theorem c19 {k k2 : Nat} {v : Int32} (h : v = (if nI k = 0 then 0 else nI k2)) (hk : k < 3) (hk2 : k2 < 20) : ∃ z, z ≤ 500 ∧ v = nI z := by
  rw [h]
  by_cases q : k = 0
  · rw [if_pos (by rw [q]; rfl)]
    exact ⟨0, by omega, rfl⟩
  · rw [if_neg (nI_ne0 (by omega) (by omega))]
    exact ⟨k2, by omega, rfl⟩
theorem a_line2 {b n t d g x y : Nat} {zv lv : Int32} {μ : Mu} (h : JJ b n t d g μ) (hb : b < 900) (hn : n < 12) (hx : x ≤ 15) (hy : 0 < y ∧ y ≤ 50) (hz : ∃ z, z ≤ 500 ∧ zv = nI z) (hlv : Z1 lv) : (p_X6_line μ (nI x) (nI y) zv lv).1 = nI n ∧ JJ (b + 1) (n + 1) t d g (p_X6_line μ (nI x) (nI y) zv lv).2 := by
  obtain ⟨z, z1, rfl⟩ := hz
  exact a_line h hb hn hx hy z1 hlv
set_option maxHeartbeats 4000000 in
set_option maxRecDepth 100000 in
theorem sl_W0 {p : Program} {l : Launch} {e : Env} {s : State} {m : MethodId} {below : List Frame} {meth : Method} {c : Code} {E : mE} {μ : Mu} {H : Heap} {locs : List Loc} {ls : Array Slot} {cells slots b L : Nat} {xs : Nat → Int32} {b9 n t d g : Nat} (F : CallFix p m c code 4 s #[.ref b] TB RL) (hT : Stat E s) (hX : va_X b L xs s s.heap) (hbl : b < s.heap.size) (hbA : ¬ AA E b) (hL : L ≤ 260) (hcs : cells ≤ 600000 ∧ slots ≤ 7302250) (hJ : JJ b9 n t d g μ) (hb9 : b9 < 800) (hW : Wd E s H locs μ) (hl : lv_has ls 4 [(0, .ref b), (1, .ref (ea E 11 0))])
    (kk : ∀ (μ' : Mu) (H : Heap) (locs : List Loc) (ls : Array Slot), (JJ (b9 + 4) n t d g μ') → Wd E s H locs μ' → lv_has ls 4 [(0, .ref b), (1, .ref (ea E 11 0)), (2, .int (nI (2 + ceN L xs 4 5))), (3, .int 0)] → W p l e room_1 s m #[.ref b] below meth c H locs cells slots (lw_Z below #[Value.ref b] s) (F0 m 72 ls [])) : W p l e room_1 s m #[.ref b] below meth c H locs cells slots (lw_Z below #[Value.ref b] s) (F0 m 8 ls []) := by
  refine lv_aload_n F.1 F.2.1 dL_law_8 rfl (lv_at hl 1 rfl) ?_
  refine lv_iconst (v := 0) F.1 F.2.1 dL_law_9 (by decide) ?_
  refine lv_aload_n F.1 F.2.1 dL_law_10 rfl (lv_at hl 0 rfl) ?_
  refine lv_iconst (v := 0) F.1 F.2.1 dL_law_11 (by decide) ?_
  refine lv_bipush (v := 8) F.1 F.2.1 dL_law_12 (by decide) ?_
  refine jcir (xrunS (As := [.ref b, .int 0, .int 8]) (rest := [.int 0, .ref (ea E 11 0)]) F hT hW hX hbl hbA yc_L_cell ys_L_cell ml_L_47 (c_L_cell l E μ hL hbA 0 (lI 0) 8 (lI 8) (by omega) (by omega)) rfl hl.1 ⟨Nat.le_of_ble_eq_true rfl, Nat.le_of_ble_eq_true rfl⟩ rfl (Nat.le_of_ble_eq_true rfl) hcs dL_law_14) hW (fun H locs hW => ?_)
  have hA1 := a_set (st := 0) (x := nI (ceN L xs 0 8)) hJ (by omega) (by decide) (by refine rg0 ?_; have := ceN_lt (L := L) (xs := xs) (k := 0) (n := 8) (by decide); omega)
  refine jciG (jrunV (As := [.int 0, .int (nI (ceN L xs 0 8))]) (rest := []) F hT hW yc_X6_set yv_X6_set ml_L_69 oH0 (by decide) rfl (c_X6_set l E μ 0 (nI (ceN L xs 0 8)) hJ.1) rfl hl.1 ⟨Nat.le_of_ble_eq_true rfl, Nat.le_of_ble_eq_true rfl⟩ rfl (Nat.le_of_ble_eq_true rfl) hcs dL_law_17) hW (fun x1 S2 H locs ex1 eS2 hW => ?_)
  have hJ1 : JJ (b9 + 1) n t d g S2 := by rw [eS2]; exact hA1.2.1
  refine lv_pop F.1 F.2.1 dL_law_20 rfl ?_
  refine lv_aload_n F.1 F.2.1 dL_law_21 rfl (lv_at hl 1 rfl) ?_
  refine lv_iconst (v := 1) F.1 F.2.1 dL_law_22 (by decide) ?_
  refine lv_bipush (v := 8) F.1 F.2.1 dL_law_23 (by decide) ?_
  refine lv_aload_n F.1 F.2.1 dL_law_25 rfl (lv_at hl 0 rfl) ?_
  refine lv_iconst (v := 1) F.1 F.2.1 dL_law_26 (by decide) ?_
  refine lv_bipush (v := 20) F.1 F.2.1 dL_law_27 (by decide) ?_
  refine jcir (xrunS (As := [.ref b, .int 1, .int 20]) (rest := [.int 8, .int 1, .ref (ea E 11 0)]) F hT hW hX hbl hbA yc_L_cell ys_L_cell ml_L_47 (c_L_cell l E S2 hL hbA 1 (lI 1) 20 (lI 20) (by omega) (by omega)) rfl hl.1 ⟨Nat.le_of_ble_eq_true rfl, Nat.le_of_ble_eq_true rfl⟩ rfl (Nat.le_of_ble_eq_true rfl) hcs dL_law_29) hW (fun H locs hW => ?_)
  refine lv_iadd F.1 F.2.1 dL_law_32 ?_
  rw [show 8 + (nI (ceN L xs 1 20)) = nI (8 + ceN L xs 1 20) from (ia (lI 8) rfl)]
  have hA2 := a_set (st := 1) (x := nI (8 + ceN L xs 1 20)) hJ1 (by omega) (by decide) (by refine ⟨nI_pos' ?_, nI_le (b := 31) ?_ (by decide)⟩ <;> (have := ceN_lt (L := L) (xs := xs) (k := 1) (n := 20) (by decide); omega))
  refine jciG (jrunV (As := [.int 1, .int (nI (8 + ceN L xs 1 20))]) (rest := []) F hT hW yc_X6_set yv_X6_set ml_L_69 oH0 (by decide) rfl (c_X6_set l E S2 1 (nI (8 + ceN L xs 1 20)) hJ1.1) rfl hl.1 ⟨Nat.le_of_ble_eq_true rfl, Nat.le_of_ble_eq_true rfl⟩ rfl (Nat.le_of_ble_eq_true rfl) hcs dL_law_33) hW (fun x3 S4 H locs ex3 eS4 hW => ?_)
  have hJ2 : JJ (b9 + 2) n t d g S4 := by rw [eS4]; exact hA2.2.1
  refine lv_pop F.1 F.2.1 dL_law_36 rfl ?_
  refine lv_aload_n F.1 F.2.1 dL_law_37 rfl (lv_at hl 1 rfl) ?_
  refine lv_iconst (v := 4) F.1 F.2.1 dL_law_38 (by decide) ?_
  refine lv_aload_n F.1 F.2.1 dL_law_39 rfl (lv_at hl 0 rfl) ?_
  refine lv_iconst (v := 2) F.1 F.2.1 dL_law_40 (by decide) ?_
  refine lv_iconst (v := 3) F.1 F.2.1 dL_law_41 (by decide) ?_
  refine jcir (xrunS (As := [.ref b, .int 2, .int 3]) (rest := [.int 4, .ref (ea E 11 0)]) F hT hW hX hbl hbA yc_L_cell ys_L_cell ml_L_47 (c_L_cell l E S4 hL hbA 2 (lI 2) 3 (lI 3) (by omega) (by omega)) rfl hl.1 ⟨Nat.le_of_ble_eq_true rfl, Nat.le_of_ble_eq_true rfl⟩ rfl (Nat.le_of_ble_eq_true rfl) hcs dL_law_42) hW (fun H locs hW => ?_)
  have hA3 := a_set (st := 4) (x := nI (ceN L xs 2 3)) hJ2 (by omega) (by decide) (by refine ⟨nI_pos' ?_, nI_le (b := 9) ?_ (by decide)⟩ <;> (have := ceN_lt (L := L) (xs := xs) (k := 2) (n := 3) (by decide); omega))
  refine jciG (jrunV (As := [.int 4, .int (nI (ceN L xs 2 3))]) (rest := []) F hT hW yc_X6_set yv_X6_set ml_L_69 oH0 (by decide) rfl (c_X6_set l E S4 4 (nI (ceN L xs 2 3)) hJ2.1) rfl hl.1 ⟨Nat.le_of_ble_eq_true rfl, Nat.le_of_ble_eq_true rfl⟩ rfl (Nat.le_of_ble_eq_true rfl) hcs dL_law_45) hW (fun x5 S6 H locs ex5 eS6 hW => ?_)
  have hJ3 : JJ (b9 + 3) n t d g S6 := by rw [eS6]; exact hA3.2.1
  refine lv_pop F.1 F.2.1 dL_law_48 rfl ?_
  refine lv_aload_n F.1 F.2.1 dL_law_49 rfl (lv_at hl 1 rfl) ?_
  refine lv_iconst (v := 5) F.1 F.2.1 dL_law_50 (by decide) ?_
  refine lv_aload_n F.1 F.2.1 dL_law_51 rfl (lv_at hl 0 rfl) ?_
  refine lv_iconst (v := 3) F.1 F.2.1 dL_law_52 (by decide) ?_
  refine lv_iconst (v := 2) F.1 F.2.1 dL_law_53 (by decide) ?_
  refine jcir (xrunS (As := [.ref b, .int 3, .int 2]) (rest := [.int 5, .ref (ea E 11 0)]) F hT hW hX hbl hbA yc_L_cell ys_L_cell ml_L_47 (c_L_cell l E S6 hL hbA 3 (lI 3) 2 (lI 2) (by omega) (by omega)) rfl hl.1 ⟨Nat.le_of_ble_eq_true rfl, Nat.le_of_ble_eq_true rfl⟩ rfl (Nat.le_of_ble_eq_true rfl) hcs dL_law_54) hW (fun H locs hW => ?_)
  have hA4 := a_set (st := 5) (x := nI (ceN L xs 3 2)) hJ3 (by omega) (by decide) (by refine ⟨nI_pos' ?_, nI_le (b := 1) ?_ (by decide)⟩ <;> (have := ceN_lt (L := L) (xs := xs) (k := 3) (n := 2) (by decide); omega))
  refine jciG (jrunV (As := [.int 5, .int (nI (ceN L xs 3 2))]) (rest := []) F hT hW yc_X6_set yv_X6_set ml_L_69 oH0 (by decide) rfl (c_X6_set l E S6 5 (nI (ceN L xs 3 2)) hJ3.1) rfl hl.1 ⟨Nat.le_of_ble_eq_true rfl, Nat.le_of_ble_eq_true rfl⟩ rfl (Nat.le_of_ble_eq_true rfl) hcs dL_law_57) hW (fun x7 S8 H locs ex7 eS8 hW => ?_)
  have hJ4 : JJ (b9 + 4) n t d g S8 := by rw [eS8]; exact hA4.2.1
  refine lv_pop F.1 F.2.1 dL_law_60 rfl ?_
  refine lv_iconst (v := 2) F.1 F.2.1 dL_law_61 (by decide) ?_
  refine lv_aload_n F.1 F.2.1 dL_law_62 rfl (lv_at hl 0 rfl) ?_
  refine lv_iconst (v := 4) F.1 F.2.1 dL_law_63 (by decide) ?_
  refine lv_iconst (v := 5) F.1 F.2.1 dL_law_64 (by decide) ?_
  refine jcir (xrunS (As := [.ref b, .int 4, .int 5]) (rest := [.int 2]) F hT hW hX hbl hbA yc_L_cell ys_L_cell ml_L_47 (c_L_cell l E S8 hL hbA 4 (lI 4) 5 (lI 5) (by omega) (by omega)) rfl hl.1 ⟨Nat.le_of_ble_eq_true rfl, Nat.le_of_ble_eq_true rfl⟩ rfl (Nat.le_of_ble_eq_true rfl) hcs dL_law_65) hW (fun H locs hW => ?_)
  refine lv_iadd F.1 F.2.1 dL_law_68 ?_
  rw [show 2 + (nI (ceN L xs 4 5)) = nI (2 + ceN L xs 4 5) from (ia (lI 2) rfl)]
  refine lv_istore_n (lv' := [(2, .int (nI (2 + ceN L xs 4 5))), (0, .ref b), (1, .ref (ea E 11 0))]) F.1 F.2.1 dL_law_69 rfl hl (by decide) rfl (fun ls hl => ?_)
  refine lv_iconst (v := 0) F.1 F.2.1 dL_law_70 (by decide) ?_
  refine lv_istore_n (lv' := [(3, .int 0), (2, .int (nI (2 + ceN L xs 4 5))), (0, .ref b), (1, .ref (ea E 11 0))]) F.1 F.2.1 dL_law_71 rfl hl (by decide) rfl (fun ls hl => ?_)
  have hkk := hJ4
  exact kk _ _ _ _ hkk hW (lv_sub hl [2, 3, 1, 0] rfl)
set_option maxHeartbeats 4000000 in
set_option maxRecDepth 100000 in
theorem sl_W1 {p : Program} {l : Launch} {e : Env} {s : State} {m : MethodId} {below : List Frame} {meth : Method} {c : Code} {E : mE} {μ : Mu} {H : Heap} {locs : List Loc} {ls : Array Slot} {cells slots b L : Nat} {xs : Nat → Int32} {b9 n t d g : Nat} {ln : Nat} (F : CallFix p m c code 4 s #[.ref b] TB RL) (hT : Stat E s) (hX : va_X b L xs s s.heap) (hbl : b < s.heap.size) (hbA : ¬ AA E b) (hL : L ≤ 260) (hcs : cells ≤ 600000 ∧ slots ≤ 7302250) (hJ : JJ b9 n t d g μ) (hb9 : b9 < 800) (hn12 : n < 12) (hW : Wd E s H locs μ) (hl : lv_has ls 4 [(0, .ref b), (1, .ref (ea E 11 0)), (2, .int (nI ln)), (3, .int (nI n))])
    (kk : ∀ (μ' : Mu) (H : Heap) (locs : List Loc) (ls : Array Slot), (JJ (b9 + 1) (n + 1) t d g μ') → Wd E s H locs μ' → lv_has ls 4 [(0, .ref b), (1, .ref (ea E 11 0)), (2, .int (nI ln)), (3, .int (nI n))] → W p l e room_1 s m #[.ref b] below meth c H locs cells slots (lw_Z below #[Value.ref b] s) (F0 m 143 ls [])) : W p l e room_1 s m #[.ref b] below meth c H locs cells slots (lw_Z below #[Value.ref b] s) (F0 m 77 ls []) := by
  refine lv_aload_n F.1 F.2.1 dL_law_77 rfl (lv_at hl 1 rfl) ?_
  refine lv_aload_n F.1 F.2.1 dL_law_78 rfl (lv_at hl 0 rfl) ?_
  refine lv_iconst (v := 5) F.1 F.2.1 dL_law_79 (by decide) ?_
  refine lv_iload_n F.1 F.2.1 dL_law_80 rfl (lv_at hl 3 rfl) ?_
  refine lv_iadd F.1 F.2.1 dL_law_81 ?_
  refine lv_bipush (v := 12) F.1 F.2.1 dL_law_82 (by decide) ?_
  refine jcir (xrunS (As := [.ref b, .int (5 + (nI n)), .int 12]) (rest := [.ref (ea E 11 0)]) F hT hW hX hbl hbA yc_L_cell ys_L_cell ml_L_47 (c_L_cell l E μ hL hbA (5 + (nI n)) (ia (lI 5) rfl) 12 (lI 12) (by omega) (by omega)) rfl hl.1 ⟨Nat.le_of_ble_eq_true rfl, Nat.le_of_ble_eq_true rfl⟩ rfl (Nat.le_of_ble_eq_true rfl) hcs dL_law_84) hW (fun H locs hW => ?_)
  refine lv_iconst (v := 1) F.1 F.2.1 dL_law_87 (by decide) ?_
  refine lv_aload_n F.1 F.2.1 dL_law_88 rfl (lv_at hl 0 rfl) ?_
  refine lv_bipush (v := 12) F.1 F.2.1 dL_law_89 (by decide) ?_
  refine lv_iload_n F.1 F.2.1 dL_law_91 rfl (lv_at hl 3 rfl) ?_
  refine lv_iadd F.1 F.2.1 dL_law_92 ?_
  refine lv_bipush (v := 6) F.1 F.2.1 dL_law_93 (by decide) ?_
  refine jcir (xrunS (As := [.ref b, .int (12 + (nI n)), .int 6]) (rest := [.int 1, .int (nI (ceN L xs (5 + n) 12)), .ref (ea E 11 0)]) F hT hW hX hbl hbA yc_L_cell ys_L_cell ml_L_47 (c_L_cell l E μ hL hbA (12 + (nI n)) (ia (lI 12) rfl) 6 (lI 6) (by omega) (by omega)) rfl hl.1 ⟨Nat.le_of_ble_eq_true rfl, Nat.le_of_ble_eq_true rfl⟩ rfl (Nat.le_of_ble_eq_true rfl) hcs dL_law_95) hW (fun H locs hW => ?_)
  refine lv_iadd F.1 F.2.1 dL_law_98 ?_
  rw [show 1 + (nI (ceN L xs (12 + n) 6)) = nI (1 + ceN L xs (12 + n) 6) from (ia (lI 1) rfl)]
  refine lv_aload_n F.1 F.2.1 dL_law_99 rfl (lv_at hl 0 rfl) ?_
  refine lv_bipush (v := 19) F.1 F.2.1 dL_law_100 (by decide) ?_
  refine lv_iload_n F.1 F.2.1 dL_law_102 rfl (lv_at hl 3 rfl) ?_
  refine lv_iadd F.1 F.2.1 dL_law_103 ?_
  refine lv_iconst (v := 3) F.1 F.2.1 dL_law_104 (by decide) ?_
  refine jcir (xrunS (As := [.ref b, .int (19 + (nI n)), .int 3]) (rest := [.int (nI (1 + ceN L xs (12 + n) 6)), .int (nI (ceN L xs (5 + n) 12)), .ref (ea E 11 0)]) F hT hW hX hbl hbA yc_L_cell ys_L_cell ml_L_47 (c_L_cell l E μ hL hbA (19 + (nI n)) (ia (lI 19) rfl) 3 (lI 3) (by omega) (by omega)) rfl hl.1 ⟨Nat.le_of_ble_eq_true rfl, Nat.le_of_ble_eq_true rfl⟩ rfl (Nat.le_of_ble_eq_true rfl) hcs dL_law_105) hW (fun H locs hW => ?_)
  have hJ3 : ∀ (v2 : Int32) (H : Heap) (locs : List Loc) (ls : Array Slot), v2 = (if (nI (ceN L xs (19 + n) 3)) = 0 then 0 else nI (ceN L xs (19 + n) 20)) → Wd E s H locs μ → lv_has ls 4 [(0, .ref b), (1, .ref (ea E 11 0)), (2, .int (nI ln)), (3, .int (nI n))] → W p l e room_1 s m #[.ref b] below meth c H locs cells slots (lw_Z below #[Value.ref b] s) (F0 m 125 ls [.int v2, .int (nI (1 + ceN L xs (12 + n) 6)), .int (nI (ceN L xs (5 + n) 12)), .ref (ea E 11 0)]) := by
    intro v2 H locs ls ev2 hW hl
    refine lv_aload_n F.1 F.2.1 dL_law_125 rfl (lv_at hl 0 rfl) ?_
    refine lv_bipush (v := 26) F.1 F.2.1 dL_law_126 (by decide) ?_
    refine lv_iload_n F.1 F.2.1 dL_law_128 rfl (lv_at hl 3 rfl) ?_
    refine lv_iadd F.1 F.2.1 dL_law_129 ?_
    refine lv_iconst (v := 2) F.1 F.2.1 dL_law_130 (by decide) ?_
    refine jcir (xrunS (As := [.ref b, .int (26 + (nI n)), .int 2]) (rest := [.int v2, .int (nI (1 + ceN L xs (12 + n) 6)), .int (nI (ceN L xs (5 + n) 12)), .ref (ea E 11 0)]) F hT hW hX hbl hbA yc_L_cell ys_L_cell ml_L_47 (c_L_cell l E μ hL hbA (26 + (nI n)) (ia (lI 26) rfl) 2 (lI 2) (by omega) (by omega)) rfl hl.1 ⟨Nat.le_of_ble_eq_true rfl, Nat.le_of_ble_eq_true rfl⟩ rfl (Nat.le_of_ble_eq_true rfl) hcs dL_law_131) hW (fun H locs hW => ?_)
    have hA := a_line2 (x := ceN L xs (5 + n) 12) (y := 1 + ceN L xs (12 + n) 6) hJ (by omega) hn12 (by have := ceN_lt (L := L) (xs := xs) (k := 5 + n) (n := 12) (by decide); omega) (by have := ceN_lt (L := L) (xs := xs) (k := 12 + n) (n := 6) (by decide); omega) (c19 ev2 (ceN_lt (by decide)) (ceN_lt (by decide))) (z1_lt (ceN_lt (L := L) (xs := xs) (k := 26 + n) (n := 2) (by decide)))
    refine jciG (jrunV (As := [.int (nI (ceN L xs (5 + n) 12)), .int (nI (1 + ceN L xs (12 + n) 6)), .int v2, .int (nI (ceN L xs (26 + n) 2))]) (rest := []) F hT hW yc_X6_line yv_X6_line ml_L_80 oH0 (by decide) rfl (c_X6_line l E μ (nI (ceN L xs (5 + n) 12)) (nI (1 + ceN L xs (12 + n) 6)) v2 (nI (ceN L xs (26 + n) 2)) hJ.1) rfl hl.1 ⟨Nat.le_of_ble_eq_true rfl, Nat.le_of_ble_eq_true rfl⟩ rfl (Nat.le_of_ble_eq_true rfl) hcs dL_law_134) hW (fun x4 S5 H locs ex4 eS5 hW => ?_)
    refine lv_iload_n F.1 F.2.1 dL_law_137 rfl (lv_at hl 3 rfl) ?_
    refine lv_icmp_eq (tgt := 143) F.1 F.2.1 dL_law_138 (by decide) (fun h6 => ?_) (fun h6 => ?_)
    · have hkk : JJ (b9 + 1) (n + 1) t d g S5 := by rw [eS5]; exact hA.2
      exact kk _ _ _ _ hkk hW (lv_sub hl [0, 1, 2, 3] rfl)
    · exact absurd (ex4.trans hA.1) h6
  refine lv_if_ne (tgt := 115) F.1 F.2.1 dL_law_108 (by decide) (fun h1 => ?_) (fun h1 => ?_)
  · refine lv_aload_n F.1 F.2.1 dL_law_115 rfl (lv_at hl 0 rfl) ?_
    refine lv_bipush (v := 19) F.1 F.2.1 dL_law_116 (by decide) ?_
    refine lv_iload_n F.1 F.2.1 dL_law_118 rfl (lv_at hl 3 rfl) ?_
    refine lv_iadd F.1 F.2.1 dL_law_119 ?_
    refine lv_bipush (v := 20) F.1 F.2.1 dL_law_120 (by decide) ?_
    refine jcir (xrunS (As := [.ref b, .int (19 + (nI n)), .int 20]) (rest := [.int (nI (1 + ceN L xs (12 + n) 6)), .int (nI (ceN L xs (5 + n) 12)), .ref (ea E 11 0)]) F hT hW hX hbl hbA yc_L_cell ys_L_cell ml_L_47 (c_L_cell l E μ hL hbA (19 + (nI n)) (ia (lI 19) rfl) 20 (lI 20) (by omega) (by omega)) rfl hl.1 ⟨Nat.le_of_ble_eq_true rfl, Nat.le_of_ble_eq_true rfl⟩ rfl (Nat.le_of_ble_eq_true rfl) hcs dL_law_122) hW (fun H locs hW => ?_)
    exact hJ3 _ _ _ _ (if_neg h1).symm hW (lv_sub hl [0, 1, 2, 3] rfl)
  · refine lv_iconst (v := 0) F.1 F.2.1 dL_law_111 (by decide) ?_
    refine lv_goto (tgt := 125) F.1 F.2.1 dL_law_112 (by decide) ?_
    exact hJ3 _ _ _ _ (if_pos h1).symm hW (lv_sub hl [0, 1, 2, 3] rfl)
set_option maxHeartbeats 4000000 in
set_option maxRecDepth 100000 in
theorem sl_W2 {p : Program} {l : Launch} {e : Env} {s : State} {m : MethodId} {below : List Frame} {meth : Method} {c : Code} {E : mE} {μ : Mu} {H : Heap} {locs : List Loc} {ls : Array Slot} {cells slots b L : Nat} {xs : Nat → Int32} {b9 n t d g : Nat} {k : Nat} (F : CallFix p m c code 4 s #[.ref b] TB RL) (hT : Stat E s) (hX : va_X b L xs s s.heap) (hbl : b < s.heap.size) (hbA : ¬ AA E b) (hL : L ≤ 260) (hcs : cells ≤ 600000 ∧ slots ≤ 7302250) (hJ : JJ b9 n t d g μ) (hb9 : b9 < 800) (hn0 : 0 < n) (hn12 : n ≤ 12) (hk : k < 3) (hW : Wd E s H locs μ) (hl : lv_has ls 4 [(0, .ref b), (1, .ref (ea E 11 0)), (2, .int (nI n)), (3, .int (nI k))])
    (kk : ∀ (μ' : Mu) (H : Heap) (locs : List Loc) (ls : Array Slot), (∃ t', JJ (b9 + 1) n t' d g μ') → Wd E s H locs μ' → lv_has ls 4 [(0, .ref b), (1, .ref (ea E 11 0)), (2, .int (nI n)), (3, .int (nI k))] → W p l e room_1 s m #[.ref b] below meth c H locs cells slots (lw_Z below #[Value.ref b] s) (F0 m 196 ls [])) : W p l e room_1 s m #[.ref b] below meth c H locs cells slots (lw_Z below #[Value.ref b] s) (F0 m 156 ls []) := by
  refine lv_aload_n F.1 F.2.1 dL_law_156 rfl (lv_at hl 1 rfl) ?_
  refine lv_aload_n F.1 F.2.1 dL_law_157 rfl (lv_at hl 0 rfl) ?_
  refine lv_bipush (v := 33) F.1 F.2.1 dL_law_158 (by decide) ?_
  refine lv_iload_n F.1 F.2.1 dL_law_160 rfl (lv_at hl 3 rfl) ?_
  refine lv_iadd F.1 F.2.1 dL_law_161 ?_
  refine lv_iload_n F.1 F.2.1 dL_law_162 rfl (lv_at hl 2 rfl) ?_
  refine jcir (xrunS (As := [.ref b, .int (33 + (nI k)), .int (nI n)]) (rest := [.ref (ea E 11 0)]) F hT hW hX hbl hbA yc_L_cell ys_L_cell ml_L_47 (c_L_cell l E μ hL hbA (33 + (nI k)) (ia (lI 33) rfl) (nI n) rfl (by omega) ⟨hn0, by omega⟩) rfl hl.1 ⟨Nat.le_of_ble_eq_true rfl, Nat.le_of_ble_eq_true rfl⟩ rfl (Nat.le_of_ble_eq_true rfl) hcs dL_law_163) hW (fun H locs hW => ?_)
  refine lv_iconst (v := 2) F.1 F.2.1 dL_law_166 (by decide) ?_
  refine lv_aload_n F.1 F.2.1 dL_law_167 rfl (lv_at hl 0 rfl) ?_
  refine lv_bipush (v := 36) F.1 F.2.1 dL_law_168 (by decide) ?_
  refine lv_iload_n F.1 F.2.1 dL_law_170 rfl (lv_at hl 3 rfl) ?_
  refine lv_iadd F.1 F.2.1 dL_law_171 ?_
  refine lv_bipush (v := 12) F.1 F.2.1 dL_law_172 (by decide) ?_
  refine jcir (xrunS (As := [.ref b, .int (36 + (nI k)), .int 12]) (rest := [.int 2, .int (nI (ceN L xs (33 + k) n)), .ref (ea E 11 0)]) F hT hW hX hbl hbA yc_L_cell ys_L_cell ml_L_47 (c_L_cell l E μ hL hbA (36 + (nI k)) (ia (lI 36) rfl) 12 (lI 12) (by omega) (by omega)) rfl hl.1 ⟨Nat.le_of_ble_eq_true rfl, Nat.le_of_ble_eq_true rfl⟩ rfl (Nat.le_of_ble_eq_true rfl) hcs dL_law_174) hW (fun H locs hW => ?_)
  refine lv_iadd F.1 F.2.1 dL_law_177 ?_
  rw [show 2 + (nI (ceN L xs (36 + k) 12)) = nI (2 + ceN L xs (36 + k) 12) from (ia (lI 2) rfl)]
  refine lv_aload_n F.1 F.2.1 dL_law_178 rfl (lv_at hl 0 rfl) ?_
  refine lv_bipush (v := 39) F.1 F.2.1 dL_law_179 (by decide) ?_
  refine lv_iload_n F.1 F.2.1 dL_law_181 rfl (lv_at hl 3 rfl) ?_
  refine lv_iadd F.1 F.2.1 dL_law_182 ?_
  refine lv_bipush (v := 8) F.1 F.2.1 dL_law_183 (by decide) ?_
  refine jcir (xrunS (As := [.ref b, .int (39 + (nI k)), .int 8]) (rest := [.int (nI (2 + ceN L xs (36 + k) 12)), .int (nI (ceN L xs (33 + k) n)), .ref (ea E 11 0)]) F hT hW hX hbl hbA yc_L_cell ys_L_cell ml_L_47 (c_L_cell l E μ hL hbA (39 + (nI k)) (ia (lI 39) rfl) 8 (lI 8) (by omega) (by omega)) rfl hl.1 ⟨Nat.le_of_ble_eq_true rfl, Nat.le_of_ble_eq_true rfl⟩ rfl (Nat.le_of_ble_eq_true rfl) hcs dL_law_185) hW (fun H locs hW => ?_)
  have hA := a_timer (p := 2 + ceN L xs (36 + k) 12) (f := ceN L xs (39 + k) 8) hJ (by omega) (ceN_lt (L := L) (xs := xs) (k := 33 + k) (n := n) hn0) (by have := ceN_lt (L := L) (xs := xs) (k := 36 + k) (n := 12) (by decide); omega) (by have := ceN_lt (L := L) (xs := xs) (k := 39 + k) (n := 8) (by decide); omega)
  refine jciG (jrunS (As := [.ref (ea E 11 0), .int (nI (ceN L xs (33 + k) n)), .int (nI (2 + ceN L xs (36 + k) 12)), .int (nI (ceN L xs (39 + k) 8))]) (rest := []) F hT hW yc_L_isTimer ys_L_isTimer ml_L_62 (c_L_isTimer l E μ (nI (ceN L xs (33 + k) n)) (nI (2 + ceN L xs (36 + k) 12)) (nI (ceN L xs (39 + k) 8)) hJ.1 hA.2.2.choose_spec.1) rfl hl.1 ⟨Nat.le_of_ble_eq_true rfl, Nat.le_of_ble_eq_true rfl⟩ rfl (Nat.le_of_ble_eq_true rfl) hcs dL_law_188) hW (fun x1 S2 H locs ex1 eS2 hW => ?_)
  refine lv_if_ne (tgt := 196) F.1 F.2.1 dL_law_191 (by decide) (fun h3 => ?_) (fun h3 => ?_)
  · obtain ⟨t7, hj7⟩ := hA.2.2
    have hkk : ∃ t', JJ (b9 + 1) n t' d g S2 := ⟨t7, by rw [eS2, hA.2.1]; exact hj7⟩
    exact kk _ _ _ _ hkk hW (lv_sub hl [0, 1, 2, 3] rfl)
  · exact absurd h3 (by rw [ex1, hA.1]; decide)
