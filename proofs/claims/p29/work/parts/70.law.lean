/-! the law, whole -/
theorem cl_L_9 : Cond.classLink RL 9 RX6 ∈ TB := tb_in 9 (by decide +kernel) rfl
section LOOPS
variable {p : Program} {l : Launch} {e : Env} {s : State} {m : MethodId} {below : List Frame} {meth : Method} {c : Code} {E : mE} {b L : Nat} {xs : Nat → Int32} {cells slots : Nat}
set_option maxHeartbeats 4000000 in
set_option maxRecDepth 100000 in
theorem law_l1 (F : CallFix p m c code 4 s #[.ref b] TB RL) (hT : Stat E s) (hX : va_X b L xs s s.heap) (hbl : b < s.heap.size) (hbA : ¬ AA E b) (hL : L ≤ 260) (hcs : cells ≤ 600000 ∧ slots ≤ 7302250) {b0 t d g ln : Nat} (hb0 : b0 ≤ 100) (hln : ln ≤ 12)
    (kk : ∀ (μ : Mu) (H : Heap) (locs : List Loc) (ls : Array Slot), JJ (b0 + ln) ln t d g μ → Wd E s H locs μ → lv_has ls 4 [(3, .int (nI ln)), (2, .int (nI ln)), (0, .ref b), (1, .ref (ea E 11 0))] → W p l e room_1 s m #[.ref b] below meth c H locs cells slots (lw_Z below #[Value.ref b] s) (F0 m 149 ls [])) :
    ∀ (fu n : Nat) (μ : Mu) (H : Heap) (locs : List Loc) (ls : Array Slot), n + fu = ln → JJ (b0 + n) n t d g μ → Wd E s H locs μ → lv_has ls 4 [(3, .int (nI n)), (2, .int (nI ln)), (0, .ref b), (1, .ref (ea E 11 0))] → W p l e room_1 s m #[.ref b] below meth c H locs cells slots (lw_Z below #[Value.ref b] s) (F0 m 72 ls []) := by
  intro fu
  induction fu with
  | zero =>
    intro n μ H locs ls hn hJ hW hl
    obtain rfl : n = ln := by omega
    refine lv_iload_n F.1 F.2.1 dL_law_72 rfl (lv_at hl 0 rfl) ?_
    refine lv_iload_n F.1 F.2.1 dL_law_73 rfl (lv_at hl 1 rfl) ?_
    refine lv_icmp_ge (tgt := 149) F.1 F.2.1 dL_law_74 (by decide) (fun _ => ?_) (fun h => absurd (Int32.le_refl _) h)
    exact kk μ H locs ls hJ hW hl
  | succ fu ih =>
    intro n μ H locs ls hn hJ hW hl
    refine lv_iload_n F.1 F.2.1 dL_law_72 rfl (lv_at hl 0 rfl) ?_
    refine lv_iload_n F.1 F.2.1 dL_law_73 rfl (lv_at hl 1 rfl) ?_
    refine lv_icmp_ge (tgt := 149) F.1 F.2.1 dL_law_74 (by decide) (fun h => absurd h (nI_ge (by omega) (by omega))) (fun _ => ?_)
    refine sl_W1 F hT hX hbl hbA hL hcs hJ (by omega) (by omega) hW (lv_sub hl [2, 3, 1, 0] rfl) (fun μ' H locs ls hJ' hW hl => ?_)
    refine lv_iinc (v := nI (n + 1)) (lv' := [(3, .int (nI (n + 1))), (0, .ref b), (1, .ref (ea E 11 0)), (2, .int (nI ln))]) F.1 F.2.1 dL_law_143 hl (k := 3) rfl (ia rfl rfl) (by decide) rfl (fun ls hl => ?_)
    refine lv_goto (tgt := 72) F.1 F.2.1 dL_law_146 (by decide) ?_
    exact ih (n + 1) μ' H locs ls (by omega) hJ' hW (lv_sub hl [0, 3, 1, 2] rfl)
set_option maxHeartbeats 4000000 in
set_option maxRecDepth 100000 in
theorem law_l2 (F : CallFix p m c code 4 s #[.ref b] TB RL) (hT : Stat E s) (hX : va_X b L xs s s.heap) (hbl : b < s.heap.size) (hbA : ¬ AA E b) (hL : L ≤ 260) (hcs : cells ≤ 600000 ∧ slots ≤ 7302250) {b0 n d g : Nat} (hb0 : b0 ≤ 200) (hn0 : 0 < n) (hn12 : n ≤ 12)
    (kk : ∀ (t : Nat) (μ : Mu) (H : Heap) (locs : List Loc) (ls : Array Slot), JJ (b0 + 3) n t d g μ → Wd E s H locs μ → lv_has ls 4 [(3, .int (nI 3)), (2, .int (nI n)), (0, .ref b), (1, .ref (ea E 11 0))] → W p l e room_1 s m #[.ref b] below meth c H locs cells slots (lw_Z below #[Value.ref b] s) (F0 m 202 ls [])) :
    ∀ (fu k t : Nat) (μ : Mu) (H : Heap) (locs : List Loc) (ls : Array Slot), k + fu = 3 → JJ (b0 + k) n t d g μ → Wd E s H locs μ → lv_has ls 4 [(3, .int (nI k)), (2, .int (nI n)), (0, .ref b), (1, .ref (ea E 11 0))] → W p l e room_1 s m #[.ref b] below meth c H locs cells slots (lw_Z below #[Value.ref b] s) (F0 m 151 ls []) := by
  intro fu
  induction fu with
  | zero =>
    intro k t μ H locs ls hk hJ hW hl
    obtain rfl : k = 3 := by omega
    refine lv_iload_n F.1 F.2.1 dL_law_151 rfl (lv_at hl 0 rfl) ?_
    refine lv_iconst (v := 3) F.1 F.2.1 dL_law_152 (by decide) ?_
    refine lv_icmp_ge (tgt := 202) F.1 F.2.1 dL_law_153 (by decide) (fun _ => ?_) (fun h => absurd (by decide) h)
    exact kk t μ H locs ls hJ hW hl
  | succ fu ih =>
    intro k t μ H locs ls hk hJ hW hl
    refine lv_iload_n F.1 F.2.1 dL_law_151 rfl (lv_at hl 0 rfl) ?_
    refine lv_iconst (v := 3) F.1 F.2.1 dL_law_152 (by decide) ?_
    refine lv_icmp_ge (tgt := 202) F.1 F.2.1 dL_law_153 (by decide) (fun h => absurd h (nI_ge (b := 3) (by omega) (by decide))) (fun _ => ?_)
    refine sl_W2 F hT hX hbl hbA hL hcs hJ (by omega) hn0 hn12 (by omega) hW (lv_sub hl [2, 3, 1, 0] rfl) (fun μ' H locs ls hJ' hW hl => ?_)
    obtain ⟨t', hJ'⟩ := hJ'
    refine lv_iinc (v := nI (k + 1)) (lv' := [(3, .int (nI (k + 1))), (0, .ref b), (1, .ref (ea E 11 0)), (2, .int (nI n))]) F.1 F.2.1 dL_law_196 hl (k := 3) rfl (ia rfl rfl) (by decide) rfl (fun ls hl => ?_)
    refine lv_goto (tgt := 151) F.1 F.2.1 dL_law_199 (by decide) ?_
    exact ih (k + 1) t' μ' H locs ls (by omega) hJ' hW (lv_sub hl [0, 3, 1, 2] rfl)
set_option maxHeartbeats 4000000 in
set_option maxRecDepth 100000 in
theorem law_l3 (F : CallFix p m c code 4 s #[.ref b] TB RL) (hT : Stat E s) (hX : va_X b L xs s s.heap) (hbl : b < s.heap.size) (hbA : ¬ AA E b) (hL : L ≤ 260) (hE0 : nlc E = 0) (hr : meth.sig.returnType = ret) (hlk : meth.locks = false) (hA : ∀ q, AA E q → s.heap.size ≤ q) {b0 n : Nat} (hb0 : b0 ≤ 300) (hn0 : 0 < n) (hn12 : n ≤ 12) :
    ∀ (fu k t d g : Nat) (μ : Mu) (H : Heap) (locs : List Loc) (ls : Array Slot), k + fu = 80 → JJ (b0 + k) n t d g μ → Wd E s H locs μ → lv_has ls 4 [(3, .int (nI k)), (2, .int (nI n)), (0, .ref b), (1, .ref (ea E 11 0))] → W p l e room_1 s m #[.ref b] below meth c H locs (400 + 16 * k) (8000 + 177 * k) (lw_Z below #[Value.ref b] s) (F0 m 204 ls []) := by
  intro fu
  induction fu with
  | zero =>
    intro k t d g μ H locs ls hk hJ hW hl
    obtain rfl : k = 80 := by omega
    refine lv_iload_n F.1 F.2.1 dL_law_204 rfl (lv_at hl 0 rfl) ?_
    refine lv_bipush (v := 80) F.1 F.2.1 dL_law_205 (by decide) ?_
    refine lv_icmp_ge (tgt := 239) F.1 F.2.1 dL_law_207 (by decide) (fun _ => ?_) (fun h => absurd (by decide) h)
    refine lv_iconst (v := 1) F.1 F.2.1 dL_law_239 (by decide) ?_
    refine va_forget (fun q hq => hA _ (hW.2.2.2 q hq)) ?_
    refine W.widen (k := 600000) (n := 7302250) (Nat.le_of_ble_eq_true rfl) (Nat.le_of_ble_eq_true rfl) ?_
    exact lw_ret F.1 F.2.1 hr hlk dL_law_240
  | succ fu ih =>
    intro k t d g μ H locs ls hk hJ hW hl
    have hc1 : 400 + 16 * k + 16 ≤ 600000 := by omega
    have hc2 : 8000 + 177 * k + 177 ≤ 7302250 := by omega
    refine lv_iload_n F.1 F.2.1 dL_law_204 rfl (lv_at hl 0 rfl) ?_
    refine lv_bipush (v := 80) F.1 F.2.1 dL_law_205 (by decide) ?_
    refine lv_icmp_ge (tgt := 239) F.1 F.2.1 dL_law_207 (by decide) (fun h => absurd h (nI_ge (b := 80) (by omega) (by decide))) (fun _ => ?_)
    refine lv_aload_n F.1 F.2.1 dL_law_210 rfl (lv_at hl 3 rfl) ?_
    refine lv_aload_n F.1 F.2.1 dL_law_211 rfl (lv_at hl 2 rfl) ?_
    refine lv_bipush (v := 42) F.1 F.2.1 dL_law_212 (by decide) ?_
    refine lv_iconst (v := 5) F.1 F.2.1 dL_law_214 (by decide) ?_
    refine lv_iload_n F.1 F.2.1 dL_law_215 rfl (lv_at hl 0 rfl) ?_
    refine lv_imul F.1 F.2.1 dL_law_216 ?_
    refine lv_iadd F.1 F.2.1 dL_law_217 ?_
    have e1 : (42 : Int32) + 5 * nI k = nI (42 + 5 * k) := ia (lI 42) (im (lI 5) rfl)
    rw [e1]
    refine jciT (xrunS (As := [.ref (ea E 11 0), .ref b, .int (nI (42 + 5 * k))]) (rest := []) F hT hW hX hbl hbA yc_L_isAct ys_L_isAct ml_L_83 (c_L_isAct l E μ hJ (by omega) hn0 hE0 hL hbA (by omega)) rfl hl.1 ⟨Nat.le_of_ble_eq_true rfl, Nat.le_of_ble_eq_true rfl⟩ rfl (Nat.le_of_ble_eq_true rfl) ⟨hc1, hc2⟩ dL_law_218) hW (fun x μ' H locs hP hW => ?_)
    obtain ⟨rfl, t', d', g', hJ'⟩ := hP
    refine lv_if_eq (tgt := 231) F.1 F.2.1 dL_law_221 (by decide) (fun h => absurd h (by decide)) (fun _ => ?_)
    refine lv_aload_n F.1 F.2.1 dL_law_224 rfl (lv_at hl 3 rfl) ?_
    refine jci (jrunS (As := [.ref (ea E 11 0)]) (rest := []) F hT hW yc_L_agree ys_L_agree ml_L_87 (c_agree1 l E μ' hJ'.1 hJ'.2) rfl hl.1 ⟨Nat.le_of_ble_eq_true rfl, Nat.le_of_ble_eq_true rfl⟩ rfl (Nat.le_of_ble_eq_true rfl) ⟨hc1, hc2⟩ dL_law_225) hW (fun x μ2 H locs hP hW => ?_)
    have hx1 := hP.1
    rw [hP.2] at hW
    subst hx1
    refine lv_if_ne (tgt := 233) F.1 F.2.1 dL_law_228 (by decide) (fun _ => ?_) (fun h => absurd h (by decide))
    refine lv_iinc (v := nI (k + 1)) (lv' := [(3, .int (nI (k + 1))), (2, .int (nI n)), (0, .ref b), (1, .ref (ea E 11 0))]) F.1 F.2.1 dL_law_233 hl (k := 0) rfl (ia rfl rfl) (by decide) rfl (fun ls hl => ?_)
    refine lv_goto (tgt := 204) F.1 F.2.1 dL_law_236 (by decide) ?_
    have e2 : 400 + 16 * k + 16 = 400 + 16 * (k + 1) := by omega
    have e3 : 8000 + 177 * k + 177 = 8000 + 177 * (k + 1) := by omega
    rw [e2, e3]
    exact ih (k + 1) t' d' g' _ _ _ ls (by omega) hJ' hW hl
end LOOPS
set_option maxHeartbeats 4000000 in
set_option maxRecDepth 100000 in
/-- from the entry, for every script of at most 260 ints, the law comes to its end with true -/
theorem whole_start {p : Program} {e : Env} {s : State} {m : MethodId} {below : List Frame} {meth : Method} {c : Code} (l : Launch) (hflags : l.flags = flags0) {b L : Nat} {xs : Nat → Int32} (hL : L ≤ 260) (C0 : lw_At p s m meth c b L xs) : W p l e room_1 s m #[Value.ref b] below meth c s.heap [] 0 0 (lw_Z below #[Value.ref b] s) (entryFrame m ([Value.ref b] : List Value).toArray 4) := by
  obtain ⟨hx, hb, hr, hml, hown, hts, hX, hbl, hlk, hgv⟩ := C0
  obtain ⟨D, cA, a0, a1, a2, hT, hPB, hA⟩ := st_E hts hgv
  have e0 : ∀ r q, ea (D, cA, adr s.heap.size a0 a1 a2) r q = adr s.heap.size a0 a1 a2 r q := fun _ _ => rfl
  have hE0 : nlc (D, cA, adr s.heap.size a0 a1 a2) = 0 := rfl
  generalize (D, cA, adr s.heap.size a0 a1 a2) = E at hT hPB hA e0 hE0
  have hbA : ¬ AA E b := fun h => absurd (hA b h) (Nat.not_le.mpr hbl)
  have F : CallFix p m c code 4 s #[.ref b] TB RL := ⟨hx, hb, hml, hown, fun w hw => hts w (tb_tbl hw)⟩
  have hB : BW E s s.heap [] V0 (fun r p => r = 12 ∧ p < 3) s.heap.size := ⟨hPB, va_S.rf, rfl⟩
  have hl := lv_entry ([.ref b]) (n := 4) (Nat.le_of_ble_eq_true rfl)
  rw [lg_entry_eq]
  generalize (lg_sl ([.ref b]) ++ List.replicate (4 - (lg_sl ([.ref b])).length) Slot.unset).toArray = ls at hl ⊢
  have hl : lv_has ls 4 [(0, .ref b)] := hl
  refine bnew (r := 11) (q := 0) F hT hB (rfl : kcl[6]? = some (RX6, TX6, 6)) tyX6_ok ls_6 cl_L_9 ci_X6 cz_X6 (by rw [e0]; rfl) oH0.1 (oH0 (E := E)).2 (by decide) (Nat.le_of_ble_eq_true rfl) (Nat.le_of_ble_eq_true rfl) dL_law_0 (fun H hB => ?_)
  refine lv_dup F.1 F.2.1 dL_law_3 rfl ?_
  refine bcv (brunI F hT hB yc_X6_init rfl yi_X6_init ml_L_79 (c_X6_init l E (VA E) LA (s.heap.size + 1) (Or.inr ⟨rfl, rfl⟩) (fun r' q' h => ?_) (Or.inl ⟨rfl, by decide⟩) ?_ (fun q _ => by rw [e0]; exact ad0) (fun q _ => by rw [e0]; exact ad1) (fun j q hj _ => by rw [e0]; exact ad2 hj) (by rw [e0]; rfl) (by rw [e0]; rfl) (by rw [e0]; rfl) (by rw [e0]; rfl) (fun j q hj _ => by rw [e0]; exact adH hj) (by rw [e0]; rfl) (by rw [e0]; rfl)) hl.1 ⟨Nat.le_of_ble_eq_true rfl, Nat.le_of_ble_eq_true rfl⟩ (Nat.le_of_ble_eq_true rfl) ⟨Nat.le_of_ble_eq_true rfl, Nat.le_of_ble_eq_true rfl⟩ dL_law_4) hB (fun H locs hB => ?_)
  · rcases h with ⟨h, _⟩ | h
    · exact Or.inl h
    · exact Or.inr h
  · exact (vs_ne _ _ (by decide)).trans rfl
  refine lv_astore_n (lv' := [(1, .ref (ea E 11 0)), (0, .ref b)]) F.1 F.2.1 dL_law_7 rfl hl (by decide) rfl (fun ls hl => ?_)
  have hM : MB E mu0 H := PB.mb2 hB.1 (fun r p h => ⟨all_L hE0 h, fun k hk => all_V hE0 h hk⟩)
  have hW : Wd E s H locs mu0 := ⟨hM, hB.2.1⟩
  refine W.widen (k := 400) (n := 8000) (Nat.le_of_ble_eq_true rfl) (Nat.le_of_ble_eq_true rfl) ?_
  refine sl_W0 F hT hX hbl hbA hL ⟨by decide, by decide⟩ jj0 (by omega) hW (lv_sub hl [1, 0] rfl) (fun μ' H locs ls hJ hW hl => ?_)
  have hc5 : ceN L xs 4 5 < 5 := ceN_lt (by decide)
  refine law_l1 F hT hX hbl hbA hL ⟨by decide, by decide⟩ (b0 := 4) (ln := 2 + ceN L xs 4 5) (by omega) (by omega) (fun μ H locs ls hJ hW hl => ?_) (2 + ceN L xs 4 5) 0 μ' H locs ls (by omega) hJ hW (lv_sub hl [3, 2, 0, 1] rfl)
  refine lv_iconst (v := 0) F.1 F.2.1 dL_law_149 (by decide) ?_
  refine lv_istore_n (lv' := [(3, .int 0), (2, .int (nI (2 + ceN L xs 4 5))), (0, .ref b), (1, .ref (ea E 11 0))]) F.1 F.2.1 dL_law_150 rfl hl (by decide) rfl (fun ls hl => ?_)
  refine law_l2 F hT hX hbl hbA hL ⟨by decide, by decide⟩ (b0 := 4 + (2 + ceN L xs 4 5)) (n := 2 + ceN L xs 4 5) (by omega) (by omega) (by omega) (fun t μ H locs ls hJ hW hl => ?_) 3 0 0 μ H locs ls (by omega) hJ hW hl
  refine lv_iconst (v := 0) F.1 F.2.1 dL_law_202 (by decide) ?_
  refine lv_istore_n (lv' := [(3, .int 0), (2, .int (nI (2 + ceN L xs 4 5))), (0, .ref b), (1, .ref (ea E 11 0))]) F.1 F.2.1 dL_law_203 rfl hl (by decide) rfl (fun ls hl => ?_)
  exact law_l3 F hT hX hbl hbA hL hE0 hr hlk hA (b0 := 4 + (2 + ceN L xs 4 5) + 3) (n := 2 + ceN L xs 4 5) (by omega) (by omega) (by omega) 80 0 t 0 0 μ H locs ls (by omega) hJ hW hl
