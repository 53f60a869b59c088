set_option maxHeartbeats 4000000 in
set_option maxRecDepth 100000 in
/-- YOUR PART: from the entry, for every script of at most 2560 ints, the law comes to its end with true ('hflags': the launch's flags, for a law that throws: no stack traces) -/
theorem whole_start {p : Program} {e : Env} {s : State} {m : MethodId} {below : List Frame} {meth : Method} {c : Code} (l : Launch) (hflags : l.flags = flags0) {b L : Nat} {xs : Nat → Int32} (hL : L ≤ 2560) (C0 : lw_At p s m meth c b L xs) : W p l e room_1 s m #[Value.ref b] below meth c s.heap [] 0 0 (lw_Z below #[Value.ref b] s) (entryFrame m ([Value.ref b] : List Value).toArray 4) := by
  obtain ⟨hx, hb, hr, hml, hown, hts, hX, hbl, hlk, hgv⟩ := C0
  obtain ⟨D, cA, a0, a1, a2, hT, hPB, hA⟩ := st_E hts hgv
  have e0 : ∀ r q, ea (D, cA, adr s.heap.size a0 a1 a2) r q = adr s.heap.size a0 a1 a2 r q := fun _ _ => rfl
  generalize (D, cA, adr s.heap.size a0 a1 a2) = E at hT hPB hA e0
  have hbA : ¬ AA E b := fun h => absurd (hA b h) (Nat.not_le.mpr hbl)
  have F : CallFix p m c code 4 s #[.ref b] TB RL := ⟨hx, hb, hml, hown, fun w hw => hts w (tb_tbl hw)⟩
  have hB : BW E s s.heap [] V0 (fun r p => r = 12 ∧ p < 3) s.heap.size := ⟨hPB, va_S.rf, rfl⟩
  have hl := lv_entry ([.ref b]) (n := 4) (Nat.le_of_ble_eq_true rfl)
  rw [lg_entry_eq]
  generalize (lg_sl ([.ref b]) ++ List.replicate (4 - (lg_sl ([.ref b])).length) Slot.unset).toArray = ls at hl ⊢
  have hl : lv_has ls 4 [(0, .ref b)] := hl
  refine bnew (r := 11) (q := 0) F hT hB (rfl : kcl[6]? = some (RX6, TX6, 6)) tyX6_ok ls_6 cl_L_7 ci_X6 cz_X6 (by rw [e0]; rfl) oH0.1 oH0.2 (by decide) (Nat.le_of_ble_eq_true rfl) (Nat.le_of_ble_eq_true rfl) dL_law_0 (fun H hB => ?_)
  refine lv_dup F.1 F.2.1 dL_law_3 rfl ?_
  refine bcv (brunI F hT hB yc_X6_init rfl yi_X6_init ml_L_9 (c_X6_init l E (VA E) LA (s.heap.size + 1) (Or.inr ⟨rfl, rfl⟩) (fun r' q' h => ?_) (Or.inl ⟨rfl, by decide⟩) ?_ (fun q _ => by rw [e0]; exact ad0) (fun q _ => by rw [e0]; exact ad1) (fun j q hj _ => by rw [e0]; exact ad2 hj) (by rw [e0]; rfl) (by rw [e0]; rfl) (by rw [e0]; rfl) (by rw [e0]; rfl) (fun j q hj _ => by rw [e0]; exact adH hj) (by rw [e0]; rfl) (by rw [e0]; rfl)) hl.1 ⟨Nat.le_of_ble_eq_true rfl, Nat.le_of_ble_eq_true rfl⟩ (Nat.le_of_ble_eq_true rfl) ⟨Nat.le_of_ble_eq_true rfl, Nat.le_of_ble_eq_true rfl⟩ dL_law_4) hB (fun H locs hB => ?_)
  · rcases h with ⟨h, _⟩ | h
    · exact Or.inl h
    · exact Or.inr h
  · exact (vs_ne _ _ (by decide)).trans rfl
  refine lv_astore_n (lv' := [(1, .ref (ea E 11 0)), (0, .ref b)]) F.1 F.2.1 dL_law_7 rfl hl (by decide) rfl (fun ls hl => ?_)
  refine bnew (r := 13) (q := 0) F hT hB (rfl : kcl[7]? = some (RX7, TX7, 13)) tyX7_ok ls_7 cl_L_10 ci_X7 cz_X7 (by rw [e0]; rfl) oM0.1 oM0.2 (by decide) (Nat.le_of_ble_eq_true rfl) (Nat.le_of_ble_eq_true rfl) dL_law_8 (fun H hB => ?_)
  refine lv_dup F.1 F.2.1 dL_law_11 rfl ?_
  refine bcv (brunI F hT hB yc_X7_init rfl yi_X7_init ml_L_12 (c_X7_init l E (VB E) LB (s.heap.size + 1 + 347 + 1) (Or.inr ⟨rfl, rfl⟩) (fun q h1 _ => by rw [e0]; exact adR h1)) hl.1 ⟨Nat.le_of_ble_eq_true rfl, Nat.le_of_ble_eq_true rfl⟩ (Nat.le_of_ble_eq_true rfl) ⟨Nat.le_of_ble_eq_true rfl, Nat.le_of_ble_eq_true rfl⟩ dL_law_12) hB (fun H locs hB => ?_)
  refine lv_astore_n (lv' := [(2, .ref (ea E 13 0)), (1, .ref (ea E 11 0)), (0, .ref b)]) F.1 F.2.1 dL_law_15 rfl hl (by decide) rfl (fun ls hl => ?_)
  refine lv_iconst (v := 0) F.1 F.2.1 dL_law_16 (by decide) ?_
  refine lv_istore_n (lv' := LLw E b 0) F.1 F.2.1 dL_law_17 rfl hl (by decide) rfl (fun ls hl => ?_)
  have hM : MB E mu0 H := PB.mb2 hB.1 (fun r p h => ⟨all_L h, fun k hk => all_V h hk⟩)
  exact law_loop F hT hX hbl hbA hL hr hlk hA 512 0 0 mu0 H locs ls (by omega) (by omega) (by omega) ⟨hM, hB.2.1⟩ iv0 hl
