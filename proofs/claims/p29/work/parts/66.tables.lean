/-! the tables' words at the law's start -/
theorem ra_arr {s : State} {args : Array Value} {ty : FieldType} (h : (Cond.arrayClass ty).before args s = true) (ho : ∀ C, ty ≠ .object C) : ∃ cA : ClassId, ArrOfT s cA ty ∧ va_RA s cA ty := by
  obtain ⟨c, k, comp, h1, h2, h3⟩ := Cond.arrayClass_spec h
  refine ⟨c, fun N z => ⟨(fun k h => by cases h), k, h2, comp, h3⟩, ?_⟩
  cases ty with
  | object C => exact absurd rfl (ho C)
  | _ => exact h1
theorem ra_obj {s : State} {args : Array Value} {C : String} (h : (Cond.arrayOver (.object C)).before args s = true) : ∃ cA : ClassId, ArrOfT s cA (.object C) ∧ va_RA s cA (.object C) := by
  obtain ⟨comp, c, k, h1, h2, h3, h4, h5⟩ := Cond.arrayOver_spec h
  exact ⟨c, fun N z => ⟨(fun k h => by cases h), k, h3, comp, h4⟩, k, comp, h3, h4, h1, h5⟩
theorem tw {w : Cond} (i : Nat) (h : lw_tbl[i]? = some w) : w ∈ lw_tbl := List.mem_of_getElem? h
theorem ex_K {s : State} {args : Array Value} (hts : ∀ w ∈ lw_tbl, w.before args s = true) : ∃ (D : va_G) (cA : Nat → ClassId), va_K D kcl (tyL (D, cA, fun _ _ => 0)) s := by
  obtain ⟨c0, i0, k0⟩ := u_known (ws := TB) (n := 3) (fun w hw => hts w (tb_tbl hw)) ls_0 (hts _ (tb_tbl ci_X0))
  obtain ⟨c1, i1, k1⟩ := u_known (ws := TB) (n := 16) (fun w hw => hts w (tb_tbl hw)) ls_1 (hts _ (tb_tbl ci_X1))
  obtain ⟨c2, i2, k2⟩ := u_known (ws := TB) (n := 2) (fun w hw => hts w (tb_tbl hw)) ls_2 (hts _ (tb_tbl ci_X2))
  obtain ⟨c3, i3, k3⟩ := u_known (ws := TB) (n := 11) (fun w hw => hts w (tb_tbl hw)) ls_3 (hts _ (tb_tbl ci_X3))
  obtain ⟨c4, i4, k4⟩ := u_known (ws := TB) (n := 4) (fun w hw => hts w (tb_tbl hw)) ls_4 (hts _ (tb_tbl ci_X4))
  obtain ⟨c5, i5, k5⟩ := u_known (ws := TB) (n := 3) (fun w hw => hts w (tb_tbl hw)) ls_5 (hts _ (tb_tbl ci_X5))
  obtain ⟨c6, i6, k6⟩ := u_known (ws := TB) (n := 6) (fun w hw => hts w (tb_tbl hw)) ls_6 (hts _ (tb_tbl ci_X6))
  obtain ⟨a0, x0⟩ := ra_arr (hts _ (tw 96 (by decide +kernel) : Cond.arrayClass .int ∈ lw_tbl)) (fun C h => by cases h)
  obtain ⟨a1, x1⟩ := ra_arr (hts _ (tw 195 (by decide +kernel) : Cond.arrayClass .boolean ∈ lw_tbl)) (fun C h => by cases h)
  obtain ⟨a2, x2⟩ := ra_arr (hts _ (tw 209 (by decide +kernel) : Cond.arrayClass .char ∈ lw_tbl)) (fun C h => by cases h)
  obtain ⟨a3, x3⟩ := ra_obj (hts _ (tw 33 (by decide +kernel) : Cond.arrayOver (.object RX1) ∈ lw_tbl))
  obtain ⟨a4, x4⟩ := ra_obj (hts _ (tw 98 (by decide +kernel) : Cond.arrayOver (.object RX5) ∈ lw_tbl))
  obtain ⟨a5, x5⟩ := ra_obj (hts _ (tw 118 (by decide +kernel) : Cond.arrayOver (.object RX4) ∈ lw_tbl))
  obtain ⟨a6, x6⟩ := ra_obj (hts _ (tw 175 (by decide +kernel) : Cond.arrayOver (.object RX3) ∈ lw_tbl))
  refine ⟨(fun c => match c with | 0 => c0 | 1 => c1 | 2 => c2 | 3 => c3 | 4 => c4 | 5 => c5 | _ => c6, fun c => match c with | 0 => i0 | 1 => i1 | 2 => i2 | 3 => i3 | 4 => i4 | 5 => i5 | _ => i6),
    fun t => match t with | 0 => a0 | 1 => a1 | 2 => a2 | 3 => a3 | 4 => a4 | 5 => a5 | _ => a6, ?_, ?_⟩
  · intro c q h
    match c, h with
    | 0, h => cases h; exact k0
    | 1, h => cases h; exact k1
    | 2, h => cases h; exact k2
    | 3, h => cases h; exact k3
    | 4, h => cases h; exact k4
    | 5, h => cases h; exact k5
    | 6, h => cases h; exact k6
    | n + 7, h => cases h
  · intro t q h
    match t, h with
    | 0, h => cases h; exact x0
    | 1, h => cases h; exact x1
    | 2, h => cases h; exact x2
    | 3, h => cases h; exact x3
    | 4, h => cases h; exact x4
    | 5, h => cases h; exact x5
    | 6, h => cases h; exact x6
    | n + 7, h => cases h
theorem ex_St0 {s : State} {args : Array Value} (hts : ∀ w ∈ lw_tbl, w.before args s = true) : ∃ (D : va_G) (cA : Nat → ClassId), St0 D cA s := by
  obtain ⟨D, cA, hK⟩ := ex_K hts
  refine ⟨D, cA, hK, fun q hq => ?_, fun q hq => ?_, fun C hC => ?_, ?_⟩
  · unfold nwF at hq
    simp only [List.mem_cons, List.not_mem_nil, or_false] at hq
    rcases hq with rfl | rfl | rfl
    · exact va_any rfl (hts _ (tw 23 (by decide +kernel)))
    · exact va_any rfl (hts _ (tw 263 (by decide +kernel)))
    · exact va_any rfl (hts _ (tw 265 (by decide +kernel)))
  · unfold nwM at hq
    simp only [List.mem_cons, List.not_mem_nil, or_false] at hq
    rcases hq with rfl | rfl | rfl | rfl
    · exact va_any rfl (hts _ (tw 35 (by decide +kernel)))
    · exact va_any rfl (hts _ (tw 100 (by decide +kernel)))
    · exact va_any rfl (hts _ (tw 120 (by decide +kernel)))
    · exact va_any rfl (hts _ (tw 260 (by decide +kernel)))
  · simp only [List.mem_cons, List.not_mem_nil, or_false] at hC
    rcases hC with rfl | rfl | rfl | rfl
    · exact va_AO.of (hts _ (tw 33 (by decide +kernel)))
    · exact va_AO.of (hts _ (tw 98 (by decide +kernel)))
    · exact va_AO.of (hts _ (tw 118 (by decide +kernel)))
    · exact va_AO.of (hts _ (tw 175 (by decide +kernel)))
  · exact va_any rfl (hts _ (tw 30 (by decide +kernel)))
