/-! a static array cloned; the words of the constructors -/
theorem cz_L : Cond.initialized RL ∈ TB := tb_in 0 (by decide +kernel) rfl
theorem cz_X6 : Cond.initialized RX6 ∈ TB := tb_in 1 (by decide +kernel) rfl
theorem cz_X3 : Cond.initialized RX3 ∈ TB := tb_in 2 (by decide +kernel) rfl
theorem cz_X1 : Cond.initialized RX1 ∈ TB := tb_in 3 (by decide +kernel) rfl
theorem cz_X5 : Cond.initialized RX5 ∈ TB := tb_in 4 (by decide +kernel) rfl
theorem cz_X4 : Cond.initialized RX4 ∈ TB := tb_in 5 (by decide +kernel) rfl
theorem cz_X0 : Cond.initialized RX0 ∈ TB := tb_in 6 (by decide +kernel) rfl
theorem cz_X2 : Cond.initialized RX2 ∈ TB := tb_in 7 (by decide +kernel) rfl
theorem ci_X6 : Cond.instantiable RX6 6 ∈ TB := tb_in 10 (by decide +kernel) rfl
theorem co_X6 : Cond.methodLink RX6 1 Lib.objectInit ∈ TB := tb_in 14 (by decide +kernel) rfl
theorem cl_X6_7 : Cond.classLink RX6 7 RX3 ∈ TB := tb_in 17 (by decide +kernel) rfl
theorem ci_X3 : Cond.instantiable RX3 11 ∈ TB := tb_in 18 (by decide +kernel) rfl
theorem co_X3 : Cond.methodLink RX3 3 Lib.objectInit ∈ TB := tb_in 22 (by decide +kernel) rfl
theorem cl_X3_14 : Cond.classLink RX3 14 "[I" ∈ TB := tb_in 31 (by decide +kernel) rfl
theorem cl_X3_23 : Cond.classLink RX3 23 RX1 ∈ TB := tb_in 32 (by decide +kernel) rfl
theorem ci_X1 : Cond.instantiable RX1 16 ∈ TB := tb_in 34 (by decide +kernel) rfl
theorem co_X1 : Cond.methodLink RX1 3 Lib.objectInit ∈ TB := tb_in 38 (by decide +kernel) rfl
theorem ca_int : Cond.arrayClass (newarray.typeOf .int) ∈ TB := tb_in 96 (by decide +kernel) rfl
theorem cl_X3_30 : Cond.classLink RX3 30 RX5 ∈ TB := tb_in 97 (by decide +kernel) rfl
theorem ci_X5 : Cond.instantiable RX5 3 ∈ TB := tb_in 99 (by decide +kernel) rfl
theorem co_X5 : Cond.methodLink RX5 3 Lib.objectInit ∈ TB := tb_in 103 (by decide +kernel) rfl
theorem cl_X3_37 : Cond.classLink RX3 37 RX4 ∈ TB := tb_in 117 (by decide +kernel) rfl
theorem ci_X4 : Cond.instantiable RX4 4 ∈ TB := tb_in 119 (by decide +kernel) rfl
theorem co_X4 : Cond.methodLink RX4 3 Lib.objectInit ∈ TB := tb_in 123 (by decide +kernel) rfl
theorem cl_X6_27 : Cond.classLink RX6 27 RX0 ∈ TB := tb_in 176 (by decide +kernel) rfl
theorem ci_X0 : Cond.instantiable RX0 3 ∈ TB := tb_in 177 (by decide +kernel) rfl
theorem co_X0 : Cond.methodLink RX0 3 Lib.objectInit ∈ TB := tb_in 181 (by decide +kernel) rfl
theorem cl_X0_9 : Cond.classLink RX0 9 RX3 ∈ TB := tb_in 182 (by decide +kernel) rfl
theorem ca_boolean : Cond.arrayClass (newarray.typeOf .boolean) ∈ TB := tb_in 195 (by decide +kernel) rfl
theorem cl_X6_34 : Cond.classLink RX6 34 RX2 ∈ TB := tb_in 196 (by decide +kernel) rfl
theorem ci_X2 : Cond.instantiable RX2 2 ∈ TB := tb_in 197 (by decide +kernel) rfl
theorem co_X2 : Cond.methodLink RX2 3 Lib.objectInit ∈ TB := tb_in 201 (by decide +kernel) rfl
theorem ca_char : Cond.arrayClass (newarray.typeOf .char) ∈ TB := tb_in 209 (by decide +kernel) rfl
theorem co_im : Cond.instanceMethod Lib.objectInit ∈ TB := tb_in 15 (by decide +kernel) rfl
theorem co_cd : Cond.code Lib.objectInit ⟨#[0xb1]⟩ 1 none ∈ TB := tb_in 16 (by decide +kernel) rfl
section ROWSC
variable {p : Program} {l : Launch} {e : Env} {R : Room} {s : State} {m : MethodId} {args : Array Value} {below : List Frame} {meth : Method} {c : Code} {H : Heap} {locs : List Loc} {cells slots : Nat} {Q : State → Prop}
variable {cc : ByteArray} {nL pc : Nat} {ls : Array Slot} {rest : List Value} {own : String} {E : mE} {V : Vs} {L : Nat → Nat → Prop} {n : Nat}
theorem cw_sm : Cond.sameMethod "[I" "java/lang/Object" "clone" "()Ljava/lang/Object;" ∈ TB := tb_in 26 (by decide +kernel) rfl
theorem cw_na : Cond.native ⟨"java/lang/Object", "clone", "()Ljava/lang/Object;"⟩ ∈ TB := tb_in 27 (by decide +kernel) rfl
theorem cw_im : Cond.instanceMethod ⟨"java/lang/Object", "clone", "()Ljava/lang/Object;"⟩ ∈ TB := tb_in 28 (by decide +kernel) rfl
theorem cw_se : Cond.selects "[I" ⟨"[I", "clone", "()Ljava/lang/Object;"⟩ ⟨"java/lang/Object", "clone", "()Ljava/lang/Object;"⟩ ∈ TB := tb_in 29 (by decide +kernel) rfl
theorem bclone {index r q r' q' N : Nat} {f : Nat → Int32} (F : CallFix p m c cc nL s args TB own) (hml : nL = ls.size) (hT : Stat E s) (hB : BW E s H locs V L n) (hlink : Cond.methodLink own index ⟨"[I", "clone", "()Ljava/lang/Object;"⟩ ∈ TB)
    (hL : L r' q') (hk : kd r' q' = (10, N)) (hv : V r' q' = fun j => .int (f j)) (hea : ea E r q = n) (hl : live E r q) (hk2 : kd r q = (10, N)) (hframes : 1 ≤ R.frames) (hlocals : (rest.map fun v => v.category).sum + 14 ≤ R.locals) (hcells : cells + 1 ≤ R.cells) (hslots : slots + N ≤ R.slots) (hdg : decode cc pc = .ok (.invokevirtual index, 3))
    (kk : ∀ H1 : Heap, BW E s H1 locs (vs V r q (fun j => .int (f j))) (fun a b => L a b ∨ (a = r ∧ b = q)) (n + 1) → W p l e R s m args below meth c H1 locs (cells + 1) (slots + N) Q (F0 m (pc + 3) ls (.ref (ea E r q) :: rest))) : W p l e R s m args below meth c H locs cells slots Q (F0 m pc ls (.ref (ea E r' q') :: rest)) := by
  have hts := F.2.2.2.2
  obtain ⟨b1, b2, b3⟩ := hB
  have hcv := (b1 r' q' hL).2
  unfold cellV at hcv
  rw [hk, if_neg (by show ¬ 10 < 10; omega), show ((10, N) : Nat × Nat).1 - 10 = 0 from rfl, hv] at hcv
  have hA0 := hT.K.2 0 (E.2.1 0, .int) rfl
  have hnm : s.vm.findClass "[I" = some (E.2.1 0) := va_nm_int hA0.2
  obtain ⟨c0, t0', f1, f2, f3⟩ := Cond.castable_spec (va_Nw.use (A := args) rfl hT.1.2.2.2.2)
  cases hnm.symm.trans f1
  intro T hT2 X
  obtain ⟨cell, y1, y2, y3, y4, y5⟩ := hcv.ex
  have hcellT : T.heap[ea E r' q']? = some cell := by rw [hT2]; exact y1
  have hnew : ({ cls := cell.cls, slots := cell.slots } : Cell) = arrV (E.2.1 0) N (fun j => .int (f j)) := by rw [y2, y3]; rfl
  obtain ⟨-, kA, hkA, comp, hkind⟩ := State.isArrayOf_alike X.warmed.alike (hA0.1 0 (fun _ => .null))
  obtain ⟨-, kS, hkS, compS, hkindS⟩ := hA0.1 0 (fun _ => .null)
  obtain ⟨vm', X', st⟩ := X.cloneArray F.1 F.2.2.2.1 (hts _ hlink) (hts _ cw_sm) (hts _ cw_na) (hts _ cw_im) (hts _ cw_se) (a := ea E r' q') (cell := cell) hcellT y4 y5 (by rw [y2]; exact hnm) f2 (by rw [y2]; exact f3)
    (fun i v hv2 => by
      rw [y3] at hv2
      rw [y2]
      have hk' : T.vm.classes[E.2.1 0]? = some kA := hkA
      have hf : fits .int v = true := va_fit (F := fun j => .int (f j)) (fun i _ => rfl) i v hv2
      simpa [State.fitsSlot, State.slotType?, arrV, hk', hkind] using hf)
    (g := F0 m pc ls (.ref (ea E r' q') :: rest)) rfl (by rw [F.2.2.1, hml]) rfl (by rw [F.2.1]; exact hdg) hframes (by show 2 * 0 + _ + 14 ≤ _; omega) hcells (by rw [y3, arrV_size]; exact hslots) (hloader := by rw [y2]; exact Vm.clonesLoader_of_array hkS hkindS)
  rw [hnew, y3, arrV_size] at X'
  rw [hnew] at st
  generalize hH1 : H.push (arrV (E.2.1 0) N (fun j => .int (f j))) = H1
  have z1 : H1.size = H.size + 1 := by rw [← hH1, Array.size_push]
  have e1 : H1[H.size]? = some (arrV (E.2.1 0) N (fun j => .int (f j))) := by rw [← hH1, Array.getElem?_push_size]
  have o1 : ∀ q : Nat, q < H.size → H1[q]? = H[q]? := fun q hq => by rw [← hH1, Array.getElem?_push, if_neg (Nat.ne_of_lt hq)]
  have hs : H.size = ea E r q := b3.trans hea.symm
  obtain ⟨t, a1, a2⟩ := kk H1 ⟨b1.push hl (by
    unfold cellV
    rw [hk2, if_neg (by show ¬ 10 < 10; omega), show ((10, N) : Nat × Nat).1 - 10 = 0 from rfl, ← hs]
    exact arA.of e1) o1, bS b2 z1 o1, by omega⟩ ((T.setVm vm').pushCell (arrV (E.2.1 0) N (fun j => .int (f j)))) (by rw [← hH1, ← hT2]; rfl) X'
  refine ⟨t, st t ?_, a2⟩
  rw [hT2, hs]
  exact a1
theorem bcast {index r q N : Nat} {f : Nat → Int32} (F : CallFix p m c cc nL s args TB own) (hT : Stat E s) (hB : BW E s H locs V L n) (hlink : Cond.classLink own index "[I" ∈ TB) (hL : L r q) (hr : r ≠ 12) (hk : kd r q = (10, N)) (hv : V r q = fun j => .int (f j)) (hdg : decode cc pc = .ok (.checkcast index, 3))
    (k : W p l e R s m args below meth c H locs cells slots Q (F0 m (pc + 3) ls (.ref (ea E r q) :: rest))) : W p l e R s m args below meth c H locs cells slots Q (F0 m pc ls (.ref (ea E r q) :: rest)) := by
  have hcv := (hB.1 r q hL).2
  unfold cellV at hcv
  rw [hk, if_neg (by show ¬ 10 < 10; omega), show ((10, N) : Nat × Nat).1 - 10 = 0 from rfl, hv] at hcv
  have hcv := hcv.eq hr
  have hnm : s.vm.findClass "[I" = some (E.2.1 0) := va_nm_int (hT.K.2 0 (E.2.1 0, .int) rfl).2
  exact va_castA (D := E.1) (cl := kcl) (ws := [(ea E r q, .inl (E.2.1 0, (N, .inl f)))]) F.1 F.2.1 F.2.2.2.1 (F.2.2.2.2 _ hlink) (fun j x hx => by
    have hz : j < 1 := (List.getElem?_eq_some_iff.mp hx).1
    rw [show j = 0 by omega] at hx
    cases hx
    exact hcv) 0 rfl hnm hdg k
theorem bobj {index r q : Nat} (F : CallFix p m c cc nL s args TB own) (hml : ls.size = nL) (hlink : Cond.methodLink own index Lib.objectInit ∈ TB) (hframes : 1 ≤ R.frames) (hlocals : (rest.map fun v => v.category).sum + 12 ≤ R.locals) (hdg : decode cc pc = .ok (.invokespecial index, 3))
    (k : W p l e R s m args below meth c H locs cells slots Q (F0 m (pc + 3) ls rest)) : W p l e R s m args below meth c H locs cells slots Q (F0 m pc ls (.ref (ea E r q) :: rest)) :=
  W.objInit F.1 F.2.1 F.2.2.2.1 (F.2.2.2.2 _ hlink) (F.2.2.2.2 _ co_im) (F.2.2.2.2 _ co_cd) rfl (hml.trans F.2.2.1.symm) rfl hdg hframes (by show 2 * 0 + _ + 12 ≤ _; omega) k
end ROWSC
