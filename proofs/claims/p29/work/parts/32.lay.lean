/-! cells that are being laid: L tells which are there, V what their slots hold -/
abbrev Vs : Type := Nat → Nat → Nat → Value
def cellV (E : mE) (f : Nat → Value) (H : Heap) (r p : Nat) : Prop :=
  if (kd r p).1 < 10 then ∃ q : vw_C, kcl[(kd r p).1]? = some q ∧ t_OB (ea E r p) (E.1.1 (kd r p).1) q.2.2 (E.1.2 (kd r p).1) H f
  else arA r (H[ea E r p]?) (E.2.1 ((kd r p).1 - 10)) (kd r p).2 f
def vs (V : Vs) (r p : Nat) (f : Nat → Value) : Vs := fun r' p' => if r' = r ∧ p' = p then f else V r' p'
def PB (E : mE) (V : Vs) (L : Nat → Nat → Prop) (H : Heap) : Prop := ∀ r p, L r p → live E r p ∧ cellV E (V r p) H r p
def BW (E : mE) (s : State) (H : Heap) (locs : List Loc) (V : Vs) (L : Nat → Nat → Prop) (n : Nat) : Prop := PB E V L H ∧ va_S (AA E) s.heap H locs ∧ H.size = n
theorem vs_at (V : Vs) (r p : Nat) (f : Nat → Value) : vs V r p f r p = f := if_pos ⟨rfl, rfl⟩
theorem vs_ne (V : Vs) {r p r' p' : Nat} (f : Nat → Value) (h : ¬ (r' = r ∧ p' = p)) : vs V r p f r' p' = V r' p' := if_neg h
theorem PB.mb {E : mE} {V : Vs} {L : Nat → Nat → Prop} {H : Heap} {μ : Mu} (h : PB E V L H) (hL : ∀ r p, live E r p → L r p ∧ V r p = sl E μ r p) : MB E μ H := by
  intro r p hl
  obtain ⟨h1, h2⟩ := hL r p hl
  have h3 := (h r p h1).2
  rw [h2] at h3
  exact h3
theorem PB.to {E : mE} {V V' : Vs} {L L' : Nat → Nat → Prop} {H : Heap} (h : PB E V L H) (hL : ∀ r p, L' r p → L r p ∧ V' r p = V r p) : PB E V' L' H := by
  intro r p hl
  obtain ⟨h1, h2⟩ := hL r p hl
  rw [h2]
  exact h r p h1
theorem cellV.kept {E : mE} {f : Nat → Value} {H H1 : Heap} {r p : Nat} (h : cellV E f H r p) (hq : H1[ea E r p]? = H[ea E r p]?) : cellV E f H1 r p := by
  unfold cellV at h ⊢
  split
  · next h2 =>
    rw [if_pos h2] at h
    obtain ⟨q, g1, g2⟩ := h
    exact ⟨q, g1, g2.kept hq⟩
  · next h2 =>
    rw [if_neg h2] at h
    rw [hq]
    exact h
theorem cellV.lt {E : mE} {f : Nat → Value} {H : Heap} {r p : Nat} (h : cellV E f H r p) : ea E r p < H.size := by
  unfold cellV at h
  split at h
  · obtain ⟨q, g1, cell, g2, -⟩ := h
    exact (Array.getElem?_eq_some_iff.mp g2).1
  · obtain ⟨cell, g2, -⟩ := h.ex
    exact (Array.getElem?_eq_some_iff.mp g2).1
theorem PB.push {E : mE} {V : Vs} {L : Nat → Nat → Prop} {H H1 : Heap} {r p : Nat} {f : Nat → Value} (h : PB E V L H) (hl : live E r p) (hc : cellV E f H1 r p) (o1 : ∀ q, q < H.size → H1[q]? = H[q]?) : PB E (vs V r p f) (fun r' p' => L r' p' ∨ (r' = r ∧ p' = p)) H1 := by
  intro r' p' hL
  by_cases he : r' = r ∧ p' = p
  · obtain ⟨rfl, rfl⟩ := he
    rw [vs_at]
    exact ⟨hl, hc⟩
  · obtain ⟨h1, h2⟩ := h r' p' (hL.resolve_right he)
    rw [vs_ne _ _ he]
    exact ⟨h1, h2.kept (o1 _ h2.lt)⟩
theorem PB.upd {E : mE} {V : Vs} {L : Nat → Nat → Prop} {H H1 : Heap} {r p : Nat} {f : Nat → Value} (h : PB E V L H) (hI : Inj E) (hl : L r p) (hc : cellV E f H1 r p) (oq : ∀ q : Nat, q ≠ ea E r p → H1[q]? = H[q]?) : PB E (vs V r p f) L H1 := by
  intro r' p' hL
  by_cases he : r' = r ∧ p' = p
  · obtain ⟨rfl, rfl⟩ := he
    rw [vs_at]
    exact ⟨(h _ _ hl).1, hc⟩
  · obtain ⟨h1, h2⟩ := h r' p' hL
    rw [vs_ne _ _ he]
    exact ⟨h1, h2.kept (oq _ fun e => he (hI _ _ _ _ h1 (h _ _ hl).1 e))⟩
theorem nI_nneg {n : Nat} (h : n < 2 ^ 31) : ¬ nI n < 0 := Int32.not_lt.mpr ((nI_leI (a := 0) (by decide) h).mpr (Nat.zero_le _))
section ROWSB
variable {p : Program} {l : Launch} {e : Env} {R : Room} {s : State} {m : MethodId} {args : Array Value} {below : List Frame} {meth : Method} {c : Code} {H : Heap} {locs : List Loc} {cells slots : Nat} {Q : State → Prop}
variable {cc : ByteArray} {nL pc : Nat} {ls : Array Slot} {rest : List Value} {own : String} {E : mE} {V : Vs} {L : Nat → Nat → Prop} {n : Nat}
theorem bS {A : Nat → Prop} {H0 H H1 : Heap} {locs : List Loc} (h : va_S A H0 H locs) (z1 : H1.size = H.size + 1) (o1 : ∀ q, q < H.size → H1[q]? = H[q]?) : va_S A H0 H1 locs :=
  ⟨Nat.le_trans h.1 (by omega), fun x h1 h2 => (o1 x (Nat.lt_of_lt_of_le h1 h.1)).trans (h.2.1 x h1 h2), h.2.2⟩
/-- an object is laid: its slots hold their first values -/
theorem bnew (F : CallFix p m c cc nL s args TB own) (hT : Stat E s) (hB : BW E s H locs V L n) {index r q ci N : Nat} {C : String} {T : u_T} {ty : Nat → FieldType} (hc : kcl[ci]? = some (C, T, N)) (hty : ∀ k, k < N → parseFieldDescriptor (T k).2.2.1 = some (ty k)) (hin : ∀ w ∈ u_ws C T N, w ∈ TB)
    (h1 : Cond.classLink own index C ∈ TB) (h2 : Cond.instantiable C N ∈ TB) (h3 : Cond.initialized C ∈ TB) (hea : ea E r q = n) (hl : live E r q) (hk : kd r q = (ci, N)) (hci : ci < 10) (hcells : cells + 1 ≤ R.cells) (hslots : slots + N ≤ R.slots) (hdg : decode cc pc = .ok (.new index, 3))
    (kk : ∀ H1 : Heap, BW E s H1 locs (vs V r q (fun k => defaultValue (ty k))) (fun r' p' => L r' p' ∨ (r' = r ∧ p' = q)) (n + 1) → W p l e R s m args below meth c H1 locs (cells + 1) (slots + N) Q (F0 m (pc + 3) ls (.ref (ea E r q) :: rest))) : W p l e R s m args below meth c H locs cells slots Q (F0 m pc ls rest) := by
  have hts := F.2.2.2.2
  have hKn := hT.K.1 ci _ hc
  obtain ⟨b1, b2, b3⟩ := hB
  refine W.newcK F.1 F.2.1 F.2.2.2.1 (hts _ h1) (hts _ h2) (hts _ h3) rfl hdg hcells hslots hKn.2.1 (b3.trans hea.symm) fun H1 kC hkC e1 z1 o1 => ?_
  rw [hea] at z1 o1
  refine kk H1 ⟨b1.push hl ?_ (fun x hx => o1 x (by omega)), bS b2 (by omega) (fun x hx => o1 x (by omega)), z1⟩
  unfold cellV
  rw [hk, if_pos hci]
  exact ⟨_, hc, u_born ty hts hin hKn hkC e1 hty⟩
/-- an array of numbers is laid -/
theorem bnewi (F : CallFix p m c cc nL s args TB own) (hT : Stat E s) (hB : BW E s H locs V L n) {r q t N : Nat} {atype : ArrayType} {x : Int32} (hty : (tyL E)[t]? = some (E.2.1 t, newarray.typeOf atype)) (ho : ∀ C, newarray.typeOf atype ≠ .object C) (h1 : Cond.arrayClass (newarray.typeOf atype) ∈ TB) (hx : x = nI N) (hN : N < 2 ^ 31) (hby : N * componentBytes (newarray.typeOf atype) ≤ 536870912)
    (hea : ea E r q = n) (hl : live E r q) (hk : kd r q = (10 + t, N)) (hcells : cells + 1 ≤ R.cells) (hslots : slots + N ≤ R.slots) (hdg : decode cc pc = .ok (.newarray atype, 2))
    (kk : ∀ H1 : Heap, BW E s H1 locs (vs V r q (fun _ => defaultValue (newarray.typeOf atype))) (fun r' p' => L r' p' ∨ (r' = r ∧ p' = q)) (n + 1) → W p l e R s m args below meth c H1 locs (cells + 1) (slots + N) Q (F0 m (pc + 2) ls (.ref (ea E r q) :: rest))) : W p l e R s m args below meth c H locs cells slots Q (F0 m pc ls (.int x :: rest)) := by
  have hts := F.2.2.2.2
  obtain ⟨b1, b2, b3⟩ := hB
  subst hx
  refine va_newaK F.1 F.2.1 (hts _ h1) rfl hdg rfl (nI_nneg hN) (nI_clamp hN) hby hcells hslots (b3.trans hea.symm) fun H1 cA e1 z1 o1 hAr hNm => ?_
  have hcA : cA = E.2.1 t := by
    have hk2 := (hT.K.2 t _ hty).2
    unfold va_RA at hk2
    generalize newarray.typeOf atype = ty at hk2 hNm ho
    cases ty with
    | object C => exact absurd rfl (ho C)
    | _ => exact Option.some.inj (hNm.symm.trans hk2)
  rw [hea] at z1 o1
  refine kk H1 ⟨b1.push hl ?_ (fun x hx => o1 x (by omega)), bS b2 (by omega) (fun x hx => o1 x (by omega)), z1⟩
  unfold cellV
  rw [hk, if_neg (by show ¬ 10 + t < 10; omega), show ((10 + t, N) : Nat × Nat).1 - 10 = t by show 10 + t - 10 = t; omega, ← hcA]
  exact arA.of e1
/-- an array of references is laid -/
theorem bnewq (F : CallFix p m c cc nL s args TB own) (hT : Stat E s) (hB : BW E s H locs V L n) {index r q t N : Nat} {C : String} {x : Int32} (hty : (tyL E)[t]? = some (E.2.1 t, .object C)) (h1 : Cond.classLink own index C ∈ TB) (h2 : va_AO C s) (hx : x = nI N) (hN : N < 2 ^ 31) (hby : N * 4 ≤ 536870912)
    (hea : ea E r q = n) (hl : live E r q) (hk : kd r q = (10 + t, N)) (hcells : cells + 1 ≤ R.cells) (hslots : slots + N ≤ R.slots) (hdg : decode cc pc = .ok (.anewarray index, 3))
    (kk : ∀ H1 : Heap, BW E s H1 locs (vs V r q (fun _ => .null)) (fun r' p' => L r' p' ∨ (r' = r ∧ p' = q)) (n + 1) → W p l e R s m args below meth c H1 locs (cells + 1) (slots + N) Q (F0 m (pc + 3) ls (.ref (ea E r q) :: rest))) : W p l e R s m args below meth c H locs cells slots Q (F0 m pc ls (.int x :: rest)) := by
  have hts := F.2.2.2.2
  obtain ⟨b1, b2, b3⟩ := hB
  subst hx
  have hcl : (nI N).toNatClampNeg = N := nI_clamp hN
  refine W.anew F.1 F.2.1 F.2.2.2.1 (hts _ h1) (va_AO.use h2) rfl hdg rfl (nI_nneg hN) (by rw [hcl]; exact hby) hcells (by rw [hcl]; exact hslots) fun cA kA comp f1 f2 f3 f4 => ?_
  obtain ⟨kA', comp', -, -, -, k4⟩ := (hT.K.2 t _ hty).2
  have hcA : cA = E.2.1 t := Option.some.inj (f1.symm.trans k4)
  rw [hcl]
  generalize hH1 : H.push ({ cls := cA, slots := Array.replicate N .null, vm := .none } : Cell) = H1
  have z1 : H1.size = H.size + 1 := by rw [← hH1, Array.size_push]
  have e1 : H1[H.size]? = some (arrV cA N (fun _ => .null)) := by rw [← hH1, Array.getElem?_push_size, ← arrV_new]
  have o1 : ∀ q : Nat, q < H.size → H1[q]? = H[q]? := fun q hq => by rw [← hH1, Array.getElem?_push, if_neg (Nat.ne_of_lt hq)]
  have hs : H.size = ea E r q := b3.trans hea.symm
  rw [hs]
  refine kk H1 ⟨b1.push hl ?_ o1, bS b2 z1 o1, by omega⟩
  unfold cellV
  rw [hk, if_neg (by show ¬ 10 + t < 10; omega), show ((10 + t, N) : Nat × Nat).1 - 10 = t by show 10 + t - 10 = t; omega, ← hcA, ← hs]
  exact arA.of e1
/-- a final field is set, in a constructor -/
theorem bputF {index r q ci k N : Nat} {C : String} {T : u_T} {ty0 : Nat → FieldType} {ty : FieldType} {v : Value} (F : CallFix p m c cc nL s args TB own) (hT : Stat E s) (hB : BW E s H locs V L n) (hc : kcl[ci]? = some (C, T, N)) (hty : ∀ k, k < N → parseFieldDescriptor (T k).2.2.1 = some (ty0 k)) (hnm : ∀ a, a < N → ∀ b, b < N → a ≠ b → (T a).2.1 ≠ (T b).2.1) (hf : FW own index ci k) (hfin : (T k).2.2.2 = true) (hin2 : meth.name = "<init>") (hdecl : (T k).1 = own) (hte : ty0 k = ty) (hna : narrow ty v = v) (hfi : fits ty v = true)
    (hL : L r q) (hr : r ≠ 12) (hk : kd r q = (ci, N)) (hci : ci < 10) (hdg : decode cc pc = .ok (.putfield index, 3))
    (kk : ∀ (H1 : Heap) (locs1 : List Loc), BW E s H1 locs1 (vs V r q (updV (V r q) k v)) L n → W p l e R s m args below meth c H1 locs1 cells slots Q (F0 m (pc + 3) ls rest)) : W p l e R s m args below meth c H locs cells slots Q (F0 m pc ls (v :: .ref (ea E r q) :: rest)) := by
  obtain ⟨⟨C2, T2, N2⟩, hc1, hk1, hl, hin, hsm⟩ := hf
  cases Option.some.inj (hc.symm.trans hc1)
  dsimp only at hk1 hl hin hsm
  obtain ⟨b1, b2, b3⟩ := hB
  obtain ⟨hlv, hcv⟩ := b1 r q hL
  have hcv2 := hcv
  unfold cellV at hcv2
  rw [hk, if_pos hci] at hcv2
  obtain ⟨q', hq1, hob⟩ := hcv2
  obtain rfl : q' = (C, T, N) := Option.some.inj (hq1.symm.trans hc)
  have hts := F.2.2.2.2
  have hap := va_apart (own := own) hts hin ty0 hty hnm hT.K hc
  obtain ⟨cell, q1, q2, q3, q4⟩ := hob
  obtain ⟨hS, hfc, kC, hkC, hkind⟩ := hT.K.1 ci _ hc
  obtain ⟨cf, kf, fi, f, hi, hsl⟩ := hS k hk1
  have hlay := hts _ (hin _ (u_in_lay hk1))
  unfold u_lay at hlay
  rw [if_pos hfin] at hlay
  have hst := (u_facts hfc hkC (u_lays hts hin hk1) hi).1
  have hcf : m.cls = cf := by
    obtain ⟨_, _, c', _, _, _, -, -, hf', -, -, -, hown2, -⟩ := Cond.laysFinal_spec hlay
    have e1 : c' = cf := by have := hi.symm.trans hf'; simp at this; exact this.1.symm
    rw [hdecl] at hown2
    rw [← e1]; exact Option.some.inj (F.2.2.2.1.symm.trans hown2)
  have h6 := u_fits hfc hkC hkind (Or.inr hlay) hi (by rw [hty k hk1, hte]) hna hfi
  have hi2 : s.fieldFound? C (T k).2.1 (T k).2.2.1 = some (cf, kf, fi, f) := by rw [hsm] at hi; exact hi
  refine W.putFinK F.1 F.2.1 F.2.2.2.1 (hts _ hl) hi2 hst hcf hin2 (by rw [q2]; exact h6) q1 q3 (by rw [hsl]; exact k2_hasslot (q4 k hk1)) rfl rfl hdg fun H' e1 e2 e3 => ?_
  rw [hsl] at e1 ⊢
  refine kk H' _ ⟨b1.upd hT.2.1 hL ?_ e3, b2.put e2 e3 ⟨r, q, ⟨hlv, hr⟩, rfl⟩, e2.trans b3⟩
  unfold cellV
  rw [hk, if_pos hci]
  exact ⟨_, hc, ⟨_, e1, q2, q3, t_set q4 hap hk1 _⟩⟩
/-- a reference is read from a field -/
theorem bgetR {index r q k ci N r' q' : Nat} (F : CallFix p m c cc nL s args TB own) (hT : Stat E s) (hB : BW E s H locs V L n) (hf : FW own index ci k) (hL : L r q) (hk : kd r q = (ci, N)) (hc : ci < 10) (hn : V r q k = .ref (ea E r' q')) (hdg : decode cc pc = .ok (.getfield index, 3))
    (kk : W p l e R s m args below meth c H locs cells slots Q (F0 m (pc + 3) ls (.ref (ea E r' q') :: rest))) : W p l e R s m args below meth c H locs cells slots Q (F0 m pc ls (.ref (ea E r q) :: rest)) := by
  obtain ⟨⟨C, T, N'⟩, hc1, hk1, hl, hin, hsm⟩ := hf
  obtain ⟨hlv, hcv⟩ := hB.1 r q hL
  unfold cellV at hcv
  rw [hk, if_pos hc] at hcv
  obtain ⟨q2, hq1, hob⟩ := hcv
  obtain rfl : q2 = (C, T, N') := Option.some.inj (hq1.symm.trans hc1)
  dsimp only at hk1 hl hin hsm hob
  refine va_get (D := E.1) (cl := kcl) (ws := [(ea E r q, .inr (ci, (List.range N').map (V r q)))]) F.1 F.2.1 F.2.2.2.2 hin F.2.2.2.1 hT.K (fun j x hx => ?_) 0 rfl hc1 k hk1 (F.2.2.2.2 _ hl) (fun x hx => by rw [hsm] at hx; exact hx) (v := .ref (ea E r' q')) ?_ hdg kk
  · have hz : j < 1 := (List.getElem?_eq_some_iff.mp hx).1
    rw [show j = 0 by omega] at hx
    cases hx
    exact ⟨_, hc1, hob.to (fun j hj => by simp [vp_V, hj])⟩
  · simp [hk1, hn]
/-- a laid object is put into a laid array -/
theorem bastq {r q j t N r' q' ci : Nat} {C : String} {T : u_T} {M : Nat} {x : Int32} (F : CallFix p m c cc nL s args TB own) (hT : Stat E s) (hB : BW E s H locs V L n) (hty : (tyL E)[t]? = some (E.2.1 t, .object C)) (hc : kcl[ci]? = some (C, T, M)) (hL : L r q) (hr : r ≠ 12) (hk : kd r q = (10 + t, N)) (hL2 : L r' q') (hk2 : kd r' q' = (ci, M)) (hci : ci < 10) (hj : j < N) (hN : N < 2 ^ 31) (hx : x = nI j) (hdg : decode cc pc = .ok (.aastore, 1))
    (kk : ∀ (H1 : Heap) (locs1 : List Loc), BW E s H1 locs1 (vs V r q (updV (V r q) j (.ref (ea E r' q')))) L n → W p l e R s m args below meth c H1 locs1 cells slots Q (F0 m (pc + 1) ls rest)) : W p l e R s m args below meth c H locs cells slots Q (F0 m pc ls (.ref (ea E r' q') :: .int x :: .ref (ea E r q) :: rest)) := by
  subst hx
  obtain ⟨b1, b2, b3⟩ := hB
  obtain ⟨hlv, hcv⟩ := b1 r q hL
  obtain ⟨hlv2, hcv2⟩ := b1 r' q' hL2
  unfold cellV at hcv hcv2
  rw [hk, if_neg (by show ¬ 10 + t < 10; omega), show ((10 + t, N) : Nat × Nat).1 - 10 = t by show 10 + t - 10 = t; omega] at hcv
  have hcv := hcv.eq hr
  rw [hk2, if_pos hci] at hcv2
  obtain ⟨q2, hq1, cellV2, g1, g2, g3, -⟩ := hcv2
  have hcls := (hT.K.1 ci _ hc).2
  obtain ⟨kA, comp, k1, k2, k3, -⟩ := (hT.K.2 t _ hty).2
  have hcomp : comp = E.1.1 ci := Option.some.inj (k3.symm.trans hcls.1)
  subst hcomp
  obtain ⟨kC, hkC, -⟩ := hcls.2
  have hcl : (nI j).toNatClampNeg = j := nI_clamp (Nat.lt_trans hj hN)
  refine W.aast F.1 F.2.1 hcv (fun q h => by cases h) (fun h => by cases h) k1 k2 rfl hkC ⟨nI_nneg (Nat.lt_trans hj hN), by show _ < (arrV _ _ _).slots.size; rw [arrV_size, hcl]; exact hj⟩ g1 (fun q h => by rw [g3] at h; cases h) (by rw [g2]; exact hkC) (by rw [g2]; exact va_assign hcls) rfl rfl hdg fun H1 e z oq => ?_
  refine kk H1 _ ⟨b1.upd hT.2.1 hL ?_ oq, b2.put z oq ⟨r, q, ⟨hlv, hr⟩, rfl⟩, z.trans b3⟩
  unfold cellV
  rw [hk, if_neg (by show ¬ 10 + t < 10; omega), show ((10 + t, N) : Nat × Nat).1 - 10 = t by show 10 + t - 10 = t; omega]
  refine arA.of ?_
  rw [e, hcl, arrV_store]
theorem balen {r q t N : Nat} {ty : FieldType} {x : Int32} (F : CallFix p m c cc nL s args TB own) (hT : Stat E s) (hB : BW E s H locs V L n) (hL : L r q) (hk : kd r q = (10 + t, N)) (ht : (tyL E)[t]? = some (E.2.1 t, ty)) (hx : nI N = x) (hdg : decode cc pc = .ok (.arraylength, 1))
    (kk : W p l e R s m args below meth c H locs cells slots Q (F0 m (pc + 1) ls (.int x :: rest))) : W p l e R s m args below meth c H locs cells slots Q (F0 m pc ls (.ref (ea E r q) :: rest)) := by
  subst hx
  obtain ⟨hlv, hcv⟩ := hB.1 r q hL
  unfold cellV at hcv
  rw [hk, if_neg (by show ¬ 10 + t < 10; omega), show ((10 + t, N) : Nat × Nat).1 - 10 = t by show 10 + t - 10 = t; omega] at hcv
  obtain ⟨cell, c1, c2, c3, c4, c5⟩ := hcv.ex
  exact W.alen (n := nI N) F.1 F.2.1 c1 ⟨c4, by rw [c2]; exact (ArrOf_t hT t ht N (V r q)).2⟩ (by rw [c3, arrV_size] <;> rfl) rfl rfl hdg kk
end ROWSB
