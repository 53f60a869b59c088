/-! The heap of both sides as numbers. Cell (r, p): r < 11 a server's row (0 the server, 1 the trial, 2 3 the slots, 4 .. 10 the history), r = 11 the rest of the class, r = 12 its static arrays, r = 13 the reference. Slot k of a cell holds a number μ r p k, or a reference that never changes (rf). -/
abbrev Mu : Type := Nat → Nat → Nat → Int32
abbrev Sv : Type := Nat → Nat → Int32
def us (S : Sv) (p k : Nat) (v : Int32) : Sv := fun p' k' => if p' = p ∧ k' = k then v else S p' k'
def fo (μ : Mu) (r : Nat) (S : Sv) : Mu := fun r' => if r' = r then S else μ r'
theorem fo_self (μ : Mu) (r : Nat) : fo μ r (μ r) = μ := by
  funext r'
  unfold fo
  split
  · next h => rw [h]
  · rfl
theorem fo_at (μ : Mu) (r : Nat) (S : Sv) : fo μ r S r = S := if_pos rfl
theorem fo_ne (μ : Mu) {r r' : Nat} (S : Sv) (h : r' ≠ r) : fo μ r S r' = μ r' := if_neg h
theorem fo_fo (μ : Mu) (r : Nat) (S T : Sv) : fo (fo μ r S) r T = fo μ r T := by
  funext r'
  unfold fo
  split <;> rfl
theorem fo_comm (μ : Mu) {r q : Nat} (S T : Sv) (h : r ≠ q) : fo (fo μ r S) q T = fo (fo μ q T) r S := by
  funext r'
  unfold fo
  by_cases h1 : r' = q
  · subst h1
    rw [if_pos rfl, if_neg (Ne.symm h), if_pos rfl]
  · rw [if_neg h1]
    split <;> rfl
theorem us_at (S : Sv) (p k : Nat) (v : Int32) : us S p k v p k = v := if_pos ⟨rfl, rfl⟩
theorem us_ne (S : Sv) {p k p' k' : Nat} (v : Int32) (h : ¬ (p' = p ∧ k' = k)) : us S p k v p' k' = S p' k' := if_neg h
/-- what a cell is: below 10 an object of that class of kcl, from 10 on an array (10 int, 11 boolean, 12 char, 13 Line, 14 Timer, 15 Service, 16 Server); how many slots -/
def kd (r p : Nat) : Nat × Nat :=
  if r < 11 then
    (if p = 0 then (3, 11) else if p = 1 then (10, 7) else if p = 2 then (13, 12) else if p < 15 then (1, 16) else if p = 15 then (14, 6) else if p < 22 then (5, 3) else if p = 22 then (15, 8) else (4, 4))
  else if r = 11 then
    (if p = 0 then (6, 6) else if p = 1 then (16, 2) else if p = 2 then (11, 2) else if p = 3 then (0, 3) else if p = 4 then (16, 7) else if p = 5 then (2, 2) else (12, 80))
  else if r = 12 then (10, 7)
  else (10, if p < 11 then 12 else if p < 14 then 9 else if p = 14 then 6 else 12)
def rf (r p k : Nat) : Option (Nat × Nat) :=
  if r < 11 then
    (if p = 0 then (if k = 1 then some (r, 1) else if k = 2 then some (r, 2) else if k = 4 then some (r, 15) else if k = 6 then some (r, 22) else none)
     else if p = 2 then some (r, 3 + k) else if p = 15 then some (r, 16 + k) else if p = 22 then some (r, 23 + k) else none)
  else if r = 11 then
    (if p = 0 then (if k = 0 then some (0, 0) else if k = 1 then some (1, 0) else if k = 2 then some (11, 1) else if k = 3 then some (11, 2) else if k = 4 then some (11, 3) else some (11, 5))
     else if p = 1 then some (2 + k, 0)
     else if p = 3 then (if k = 0 then some (11, 4) else none)
     else if p = 4 then some (4 + k, 0)
     else if p = 5 then (if k = 0 then some (11, 6) else none) else none)
  else if r = 12 then none
  else none
/-- the numbers of the tables, the arrays' classes, the addresses -/
abbrev mE : Type := va_G × (Nat → ClassId) × (Nat → Nat → Nat)
def ea (E : mE) (r p : Nat) : Nat := E.2.2 r p
/-- how many of the law's own arrays there are (region 13) -/
def nlc (E : mE) : Nat := E.2.2 14 0
def live (E : mE) (r p : Nat) : Prop := (r < 11 ∧ p < 31) ∨ (r = 11 ∧ p < 7) ∨ (r = 12 ∧ p < 3) ∨ (r = 13 ∧ p < nlc E)
def ownd (E : mE) (r p : Nat) : Prop := live E r p ∧ r ≠ 12
def sl (E : mE) (μ : Mu) (r p k : Nat) : Value := match rf r p k with
  | some q => .ref (ea E q.1 q.2)
  | none => .int (μ r p k)
theorem sl_i {E : mE} {μ : Mu} {r p k : Nat} (h : rf r p k = none) : sl E μ r p k = .int (μ r p k) := by unfold sl; rw [h]
theorem sl_r {E : mE} {μ : Mu} {r p k r' p' : Nat} (h : rf r p k = some (r', p')) : sl E μ r p k = .ref (ea E r' p') := by unfold sl; rw [h]
/-- an array's cell: of the class's static arrays (region 12) the monitor, the hash and the mark of the machine's are not told -/
def arA (r : Nat) (x : Option Cell) (cA : ClassId) (n : Nat) (f : Nat → Value) : Prop :=
  if r = 12 then ∃ cell : Cell, x = some cell ∧ cell.cls = cA ∧ cell.slots = (arrV cA n f).slots ∧ (∀ k, cell.vm ≠ .statics k) ∧ cell.vm ≠ .unknown else x = some (arrV cA n f)
theorem arA.eq {r : Nat} {x : Option Cell} {cA : ClassId} {n : Nat} {f : Nat → Value} (h : arA r x cA n f) (hr : r ≠ 12) : x = some (arrV cA n f) := by
  unfold arA at h
  rw [if_neg hr] at h
  exact h
theorem arA.of {r : Nat} {x : Option Cell} {cA : ClassId} {n : Nat} {f : Nat → Value} (h : x = some (arrV cA n f)) : arA r x cA n f := by
  unfold arA
  split
  · exact ⟨_, h, rfl, rfl, (fun k z => by cases z), (fun z => by cases z)⟩
  · exact h
theorem arA.ex {r : Nat} {x : Option Cell} {cA : ClassId} {n : Nat} {f : Nat → Value} (h : arA r x cA n f) : ∃ cell : Cell, x = some cell ∧ cell.cls = cA ∧ cell.slots = (arrV cA n f).slots ∧ (∀ k, cell.vm ≠ .statics k) ∧ cell.vm ≠ .unknown := by
  unfold arA at h
  split at h
  · exact h
  · exact ⟨_, h, rfl, rfl, (fun k z => by cases z), (fun z => by cases z)⟩
def cellAt (E : mE) (μ : Mu) (H : Heap) (r p : Nat) : Prop :=
  if (kd r p).1 < 10 then ∃ q : vw_C, kcl[(kd r p).1]? = some q ∧ t_OB (ea E r p) (E.1.1 (kd r p).1) q.2.2 (E.1.2 (kd r p).1) H (sl E μ r p)
  else arA r (H[ea E r p]?) (E.2.1 ((kd r p).1 - 10)) (kd r p).2 (sl E μ r p)
def MB (E : mE) (μ : Mu) (H : Heap) : Prop := ∀ r p, live E r p → cellAt E μ H r p
def tyL (E : mE) : List (ClassId × FieldType) := [(E.2.1 0, .int), (E.2.1 1, .boolean), (E.2.1 2, .char), (E.2.1 3, .object RX1), (E.2.1 4, .object RX5), (E.2.1 5, .object RX4), (E.2.1 6, .object RX3)]
def AA (E : mE) : Nat → Prop := fun q => ∃ r p, ownd E r p ∧ q = ea E r p
def Inj (E : mE) : Prop := ∀ r p r' p', live E r p → live E r' p' → ea E r p = ea E r' p' → r = r' ∧ p = p'
/-- the words that another row of the kit moves -/
def nwF : List (String × Nat × String × String × String × String) := [(RX3, 9, "InterruptInn", "FIRST_VALUES", "[I", "InterruptInn"), (RX3, 86, "InterruptInn", "LEAST_VALUES", "[I", "InterruptInn"), (RX3, 89, "InterruptInn", "MOST_VALUES", "[I", "InterruptInn")]
def nwM : List (String × Nat × MethodName × String) := [(RX3, 29, yX1_init, "InterruptInn"), (RX3, 36, yX5_init, "InterruptInn"), (RX3, 43, yX4_init, "InterruptInn"), (RX3, 82, yX6_within, "InterruptInn")]
def St0 (D : va_G) (cA : Nat → ClassId) (U : State) : Prop := va_K D kcl (tyL (D, cA, fun _ _ => 0)) U ∧ (∀ q ∈ nwF, va_Nw (.fieldLinkNest q.1 q.2.1 q.2.2.1 q.2.2.2.1 q.2.2.2.2.1 q.2.2.2.2.2) U) ∧ (∀ q ∈ nwM, va_Nw (.methodLinkNest q.1 q.2.1 q.2.2.1 q.2.2.2) U) ∧ (∀ C ∈ [RX1, RX5, RX4, RX3], va_AO C U) ∧ va_Nw (.castable "[I" "java/lang/Cloneable") U
def Zs (a0 a1 a2 : Nat) (A : Nat → Prop) (U : State) (H : Heap) : Prop := va_Z "InterruptInn" "FIRST_VALUES" "[I" (.ref a0) A U H ∧ va_Z "InterruptInn" "LEAST_VALUES" "[I" (.ref a1) A U H ∧ va_Z "InterruptInn" "MOST_VALUES" "[I" (.ref a2) A U H
/-- what a method is given of the tables and of the addresses -/
def Stat (E : mE) (U : State) : Prop := St0 E.1 E.2.1 U ∧ Inj E ∧ Zs (ea E 12 0) (ea E 12 1) (ea E 12 2) (AA E) U U.heap
theorem Stat.K {E : mE} {U : State} (h : Stat E U) : va_K E.1 kcl (tyL E) U := h.1.1
theorem St0.moved {D : va_G} {cA : Nat → ClassId} {s U : State} (hW : s.WarmedH U.vm) (h : St0 D cA s) : St0 D cA U := by
  obtain ⟨h1, h2, h3, h4, h5⟩ := h
  exact ⟨h1.moved hW.alike, fun q hq => (h2 q hq).warmF hW, fun q hq => (h3 q hq).warmM hW, fun C hC => (h4 C hC).moved hW.alike, h5.warmC hW⟩
theorem va_AO.same0 {C : String} {u U : State} (h : u.vm = U.vm) (hZ : va_AO C u) : va_AO C U := va_AO.moved (by rw [h]; exact Vm.Alike.refl _) hZ
theorem St0.same {D : va_G} {cA : Nat → ClassId} {s U : State} (h : s.vm = U.vm) (hS : St0 D cA s) : St0 D cA U := by
  obtain ⟨h1, h2, h3, h4, h5⟩ := hS
  have ha : s.vm.Alike U.vm := by rw [h]; exact Vm.Alike.refl _
  exact ⟨h1.moved ha, fun q hq => (h2 q hq).same rfl h, fun q hq => (h3 q hq).same rfl h, fun C hC => (h4 C hC).moved ha, h5.same rfl h⟩
theorem Zs.kept {a0 a1 a2 : Nat} {A : Nat → Prop} {s U : State} {H H1 : Heap} (hvm : s.vm.Alike U.vm) (hq : ∀ a : Nat, a < H.size → ¬ A a → H1[a]? = H[a]?) (h : Zs a0 a1 a2 A s H) : Zs a0 a1 a2 A U H1 :=
  ⟨(h.1.kept hq).moved hvm, (h.2.1.kept hq).moved hvm, (h.2.2.kept hq).moved hvm⟩
theorem Stat.moved {E : mE} {s U : State} {H : Heap} {locs : List Loc} (hW : s.WarmedH U.vm) (hS : va_S (AA E) s.heap H locs) (hU : U.heap = H) (h : Stat E s) : Stat E U := by
  obtain ⟨h1, h2, h3⟩ := h
  refine ⟨h1.moved hW, h2, ?_⟩
  rw [hU]
  exact Zs.kept hW.alike (fun a g1 g2 => hS.2.1 a g1 g2) h3
theorem Stat.same {E : mE} {s U : State} (hv : s.vm = U.vm) (hh : s.heap = U.heap) (h : Stat E s) : Stat E U := by
  obtain ⟨h1, h2, h3⟩ := h
  refine ⟨h1.same hv, h2, ?_⟩
  rw [← hh]
  exact Zs.kept (by rw [hv]; exact Vm.Alike.refl _) (fun a _ _ => rfl) h3
/-- the world in a method: the heap holds μ; what is not its own stays -/
def Wd (E : mE) (s : State) (H : Heap) (locs : List Loc) (μ : Mu) : Prop := MB E μ H ∧ va_S (AA E) s.heap H locs
theorem Wd.to {E : mE} {s : State} {H : Heap} {locs : List Loc} {μ μ' : Mu} (h : Wd E s H locs μ) (e : μ = μ') : Wd E s H locs μ' := e ▸ h
theorem Wd.foc {E : mE} {s : State} {H : Heap} {locs : List Loc} {μ : Mu} (h : Wd E s H locs μ) (r : Nat) : Wd E s H locs (fo μ r (μ r)) := by rw [fo_self]; exact h
def isO (E : mE) (r p ci N : Nat) : Prop := live E r p ∧ kd r p = (ci, N)
theorem isO.cell {E : mE} {μ : Mu} {H : Heap} {r p ci N : Nat} (h : isO E r p ci N) (hc : ci < 10) (hM : MB E μ H) : ∃ q : vw_C, kcl[ci]? = some q ∧ t_OB (ea E r p) (E.1.1 ci) q.2.2 (E.1.2 ci) H (sl E μ r p) := by
  have h1 := hM r p h.1
  unfold cellAt at h1
  rw [h.2] at h1
  rw [if_pos hc] at h1
  exact h1
theorem isO.arA {E : mE} {μ : Mu} {H : Heap} {r p t n : Nat} (h : isO E r p (10 + t) n) (hM : MB E μ H) : arA r (H[ea E r p]?) (E.2.1 t) n (sl E μ r p) := by
  have h1 := hM r p h.1
  unfold cellAt at h1
  rw [h.2] at h1
  rw [if_neg (by show ¬ 10 + t < 10; omega), show ((10 + t, n) : Nat × Nat).1 - 10 = t by show 10 + t - 10 = t; omega] at h1
  exact h1
theorem isO.arr {E : mE} {μ : Mu} {H : Heap} {r p t n : Nat} (h : isO E r p (10 + t) n) (hr : r ≠ 12) (hM : MB E μ H) : H[ea E r p]? = some (arrV (E.2.1 t) n (sl E μ r p)) := (h.arA hM).eq hr
/-- a store of one number: all other cells stay -/
theorem MB.set {E : mE} {μ : Mu} {S : Sv} {H H1 : Heap} {r p k : Nat} {v : Int32} (hM : MB E (fo μ r S) H) (hI : Inj E) (hl : live E r p) (hc : cellAt E (fo μ r (us S p k v)) H1 r p) (oq : ∀ q : Nat, q ≠ ea E r p → H1[q]? = H[q]?) : MB E (fo μ r (us S p k v)) H1 := by
  intro r' p' hl'
  by_cases he : r' = r ∧ p' = p
  · obtain ⟨rfl, rfl⟩ := he
    exact hc
  · have hne : ea E r' p' ≠ ea E r p := fun e => he (hI _ _ _ _ hl' hl e)
    have h0 := hM r' p' hl'
    have hs : ∀ k', sl E (fo μ r (us S p k v)) r' p' k' = sl E (fo μ r S) r' p' k' := by
      intro k'
      unfold sl
      split
      · rfl
      · congr 1
        unfold fo
        split
        · next h2 => exact us_ne _ _ (fun z => he ⟨h2, z.1⟩)
        · rfl
    have hs2 : sl E (fo μ r (us S p k v)) r' p' = sl E (fo μ r S) r' p' := funext hs
    unfold cellAt at h0 ⊢
    rw [hs2]
    split
    · next h2 =>
      rw [if_pos h2] at h0
      obtain ⟨q, g1, g2⟩ := h0
      exact ⟨q, g1, g2.kept (oq _ hne)⟩
    · next h2 =>
      rw [if_neg h2] at h0
      rw [oq _ hne]
      exact h0
theorem ArrOf_t {E : mE} {s : State} (h : Stat E s) (t : Nat) {ty : FieldType} (ht : (tyL E)[t]? = some (E.2.1 t, ty)) (n : Nat) (f : Nat → Value) : s.isArrayOf (arrV (E.2.1 t) n f) ty := (h.K.2 t _ ht).1 n f
section ROWS
variable {p : Program} {l : Launch} {e : Env} {R : Room} {s : State} {m : MethodId} {args : Array Value} {below : List Frame} {meth : Method} {c : Code} {H : Heap} {locs : List Loc} {cells slots : Nat} {Q : State → Prop}
variable {cc : ByteArray} {nL pc : Nat} {ls : Array Slot} {rest : List Value} {own : String} {E : mE} {μ : Mu} {S : Sv}
theorem jget {index r q k ci N : Nat} (F : CallFix p m c cc nL s args TB own) (hT : Stat E s) (hW : Wd E s H locs (fo μ r S)) (hf : FW own index ci k) (hO : isO E r q ci N) (hc : ci < 10) (hn : rf r q k = none) (hdg : decode cc pc = .ok (.getfield index, 3))
    (kk : W p l e R s m args below meth c H locs cells slots Q (F0 m (pc + 3) ls (.int (S q k) :: rest))) : W p l e R s m args below meth c H locs cells slots Q (F0 m pc ls (.ref (ea E r q) :: rest)) := by
  obtain ⟨⟨C, T, N'⟩, hc1, hk1, hl, hin, hsm⟩ := hf
  obtain ⟨q', hq1, hob⟩ := hO.cell hc hW.1
  obtain rfl : q' = (C, T, N') := Option.some.inj (hq1.symm.trans hc1)
  dsimp only at hk1 hl hin hsm hob
  refine va_get (D := E.1) (cl := kcl) (ws := [(ea E r q, .inr (ci, (List.range N').map (sl E (fo μ r S) r q)))]) F.1 F.2.1 F.2.2.2.2 hin F.2.2.2.1 hT.K (fun j x hx => ?_) 0 rfl hc1 k hk1 (F.2.2.2.2 _ hl) (fun x hx => by rw [hsm] at hx; exact hx) (v := .int (S q k)) ?_ hdg kk
  · have hz : j < 1 := (List.getElem?_eq_some_iff.mp hx).1
    rw [show j = 0 by omega] at hx
    cases hx
    exact ⟨_, hc1, hob.to (fun j hj => by simp [vp_V, hj])⟩
  · simp [hk1, sl_i hn, fo_at]
theorem jgetR (F : CallFix p m c cc nL s args TB own) (hT : Stat E s) (hW : Wd E s H locs μ) {index r q k ci N r' q' : Nat} (hf : FW own index ci k) (hO : isO E r q ci N) (hc : ci < 10) (hn : rf r q k = some (r', q')) (hdg : decode cc pc = .ok (.getfield index, 3))
    (kk : W p l e R s m args below meth c H locs cells slots Q (F0 m (pc + 3) ls (.ref (ea E r' q') :: rest))) : W p l e R s m args below meth c H locs cells slots Q (F0 m pc ls (.ref (ea E r q) :: rest)) := by
  obtain ⟨⟨C, T, N'⟩, hc1, hk1, hl, hin, hsm⟩ := hf
  obtain ⟨q2, hq1, hob⟩ := hO.cell hc hW.1
  obtain rfl : q2 = (C, T, N') := Option.some.inj (hq1.symm.trans hc1)
  dsimp only at hk1 hl hin hsm hob
  refine va_get (D := E.1) (cl := kcl) (ws := [(ea E r q, .inr (ci, (List.range N').map (sl E μ r q)))]) F.1 F.2.1 F.2.2.2.2 hin F.2.2.2.1 hT.K (fun j x hx => ?_) 0 rfl hc1 k hk1 (F.2.2.2.2 _ hl) (fun x hx => by rw [hsm] at hx; exact hx) (v := .ref (ea E r' q')) ?_ hdg kk
  · have hz : j < 1 := (List.getElem?_eq_some_iff.mp hx).1
    rw [show j = 0 by omega] at hx
    cases hx
    exact ⟨_, hc1, hob.to (fun j hj => by simp [vp_V, hj])⟩
  · simp [hk1, sl_r hn]
theorem jput {index r q k ci N : Nat} (F : CallFix p m c cc nL s args TB own) (hT : Stat E s) (hW : Wd E s H locs (fo μ r S)) {ty : FieldType} {v : Int32} (hf : FW own index ci k) (ht : FT ci k ty false) (hO : isO E r q ci N) (hc : ci < 10) (hr : r ≠ 12) (hn : rf r q k = none) (hna : narrow ty (.int v) = .int v) (hfi : fits ty (.int v) = true) (hdg : decode cc pc = .ok (.putfield index, 3))
    (kk : ∀ (S' : Sv) (H : Heap) (locs : List Loc), S' = us S q k v → Wd E s H locs (fo μ r S') → W p l e R s m args below meth c H locs cells slots Q (F0 m (pc + 3) ls rest)) : W p l e R s m args below meth c H locs cells slots Q (F0 m pc ls (.int v :: .ref (ea E r q) :: rest)) := by
  obtain ⟨⟨C, T, N'⟩, hc1, hk1, hl, hin, hsm⟩ := hf
  obtain ⟨⟨C2, T2, N2⟩, ty0, hc2, hty, hnm, hte, hfin⟩ := ht
  cases Option.some.inj (hc1.symm.trans hc2)
  obtain ⟨q', hq1, hob⟩ := hO.cell hc hW.1
  obtain rfl : q' = (C, T, N') := Option.some.inj (hq1.symm.trans hc1)
  dsimp only at hk1 hl hin hsm hob hty hnm hte hfin
  have hts := F.2.2.2.2
  have hap := va_apart (own := own) hts hin ty0 hty hnm hT.K hc1
  obtain ⟨cell, q1, q2, q3, q4⟩ := hob
  obtain ⟨hS, hfc, kC, hkC, hkind⟩ := hT.K.1 ci _ hc1
  obtain ⟨cf, kf, fi, f, hi, hsl⟩ := hS k hk1
  have hlay := hts _ (hin _ (u_in_lay hk1))
  unfold u_lay at hlay
  rw [if_neg (by rw [hfin]; decide)] at hlay
  have hst := (u_facts hfc hkC (u_lays hts hin hk1) hi).1
  have h6 := u_store hfc hkC hkind hlay hi (by rw [hty k hk1, hte]) hna hfi
  have hi2 : s.fieldFound? C (T k).2.1 (T k).2.2.1 = some (cf, kf, fi, f) := by rw [hsm] at hi; exact hi
  refine W.putK F.1 F.2.1 (f := f) ⟨F.2.2.2.1, hts _ hl, ⟨_, _, _, hi2⟩, hst⟩ (by rw [q2]; exact h6) q1 q3 (by rw [hsl]; exact k2_hasslot (q4 k hk1)) rfl rfl hdg fun H' e1 e2 e3 => ?_
  rw [hsl] at e1 ⊢
  have hown : AA E (ea E r q) := ⟨r, q, ⟨hO.1, hr⟩, rfl⟩
  refine kk _ H' _ rfl ⟨hW.1.set hT.2.1 hO.1 ?_ e3, hW.2.put e2 e3 hown⟩
  unfold cellAt
  rw [hO.2, if_pos hc]
  refine ⟨_, hc1, t_OB.to (V := updV (sl E (fo μ r S) r q) k (.int v)) ⟨_, e1, q2, q3, t_set q4 hap hk1 _⟩ (fun j hj => ?_)⟩
  by_cases hjk : j = k
  · subst hjk
    rw [sl_i hn, fo_at, us_at]
    simp [updV]
  · simp only [updV, if_neg hjk]
    unfold sl
    split
    · rfl
    · rw [fo_at, fo_at, us_ne _ _ (fun z => hjk z.2)]
/-! arrays -/
theorem jarr {E : mE} {t n j : Nat} {x : Int32} (hj : j < n) (hn : n < 2 ^ 31) (hx : x = nI j) {f : Nat → Value} : ¬ (x < 0 ∨ (arrV (E.2.1 t) n f).slots.size ≤ x.toNatClampNeg) ∧ (arrV (E.2.1 t) n f).slots[x.toNatClampNeg]? = some (f j) := by
  subst hx
  rw [arrV_size]
  refine ⟨nI_in hj hn, ?_⟩
  rw [nI_clamp (Nat.lt_trans hj hn)]
  exact arrV_read _ _ hj
theorem jiald {r q n : Nat} (F : CallFix p m c cc nL s args TB own) (hT : Stat E s) (hW : Wd E s H locs (fo μ r S)) {x : Int32} (j : Nat) (hO : isO E r q 10 n) (hj : j < n) (hn : n < 2 ^ 31) (hx : x = nI j) (hr : rf r q j = none) (hdg : decode cc pc = .ok (.iaload, 1))
    (kk : W p l e R s m args below meth c H locs cells slots Q (F0 m (pc + 1) ls (.int (S q j) :: rest))) : W p l e R s m args below meth c H locs cells slots Q (F0 m pc ls (.int x :: .ref (ea E r q) :: rest)) := by
  obtain ⟨h1, h2⟩ := jarr (E := E) (t := 0) (f := sl E (fo μ r S) r q) hj hn hx
  obtain ⟨cell, c1, c2, c3, c4, c5⟩ := (isO.arA (t := 0) hO hW.1).ex
  exact W.iald (v := .int (S q j)) F.1 F.2.1 c1 ⟨c4, by rw [c2]; exact (ArrOf_t hT 0 rfl n (sl E (fo μ r S) r q)).2⟩ c5 (by rw [c3]; exact h1) (by rw [c3, h2, sl_i hr, fo_at]) rfl rfl hdg kk
theorem jzald {r q n : Nat} (F : CallFix p m c cc nL s args TB own) (hT : Stat E s) (hW : Wd E s H locs (fo μ r S)) {x : Int32} (j : Nat) (hO : isO E r q 11 n) (hj : j < n) (hn : n < 2 ^ 31) (hx : x = nI j) (hr : rf r q j = none) (hdg : decode cc pc = .ok (.baload, 1))
    (kk : W p l e R s m args below meth c H locs cells slots Q (F0 m (pc + 1) ls (.int (S q j) :: rest))) : W p l e R s m args below meth c H locs cells slots Q (F0 m pc ls (.int x :: .ref (ea E r q) :: rest)) := by
  obtain ⟨h1, h2⟩ := jarr (E := E) (t := 1) (f := sl E (fo μ r S) r q) hj hn hx
  obtain ⟨cell, c1, c2, c3, c4, c5⟩ := (isO.arA (t := 1) hO hW.1).ex
  exact W.zald (v := .int (S q j)) F.1 F.2.1 c1 ⟨c4, by rw [c2]; exact (ArrOf_t hT 1 rfl n (sl E (fo μ r S) r q)).2⟩ c5 (by rw [c3]; exact h1) (by rw [c3, h2, sl_i hr, fo_at]) rfl rfl hdg kk
theorem jcald {r q n : Nat} (F : CallFix p m c cc nL s args TB own) (hT : Stat E s) (hW : Wd E s H locs (fo μ r S)) {x : Int32} (j : Nat) (hO : isO E r q 12 n) (hj : j < n) (hn : n < 2 ^ 31) (hx : x = nI j) (hr : rf r q j = none) (hdg : decode cc pc = .ok (.caload, 1))
    (kk : W p l e R s m args below meth c H locs cells slots Q (F0 m (pc + 1) ls (.int (S q j) :: rest))) : W p l e R s m args below meth c H locs cells slots Q (F0 m pc ls (.int x :: .ref (ea E r q) :: rest)) := by
  obtain ⟨h1, h2⟩ := jarr (E := E) (t := 2) (f := sl E (fo μ r S) r q) hj hn hx
  obtain ⟨cell, c1, c2, c3, c4, c5⟩ := (isO.arA (t := 2) hO hW.1).ex
  exact W.cald (v := .int (S q j)) F.1 F.2.1 c1 ⟨c4, by rw [c2]; exact (ArrOf_t hT 2 rfl n (sl E (fo μ r S) r q)).2⟩ c5 (by rw [c3]; exact h1) (by rw [c3, h2, sl_i hr, fo_at]) rfl rfl hdg kk
theorem jaald (F : CallFix p m c cc nL s args TB own) (hT : Stat E s) (hW : Wd E s H locs μ) {r q n t r' q' : Nat} {C : String} {x : Int32} (j : Nat) (hO : isO E r q (10 + t) n) (ht : (tyL E)[t]? = some (E.2.1 t, .object C)) (hj : j < n) (hn : n < 2 ^ 31) (hx : x = nI j) (hr : rf r q j = some (r', q')) (hdg : decode cc pc = .ok (.aaload, 1))
    (kk : W p l e R s m args below meth c H locs cells slots Q (F0 m (pc + 1) ls (.ref (ea E r' q') :: rest))) : W p l e R s m args below meth c H locs cells slots Q (F0 m pc ls (.int x :: .ref (ea E r q) :: rest)) := by
  obtain ⟨h1, h2⟩ := jarr (E := E) (t := t) (f := sl E μ r q) hj hn hx
  obtain ⟨cell, c1, c2, c3, c4, c5⟩ := (isO.arA hO hW.1).ex
  exact W.aald (v := .ref (ea E r' q')) (ty := .object C) F.1 F.2.1 c1 ⟨c4, by rw [c2]; exact (ArrOf_t hT t ht n (sl E μ r q)).2⟩ rfl c5 (by rw [c3]; exact h1) (by rw [c3, h2, sl_r hr]) rfl rfl hdg kk
theorem jalen (F : CallFix p m c cc nL s args TB own) (hT : Stat E s) (hW : Wd E s H locs μ) {r q n t : Nat} {ty : FieldType} {x : Int32} (hO : isO E r q (10 + t) n) (ht : (tyL E)[t]? = some (E.2.1 t, ty)) (hx : nI n = x) (hdg : decode cc pc = .ok (.arraylength, 1))
    (kk : W p l e R s m args below meth c H locs cells slots Q (F0 m (pc + 1) ls (.int x :: rest))) : W p l e R s m args below meth c H locs cells slots Q (F0 m pc ls (.ref (ea E r q) :: rest)) := by
  subst hx
  obtain ⟨cell, c1, c2, c3, c4, c5⟩ := (isO.arA hO hW.1).ex
  exact W.alen (n := nI n) F.1 F.2.1 c1 ⟨c4, by rw [c2]; exact (ArrOf_t hT t ht n (sl E μ r q)).2⟩ (by rw [c3, arrV_size] <;> rfl) rfl rfl hdg kk
theorem jcst {E : mE} {μ : Mu} {S : Sv} {r q j t n : Nat} {H' H : Heap} {v : Int32} (hO : isO E r q (10 + t) n) (hr : rf r q j = none) (hj : j < 2 ^ 31) (e1 : H'[ea E r q]? = some ((arrV (E.2.1 t) n (sl E (fo μ r S) r q)).setSlot (nI j).toNatClampNeg (.int v))) : cellAt E (fo μ r (us S q j v)) H' r q := by
  unfold cellAt
  rw [hO.2, if_neg (by show ¬ 10 + t < 10; omega), show ((10 + t, n) : Nat × Nat).1 - 10 = t by show 10 + t - 10 = t; omega]
  refine arA.of ?_
  rw [e1, arrV_store, nI_clamp hj]
  congr 2
  funext z
  by_cases hz : z = j
  · subst hz
    rw [sl_i hr, fo_at, us_at]
    simp [updV]
  · simp only [updV, if_neg hz]
    unfold sl
    split
    · rfl
    · rw [fo_at, fo_at, us_ne _ _ (fun w => hz w.2)]
theorem jiast {r q n : Nat} (F : CallFix p m c cc nL s args TB own) (hT : Stat E s) (hW : Wd E s H locs (fo μ r S)) {x v : Int32} (j : Nat) (hO : isO E r q 10 n) (hr2 : r ≠ 12) (hj : j < n) (hn : n < 2 ^ 31) (hx : x = nI j) (hr : rf r q j = none) (hdg : decode cc pc = .ok (.iastore, 1))
    (kk : ∀ (S' : Sv) (H : Heap) (locs : List Loc), S' = us S q j v → Wd E s H locs (fo μ r S') → W p l e R s m args below meth c H locs cells slots Q (F0 m (pc + 1) ls rest)) : W p l e R s m args below meth c H locs cells slots Q (F0 m pc ls (.int v :: .int x :: .ref (ea E r q) :: rest)) := by
  obtain ⟨h1, h2⟩ := jarr (E := E) (t := 0) (f := sl E (fo μ r S) r q) hj hn hx
  refine W.iast F.1 F.2.1 (isO.arr (t := 0) hO hr2 hW.1) (ArrOf_t hT 0 rfl _ _) (fun z => by cases z) h1 rfl rfl hdg fun H' e1 e2 e3 => ?_
  subst hx
  exact kk _ H' _ rfl ⟨hW.1.set hT.2.1 hO.1 (jcst (H := H) (t := 0) hO hr (Nat.lt_trans hj hn) e1) e3, hW.2.put e2 e3 ⟨r, q, ⟨hO.1, hr2⟩, rfl⟩⟩
theorem jzast {r q n : Nat} (F : CallFix p m c cc nL s args TB own) (hT : Stat E s) (hW : Wd E s H locs (fo μ r S)) {x v : Int32} (j : Nat) (hO : isO E r q 11 n) (hr2 : r ≠ 12) (hj : j < n) (hn : n < 2 ^ 31) (hx : x = nI j) (hr : rf r q j = none) (hna : narrow .boolean (.int v) = .int v) (hdg : decode cc pc = .ok (.bastore, 1))
    (kk : ∀ (S' : Sv) (H : Heap) (locs : List Loc), S' = us S q j v → Wd E s H locs (fo μ r S') → W p l e R s m args below meth c H locs cells slots Q (F0 m (pc + 1) ls rest)) : W p l e R s m args below meth c H locs cells slots Q (F0 m pc ls (.int v :: .int x :: .ref (ea E r q) :: rest)) := by
  obtain ⟨h1, h2⟩ := jarr (E := E) (t := 1) (f := sl E (fo μ r S) r q) hj hn hx
  refine W.zast F.1 F.2.1 (isO.arr (t := 1) hO hr2 hW.1) (ArrOf_t hT 1 rfl _ _) (fun z => by cases z) h1 rfl rfl hdg fun H' e1 e2 e3 => ?_
  subst hx
  rw [hna] at e1
  exact kk _ H' _ rfl ⟨hW.1.set hT.2.1 hO.1 (jcst (H := H) (t := 1) hO hr (Nat.lt_trans hj hn) e1) e3, hW.2.put e2 e3 ⟨r, q, ⟨hO.1, hr2⟩, rfl⟩⟩
theorem jcast {r q n : Nat} (F : CallFix p m c cc nL s args TB own) (hT : Stat E s) (hW : Wd E s H locs (fo μ r S)) {x v : Int32} (j : Nat) (hO : isO E r q 12 n) (hr2 : r ≠ 12) (hj : j < n) (hn : n < 2 ^ 31) (hx : x = nI j) (hr : rf r q j = none) (hna : narrow .char (.int v) = .int v) (hdg : decode cc pc = .ok (.castore, 1))
    (kk : ∀ (S' : Sv) (H : Heap) (locs : List Loc), S' = us S q j v → Wd E s H locs (fo μ r S') → W p l e R s m args below meth c H locs cells slots Q (F0 m (pc + 1) ls rest)) : W p l e R s m args below meth c H locs cells slots Q (F0 m pc ls (.int v :: .int x :: .ref (ea E r q) :: rest)) := by
  obtain ⟨h1, h2⟩ := jarr (E := E) (t := 2) (f := sl E (fo μ r S) r q) hj hn hx
  refine W.cast F.1 F.2.1 (isO.arr (t := 2) hO hr2 hW.1) (ArrOf_t hT 2 rfl _ _) (fun z => by cases z) h1 rfl rfl hdg fun H' e1 e2 e3 => ?_
  subst hx
  rw [hna] at e1
  exact kk _ H' _ rfl ⟨hW.1.set hT.2.1 hO.1 (jcst (H := H) (t := 2) hO hr (Nat.lt_trans hj hn) e1) e3, hW.2.put e2 e3 ⟨r, q, ⟨hO.1, hr2⟩, rfl⟩⟩
end ROWS
/-! contracts -/
abbrev rmO (fr lo : Nat) : Room := { frames := fr, cells := 0, slots := 0, locals := lo }
abbrev Pj (E : mE) (av : List Value) (μ : Mu) : Array Value → State → Prop := va_Pc av (fun U => Stat E U ∧ MB E μ U.heap)
/-- a method that answers a number (a boolean) -/
abbrev CtI (l : Launch) (E : mE) (y : MethodName) (cd : ByteArray) (mL : Nat) (rt : Option FieldType) (fr lo : Nat) (av : List Value) (μ : Mu) (post : Int32 → Mu → Prop) : Prop := Met l y (Cond.code y cd mL rt :: TB) (rmO fr lo) (Pj E av μ) (va_Qi post (fun μ' t => MB E μ' t.heap) (AA E)) 0 0 (AA E)
abbrev CtV (l : Launch) (E : mE) (y : MethodName) (cd : ByteArray) (mL : Nat) (fr lo : Nat) (av : List Value) (μ : Mu) (post : Mu → Prop) : Prop := Met l y (Cond.code y cd mL none :: TB) (rmO fr lo) (Pj E av μ) (va_Qv post (fun μ' t => MB E μ' t.heap) (AA E)) 0 0 (AA E)
abbrev CtL (l : Launch) (E : mE) (y : MethodName) (cd : ByteArray) (mL : Nat) (fr lo : Nat) (av : List Value) (μ : Mu) (post : Int64 → Mu → Prop) : Prop := Met l y (Cond.code y cd mL (some .long) :: TB) (rmO fr lo) (Pj E av μ) (va_Ql post (fun μ' t => MB E μ' t.heap) (AA E)) 0 0 (AA E)
theorem Pj_blind {E : mE} {av : List Value} {μ : Mu} : FrameBlind (Pj E av μ) := fun a U g mk q => ⟨q.1, q.2.1.same rfl rfl, q.2.2⟩
/-- a method's walk, from its entry -/
theorem jMet {l : Launch} {E : mE} {y : MethodName} {cd : ByteArray} {mL : Nat} {rt : Option FieldType} {fr lo : Nat} {av : List Value} {μ : Mu} {Qc : Array Value → State → Outcome → State → Prop} (hy : plainName y.cls = true) (hlen : (lg_sl av).length ≤ mL)
    (body : ∀ (p : Program) (e : Env) (s : State) (m : MethodId) (below : List Frame) (meth : Method) (c : Code) (ls : Array Slot), CallFix p m c cd mL s av.toArray TB y.cls → Stat E s → meth.sig.returnType = rt → meth.locks = false → Wd E s s.heap [] μ → lv_has ls mL (lv_args 0 av) → W p l e (rmO fr lo) s m av.toArray below meth c s.heap [] 0 0 (MQ below Qc av.toArray s 0 0 (AA E)) (F0 m 0 ls [])) :
    Met l y (Cond.code y cd mL rt :: TB) (rmO fr lo) (Pj E av μ) Qc 0 0 (AA E) := by
  refine Met.ofW (cc := cd) (maxL := mL) (ret := rt) hy rfl ?_
  intro p e s m args below meth c s₁ B hml hv
  obtain ⟨rfl, hT, hM⟩ := hv
  have hts := atoms_spec (ws := Cond.code y cd mL rt :: TB) B.pre
  rw [lg_entry_eq]
  exact body p e s m below meth c _ ⟨B.exec, B.bytes, hml, findClass_of_methodNamed B.named, fun w hw => hts w (List.mem_cons_of_mem _ hw)⟩ hT B.returns B.notSynchronized ⟨hM, va_S.rf⟩ (lv_entry av hlen)
section ENDS
variable {p : Program} {l : Launch} {e : Env} {R : Room} {s : State} {m : MethodId} {args : Array Value} {below : List Frame} {meth : Method} {c : Code} {H : Heap} {locs : List Loc}
variable {cc : ByteArray} {nL pc : Nat} {ls : Array Slot} {own : String} {E : mE} {μ : Mu}
theorem jri {post : Int32 → Mu → Prop} {x : Int32} {ty : FieldType} (F : CallFix p m c cc nL s args TB own) (hr : meth.sig.returnType = some ty) (hlk : meth.locks = false) (hW : Wd E s H locs μ) (hn : narrow ty (.int x) = .int x) (hdg : decode cc pc = .ok (.ireturn, 1)) (hp : post x μ) :
    W p l e R s m args below meth c H locs 0 0 (MQ below (va_Qi post (fun μ' t => MB E μ' t.heap) (AA E)) args s 0 0 (AA E)) (F0 m pc ls [.int x]) :=
  W.zret F.1 F.2.1 hr hn (fun t ht _ => ⟨⟨x, μ, rfl, hp, (by subst ht; exact hW.1)⟩, hW.2.F ht⟩) hW.2.2.2 hdg hlk
theorem jrv {post : Mu → Prop} (F : CallFix p m c cc nL s args TB own) (hr : meth.sig.returnType = none) (hlk : meth.locks = false) (hW : Wd E s H locs μ) (hdg : decode cc pc = .ok (.return_, 1)) (hp : post μ) :
    W p l e R s m args below meth c H locs 0 0 (MQ below (va_Qv post (fun μ' t => MB E μ' t.heap) (AA E)) args s 0 0 (AA E)) (F0 m pc ls []) :=
  W.vret F.1 F.2.1 hr (fun t ht _ => ⟨⟨μ, rfl, hp, (by subst ht; exact hW.1)⟩, hW.2.F ht⟩) hW.2.2.2 hdg hlk
theorem jrl {post : Int64 → Mu → Prop} {x : Int64} (F : CallFix p m c cc nL s args TB own) (hr : meth.sig.returnType = some .long) (hlk : meth.locks = false) (hW : Wd E s H locs μ) (hdg : decode cc pc = .ok (.lreturn, 1)) (hp : post x μ) :
    W p l e R s m args below meth c H locs 0 0 (MQ below (va_Ql post (fun μ' t => MB E μ' t.heap) (AA E)) args s 0 0 (AA E)) (F0 m pc ls [.long x]) :=
  W.lret F.1 F.2.1 hr (fun t ht _ => ⟨⟨x, μ, rfl, hp, (by subst ht; exact hW.1)⟩, hW.2.F ht⟩) hW.2.2.2 hdg hlk
end ENDS
section CALLS
variable {p : Program} {l : Launch} {e : Env} {R : Room} {s : State} {m : MethodId} {args : Array Value} {below : List Frame} {meth : Method} {c : Code} {H : Heap} {locs : List Loc} {cells slots : Nat} {Q : State → Prop}
variable {cc : ByteArray} {nL pc : Nat} {ls : Array Slot} {rest st0 : List Value} {own : String} {E : mE} {μ : Mu}
variable {μ0 : Mu} {index : Nat} {y : MethodName} {cd : ByteArray} {mL n fr lo : Nat} {rt : Option FieldType} {Qc : Array Value → State → Outcome → State → Prop} {As : List Value} {r q ci N : Nat} {kq : vw_C}
theorem jcb (F : CallFix p m c cc nL s args TB own) (hY : YC y cd mL rt n) (hL : Cond.methodLink own index y ∈ TB) (hR : fr + 1 ≤ R.frames ∧ 8 + (mL + 11) + lo ≤ R.locals) : CallB R s args own index y cd mL rt (Cond.code y cd mL rt :: TB) (rmO fr lo) 0 0 n :=
  callB_of n F.2.2.2.2 (tb_gin hY.1) rfl rfl rfl (F.2.2.2.2 _ hY.2.1) (F.2.2.2.2 _ hL) hY.2.2 hR
theorem jpre (hT : Stat E s) (hW : Wd E s H locs μ) {av : List Value} : ∀ U : State, U.heap = H → s.WarmedH U.vm → Pj E av μ av.toArray U := fun U hU hw => ⟨rfl, hT.moved hw hW.2 hU, by rw [hU]; exact hW.1⟩
theorem jrec (hT : Stat E s) (hW : Wd E s H locs μ) (hO : isO E r q ci N) (hc : ci < 10) (hk : kcl[ci]? = some kq) : ∃ cellB : Cell, H[ea E r q]? = some cellB ∧ cellB.vm.isStatics = false ∧ s.vm.findClass kq.1 = some cellB.cls := by
  obtain ⟨q', h1, cell, g1, g2, g3, -⟩ := hO.cell hc hW.1
  exact ⟨cell, g1, by rw [g3]; rfl, by rw [g2]; exact (hT.K.1 ci kq hk).2.1⟩
/-- a call of a method of an object, virtual -/
theorem jrunV (F : CallFix p m c cc nL s args TB own) (hT : Stat E s) (hW : Wd E s H locs μ) (hY : YC y cd mL rt n) (hV : Cond.instanceMethod y ∈ TB ∧ Cond.selects kq.1 y y ∈ TB) (hL : Cond.methodLink own index y ∈ TB) (hO : isO E r q ci N) (hc : ci < 10) (hk : kcl[ci]? = some kq)
    (hM : Met l y (Cond.code y cd mL rt :: TB) (rmO fr lo) (Pj E (.ref (ea E r q) :: As) μ) Qc 0 0 (AA E)) (hn : As.length = n) (hls : ls.size = nL) (hR : fr + 1 ≤ R.frames ∧ 8 + (mL + 11) + lo ≤ R.locals) (hst : st0 = As.reverse ++ .ref (ea E r q) :: rest) (hcat : (rest.map fun v => v.category).sum ≤ 8) (hcs : cells ≤ R.cells ∧ slots ≤ R.slots) (hdg : decode cc pc = .ok (.invokevirtual index, 3)) :
    va_Run p l e R s m args below meth c H locs cells slots 0 0 (F0 m pc ls st0) rest (Qc (Value.ref (ea E r q) :: As).toArray) (AA E) :=
  va_runV F hM ⟨jcb F hY hL hR, F.2.2.2.2 _ hV.1, F.2.2.2.2 _ hV.2⟩ ⟨Pj_blind, jrec hT hW hO hc hk, jpre hT hW⟩ rfl hn hls hst (lv_room hcat) hdg hcs
/-- a call of a static method -/
theorem jrunS (F : CallFix p m c cc nL s args TB own) (hT : Stat E s) (hW : Wd E s H locs μ) (hY : YC y cd mL rt n) (hV : Cond.static y ∈ TB) (hL : Cond.methodLink own index y ∈ TB)
    (hM : Met l y (Cond.code y cd mL rt :: TB) (rmO fr lo) (Pj E As μ) Qc 0 0 (AA E)) (hn : As.length = n) (hls : ls.size = nL) (hR : fr + 1 ≤ R.frames ∧ 8 + (mL + 11) + lo ≤ R.locals) (hst : st0 = As.reverse ++ rest) (hcat : (rest.map fun v => v.category).sum ≤ 8) (hcs : cells ≤ R.cells ∧ slots ≤ R.slots) (hdg : decode cc pc = .ok (.invokestatic index, 3)) :
    va_Run p l e R s m args below meth c H locs cells slots 0 0 (F0 m pc ls st0) rest (Qc As.toArray) (AA E) :=
  va_runS F hM ⟨jcb F hY hL hR, F.2.2.2.2 _ hV⟩ ⟨Pj_blind, jpre hT hW⟩ rfl hn hls hst (lv_room hcat) hdg hcs
/-- of a nest mate's private static method -/
theorem jrunSN (F : CallFix p m c cc nL s args TB own) (hT : Stat E s) (hW : Wd E s H locs μ) (hY : YC y cd mL rt n) (hV : Cond.static y ∈ TB) (hL : (own, index, y, "InterruptInn") ∈ nwM)
    (hM : Met l y (Cond.code y cd mL rt :: TB) (rmO fr lo) (Pj E As μ) Qc 0 0 (AA E)) (hn : As.length = n) (hls : ls.size = nL) (hR : fr + 1 ≤ R.frames ∧ 8 + (mL + 11) + lo ≤ R.locals) (hst : st0 = As.reverse ++ rest) (hcat : (rest.map fun v => v.category).sum ≤ 8) (hcs : cells ≤ R.cells ∧ slots ≤ R.slots) (hdg : decode cc pc = .ok (.invokestatic index, 3)) :
    va_Run p l e R s m args below meth c H locs cells slots 0 0 (F0 m pc ls st0) rest (Qc As.toArray) (AA E) :=
  va_runSN F hM ⟨va_cnB n F.2.2.2.2 (tb_gin hY.1) rfl rfl rfl (hT.1.2.2.1 _ hL) (F.2.2.2.2 _ hY.2.1) hY.2.2 hR, F.2.2.2.2 _ hV, trivial⟩ ⟨Pj_blind, jpre hT hW⟩ rfl hn hls hst (lv_room hcat) hdg hcs
theorem jci {a : Array Value} {post : Int32 → Mu → Prop} (hr : va_Run p l e R s m args below meth c H locs cells slots 0 0 (F0 m pc ls st0) rest (va_Qi post (fun μ' t => MB E μ' t.heap) (AA E) a) (AA E)) (hW : Wd E s H locs μ)
    (kk : ∀ (x : Int32) (μ' : Mu) (H : Heap) (locs : List Loc), post x μ' → Wd E s H locs μ' → W p l e R s m args below meth c H locs cells slots Q (F0 m (pc + 3) ls (.int x :: rest))) : W p l e R s m args below meth c H locs cells slots Q (F0 m pc ls st0) :=
  va_calli hr hW.2 (fun _ _ h => h) (fun _ h => h) (fun x μ' t H1 locs1 ht _ hp hB _ _ hS => kk x μ' H1 locs1 hp ⟨by rw [← ht]; exact hB, hS⟩)
theorem jcl {a : Array Value} {post : Int64 → Mu → Prop} (hr : va_Run p l e R s m args below meth c H locs cells slots 0 0 (F0 m pc ls st0) rest (va_Ql post (fun μ' t => MB E μ' t.heap) (AA E) a) (AA E)) (hW : Wd E s H locs μ)
    (kk : ∀ (x : Int64) (μ' : Mu) (H : Heap) (locs : List Loc), post x μ' → Wd E s H locs μ' → W p l e R s m args below meth c H locs cells slots Q (F0 m (pc + 3) ls (.long x :: rest))) : W p l e R s m args below meth c H locs cells slots Q (F0 m pc ls st0) :=
  va_calll hr hW.2 (fun _ _ h => h) (fun _ h => h) (fun x μ' t H1 locs1 ht _ hp hB _ _ hS => kk x μ' H1 locs1 hp ⟨by rw [← ht]; exact hB, hS⟩)
theorem jcv {a : Array Value} {post : Mu → Prop} (hr : va_Run p l e R s m args below meth c H locs cells slots 0 0 (F0 m pc ls st0) rest (va_Qv post (fun μ' t => MB E μ' t.heap) (AA E) a) (AA E)) (hW : Wd E s H locs μ)
    (kk : ∀ (μ' : Mu) (H : Heap) (locs : List Loc), post μ' → Wd E s H locs μ' → W p l e R s m args below meth c H locs cells slots Q (F0 m (pc + 3) ls rest)) : W p l e R s m args below meth c H locs cells slots Q (F0 m pc ls st0) :=
  va_callv hr hW.2 (fun _ _ h => h) (fun _ h => h) (fun μ' t H1 locs1 ht _ hp hB _ _ hS => kk μ' H1 locs1 hp ⟨by rw [← ht]; exact hB, hS⟩)
/-- the same, of contracts whose end is told by values -/
theorem jcif {a : Array Value} {x2 : Int32} {S2 : Sv} (hr : va_Run p l e R s m args below meth c H locs cells slots 0 0 (F0 m pc ls st0) rest (va_Qi (fun x μ' => x = x2 ∧ μ' = fo μ0 r S2) (fun μ' t => MB E μ' t.heap) (AA E) a) (AA E)) (hW : Wd E s H locs μ)
    (kk : ∀ (x : Int32) (S' : Sv) (H : Heap) (locs : List Loc), x = x2 → S' = S2 → Wd E s H locs (fo μ0 r S') → W p l e R s m args below meth c H locs cells slots Q (F0 m (pc + 3) ls (.int x :: rest))) : W p l e R s m args below meth c H locs cells slots Q (F0 m pc ls st0) :=
  jci hr hW (fun x μ' H locs hp hW => kk x S2 H locs hp.1 rfl (hW.to hp.2))
theorem jcip {a : Array Value} {x2 : Int32} (hr : va_Run p l e R s m args below meth c H locs cells slots 0 0 (F0 m pc ls st0) rest (va_Qi (fun x μ' => x = x2 ∧ μ' = μ) (fun μ' t => MB E μ' t.heap) (AA E) a) (AA E)) (hW : Wd E s H locs μ)
    (kk : ∀ (x : Int32) (H : Heap) (locs : List Loc), x = x2 → Wd E s H locs μ → W p l e R s m args below meth c H locs cells slots Q (F0 m (pc + 3) ls (.int x :: rest))) : W p l e R s m args below meth c H locs cells slots Q (F0 m pc ls st0) :=
  jci hr hW (fun x μ' H locs hp hW => kk x H locs hp.1 (hW.to hp.2))
theorem jclp {a : Array Value} {x2 : Int64} (hr : va_Run p l e R s m args below meth c H locs cells slots 0 0 (F0 m pc ls st0) rest (va_Ql (fun x μ' => x = x2 ∧ μ' = μ) (fun μ' t => MB E μ' t.heap) (AA E) a) (AA E)) (hW : Wd E s H locs μ)
    (kk : ∀ (x : Int64) (H : Heap) (locs : List Loc), x = x2 → Wd E s H locs μ → W p l e R s m args below meth c H locs cells slots Q (F0 m (pc + 3) ls (.long x :: rest))) : W p l e R s m args below meth c H locs cells slots Q (F0 m pc ls st0) :=
  jcl hr hW (fun x μ' H locs hp hW => kk x H locs hp.1 (hW.to hp.2))
theorem jcvf {a : Array Value} {S2 : Sv} (hr : va_Run p l e R s m args below meth c H locs cells slots 0 0 (F0 m pc ls st0) rest (va_Qv (fun μ' => μ' = fo μ0 r S2) (fun μ' t => MB E μ' t.heap) (AA E) a) (AA E)) (hW : Wd E s H locs μ)
    (kk : ∀ (S' : Sv) (H : Heap) (locs : List Loc), S' = S2 → Wd E s H locs (fo μ0 r S') → W p l e R s m args below meth c H locs cells slots Q (F0 m (pc + 3) ls rest)) : W p l e R s m args below meth c H locs cells slots Q (F0 m pc ls st0) :=
  jcv hr hW (fun μ' H locs hp hW => kk S2 H locs rfl (hW.to hp))
end CALLS
/-! static arrays of the class -/
section STATICS
variable {p : Program} {l : Launch} {e : Env} {R : Room} {s : State} {m : MethodId} {args : Array Value} {below : List Frame} {meth : Method} {c : Code} {H : Heap} {locs : List Loc} {cells slots : Nat} {Q : State → Prop}
variable {cc : ByteArray} {nL pc : Nat} {ls : Array Slot} {rest : List Value} {own : String} {E : mE} {μ : Mu} {index : Nat} {nm : String} {a : Nat}
theorem jgs (F : CallFix p m c cc nL s args TB own) (hW : Wd E s H locs μ) (hZ : va_Z "InterruptInn" nm "[I" (.ref a) (AA E) s s.heap) (hl : Cond.fieldLink own index "InterruptInn" nm "[I" ∈ TB) (hdg : decode cc pc = .ok (.getstatic index, 3))
    (kk : W p l e R s m args below meth c H locs cells slots Q (F0 m (pc + 3) ls (.ref a :: rest))) : W p l e R s m args below meth c H locs cells slots Q (F0 m pc ls rest) :=
  va_gets F.1 F.2.1 hZ hW.2 F.2.2.2.1 (F.2.2.2.2 _ hl) (fun _ h => h) hdg kk
theorem jgsN (F : CallFix p m c cc nL s args TB own) (hT : Stat E s) (hW : Wd E s H locs μ) (hZ : va_Z "InterruptInn" nm "[I" (.ref a) (AA E) s s.heap) (hl : (own, index, "InterruptInn", nm, "[I", "InterruptInn") ∈ nwF) (hdg : decode cc pc = .ok (.getstatic index, 3))
    (kk : W p l e R s m args below meth c H locs cells slots Q (F0 m (pc + 3) ls (.ref a :: rest))) : W p l e R s m args below meth c H locs cells slots Q (F0 m pc ls rest) :=
  va_getsN F.1 F.2.1 hZ hW.2 F.2.2.2.1 (va_Nw.use rfl (hT.1.2.1 _ hl)) (fun _ h => h) hdg kk
end STATICS
