/-! contracts of constructors -/
abbrev rmC (fr lo mc ms : Nat) : Room := { frames := fr, cells := mc, slots := ms, locals := lo }
abbrev Pb (E : mE) (av : List Value) (V : Vs) (L : Nat → Nat → Prop) (n : Nat) : Array Value → State → Prop := va_Pc av (fun U => Stat E U ∧ PB E V L U.heap ∧ U.heap.size = n)
abbrev Qb (E : mE) (V : Vs) (L : Nat → Nat → Prop) (n : Nat) : Array Value → State → Outcome → State → Prop := va_Qv (fun _ : Unit => True) (fun _ t => PB E V L t.heap ∧ t.heap.size = n) (AA E)
abbrev CtB (l : Launch) (E : mE) (y : MethodName) (cd : ByteArray) (mL : Nat) (fr lo mc ms : Nat) (av : List Value) (V : Vs) (L : Nat → Nat → Prop) (n : Nat) (V' : Vs) (L' : Nat → Nat → Prop) (n' : Nat) : Prop := Met l y (Cond.code y cd mL none :: TB) (rmC fr lo mc ms) (Pb E av V L n) (Qb E V' L' n') mc ms (AA E)
theorem Pb_blind {E : mE} {av : List Value} {V : Vs} {L : Nat → Nat → Prop} {n : Nat} : FrameBlind (Pb E av V L n) := fun a U g mk q => ⟨q.1, q.2.1.same rfl rfl, q.2.2⟩
theorem bMet {l : Launch} {E : mE} {y : MethodName} {cd : ByteArray} {mL : Nat} {fr lo mc ms : Nat} {av : List Value} {V : Vs} {L : Nat → Nat → Prop} {n : Nat} {Qc : Array Value → State → Outcome → State → Prop} (hy : plainName y.cls = true) (hlen : (lg_sl av).length ≤ mL)
    (body : ∀ (p : Program) (e : Env) (s : State) (m : MethodId) (below : List Frame) (meth : Method) (c : Code) (ls : Array Slot), CallFix p m c cd mL s av.toArray TB y.cls → Stat E s → meth.sig.returnType = none → meth.locks = false → meth.name = y.name → BW E s s.heap [] V L n → lv_has ls mL (lv_args 0 av) → W p l e (rmC fr lo mc ms) s m av.toArray below meth c s.heap [] 0 0 (MQ below Qc av.toArray s mc ms (AA E)) (F0 m 0 ls [])) :
    Met l y (Cond.code y cd mL none :: TB) (rmC fr lo mc ms) (Pb E av V L n) Qc mc ms (AA E) := by
  refine Met.ofW (cc := cd) (maxL := mL) (ret := none) hy rfl ?_
  intro p e s m args below meth c s₁ B hml hv
  obtain ⟨rfl, hT, hM, hn⟩ := hv
  have hts := atoms_spec (ws := Cond.code y cd mL none :: TB) B.pre
  rw [lg_entry_eq]
  exact body p e s m below meth c _ ⟨B.exec, B.bytes, hml, findClass_of_methodNamed B.named, fun w hw => hts w (List.mem_cons_of_mem _ hw)⟩ hT B.returns B.notSynchronized (name_of_methodNamed B.named B.method).1 ⟨hM, va_S.rf, hn⟩ (lv_entry av hlen)
section BEND
variable {p : Program} {l : Launch} {e : Env} {R : Room} {s : State} {m : MethodId} {args : Array Value} {below : List Frame} {meth : Method} {c : Code} {H : Heap} {locs : List Loc} {cells slots : Nat} {Q : State → Prop}
variable {cc : ByteArray} {nL pc : Nat} {ls : Array Slot} {rest st0 : List Value} {own : String} {E : mE} {V V' : Vs} {L L' : Nat → Nat → Prop} {n n' mc ms : Nat}
theorem brv (F : CallFix p m c cc nL s args TB own) (hr : meth.sig.returnType = none) (hlk : meth.locks = false) (hB : BW E s H locs V L n) (hdg : decode cc pc = .ok (.return_, 1)) (hv : ∀ r q, L' r q → L r q ∧ V' r q = V r q) (hn : n = n') (hc : cells = mc) (hs : slots = ms) :
    W p l e R s m args below meth c H locs cells slots (MQ below (Qb E V' L' n') args s mc ms (AA E)) (F0 m pc ls []) := by
  subst hc hs hn
  exact W.vret F.1 F.2.1 hr (fun t ht _ => ⟨⟨(), rfl, trivial, (by subst ht; exact ⟨hB.1.to hv, hB.2.2⟩)⟩, hB.2.1.F ht⟩) hB.2.1.2.2 hdg hlk
variable {index : Nat} {y : MethodName} {cd : ByteArray} {mL k fr lo : Nat} {Qc : Array Value → State → Outcome → State → Prop} {As : List Value} {a : Nat}
theorem bpre (hT : Stat E s) (hB : BW E s H locs V L n) {av : List Value} : ∀ U : State, U.heap = H → s.WarmedH U.vm → Pb E av V L n av.toArray U := fun U hU hw => ⟨rfl, hT.moved hw hB.2.1 hU, by rw [hU]; exact hB.1, by rw [hU]; exact hB.2.2⟩
theorem brunI (F : CallFix p m c cc nL s args TB own) (hT : Stat E s) (hB : BW E s H locs V L n) (hY : YC y cd mL none 0) (hy : y.name = "<init>") (hI : Cond.instanceMethod y ∈ TB) (hl : Cond.methodLink own index y ∈ TB)
    (hM : CtB l E y cd mL fr lo mc ms [.ref a] V L n V' L' n') (hls : ls.size = nL) (hR : fr + 1 ≤ R.frames ∧ 8 + (mL + 11) + lo ≤ R.locals) (hcat : (rest.map fun v => v.category).sum ≤ 8) (hcs : cells + mc ≤ R.cells ∧ slots + ms ≤ R.slots) (hdg : decode cc pc = .ok (.invokespecial index, 3)) :
    va_Run p l e R s m args below meth c H locs cells slots mc ms (F0 m pc ls (.ref a :: rest)) rest (Qb E V' L' n' ([Value.ref a] : List Value).toArray) (AA E) :=
  va_runI (As := []) F hM ⟨callB_of 0 F.2.2.2.2 (tb_gin hY.1) rfl rfl rfl (F.2.2.2.2 _ hY.2.1) (F.2.2.2.2 _ hl) hY.2.2 hR, hy, F.2.2.2.2 _ hI⟩ ⟨Pb_blind, bpre hT hB⟩ rfl rfl hls rfl (lv_room hcat) hdg hcs
theorem brunIN (F : CallFix p m c cc nL s args TB own) (hT : Stat E s) (hB : BW E s H locs V L n) (hY : YC y cd mL none 0) (hy : y.name = "<init>") (hI : Cond.instanceMethod y ∈ TB) (hl : (own, index, y, "InterruptInn") ∈ nwM)
    (hM : CtB l E y cd mL fr lo mc ms [.ref a] V L n V' L' n') (hls : ls.size = nL) (hR : fr + 1 ≤ R.frames ∧ 8 + (mL + 11) + lo ≤ R.locals) (hcat : (rest.map fun v => v.category).sum ≤ 8) (hcs : cells + mc ≤ R.cells ∧ slots + ms ≤ R.slots) (hdg : decode cc pc = .ok (.invokespecial index, 3)) :
    va_Run p l e R s m args below meth c H locs cells slots mc ms (F0 m pc ls (.ref a :: rest)) rest (Qb E V' L' n' ([Value.ref a] : List Value).toArray) (AA E) :=
  va_runIN (As := []) F hM ⟨va_cnB 0 F.2.2.2.2 (tb_gin hY.1) rfl rfl rfl (hT.1.2.2.1 _ hl) (F.2.2.2.2 _ hY.2.1) hY.2.2 hR, hy, F.2.2.2.2 _ hI⟩ ⟨Pb_blind, bpre hT hB⟩ rfl rfl hls rfl (lv_room hcat) hdg hcs
theorem bcv {b : Array Value} (hr : va_Run p l e R s m args below meth c H locs cells slots mc ms (F0 m pc ls st0) rest (Qb E V' L' n' b) (AA E)) (hB : BW E s H locs V L n)
    (kk : ∀ (H1 : Heap) (locs1 : List Loc), BW E s H1 locs1 V' L' n' → W p l e R s m args below meth c H1 locs1 (cells + mc) (slots + ms) Q (F0 m (pc + 3) ls rest)) : W p l e R s m args below meth c H locs cells slots Q (F0 m pc ls st0) :=
  va_callv hr hB.2.1 (fun _ _ h => h) (fun _ h => h) (fun _ t H1 locs1 ht _ _ hP _ _ hS => kk H1 locs1 ⟨by rw [← ht]; exact hP.1, hS, by rw [← ht]; exact hP.2⟩)
end BEND
theorem c_X1_init (l : Launch) (E : mE) (V : Vs) (L : Nat → Nat → Prop) (n r q : Nat) : CtB l E yX1_init cX1_init 1 1 12 0 0 [.ref (ea E r q)] V L n V L n := by
  refine bMet (by decide +kernel) (Nat.le_of_ble_eq_true rfl) ?_
  intro p e s m below meth c ls F hT hr0 hlk hnm hB hl
  have F : CallFix p m c cX1_init 1 s _ TB RX1 := F
  have hl : lv_has ls 1 [(0, .ref (ea E r q))] := hl
  refine lv_aload_n F.1 F.2.1 dX1_init_0 rfl (lv_at hl 0 rfl) ?_
  refine bobj F hl.1 co_X1 (Nat.le_of_ble_eq_true rfl) (Nat.le_of_ble_eq_true rfl) dX1_init_1 ?_
  exact brv F hr0 hlk hB dX1_init_4 (fun _ _ h => ⟨h, rfl⟩) rfl rfl rfl
theorem c_X5_init (l : Launch) (E : mE) (V : Vs) (L : Nat → Nat → Prop) (n r q : Nat) : CtB l E yX5_init cX5_init 1 1 12 0 0 [.ref (ea E r q)] V L n V L n := by
  refine bMet (by decide +kernel) (Nat.le_of_ble_eq_true rfl) ?_
  intro p e s m below meth c ls F hT hr0 hlk hnm hB hl
  have F : CallFix p m c cX5_init 1 s _ TB RX5 := F
  have hl : lv_has ls 1 [(0, .ref (ea E r q))] := hl
  refine lv_aload_n F.1 F.2.1 dX5_init_0 rfl (lv_at hl 0 rfl) ?_
  refine bobj F hl.1 co_X5 (Nat.le_of_ble_eq_true rfl) (Nat.le_of_ble_eq_true rfl) dX5_init_1 ?_
  exact brv F hr0 hlk hB dX5_init_4 (fun _ _ h => ⟨h, rfl⟩) rfl rfl rfl
theorem c_X4_init (l : Launch) (E : mE) (V : Vs) (L : Nat → Nat → Prop) (n r q : Nat) : CtB l E yX4_init cX4_init 1 1 12 0 0 [.ref (ea E r q)] V L n V L n := by
  refine bMet (by decide +kernel) (Nat.le_of_ble_eq_true rfl) ?_
  intro p e s m below meth c ls F hT hr0 hlk hnm hB hl
  have F : CallFix p m c cX4_init 1 s _ TB RX4 := F
  have hl : lv_has ls 1 [(0, .ref (ea E r q))] := hl
  refine lv_aload_n F.1 F.2.1 dX4_init_0 rfl (lv_at hl 0 rfl) ?_
  refine bobj F hl.1 co_X4 (Nat.le_of_ble_eq_true rfl) (Nat.le_of_ble_eq_true rfl) dX4_init_1 ?_
  exact brv F hr0 hlk hB dX4_init_4 (fun _ _ h => ⟨h, rfl⟩) rfl rfl rfl
