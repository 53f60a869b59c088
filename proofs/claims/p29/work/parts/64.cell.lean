/-! the script's cells -/
def ceN (L : Nat) (xs : Nat → Int32) (k n : Nat) : Nat := (if L = 0 then k * 37 + 5 else ((xs (k % L)) >>> (nI (k % 7) &&& 31)).toBitVec.toNat % 2 ^ 22) % n
theorem ceN_lt {L k n : Nat} {xs : Nat → Int32} (h : 0 < n) : ceN L xs k n < n := Nat.mod_lt _ h
abbrev Px (E : mE) (b L : Nat) (xs : Nat → Int32) (av : List Value) (μ : Mu) : Array Value → State → Prop := va_Pc av (fun U => Stat E U ∧ MB E μ U.heap ∧ va_X b L xs U U.heap ∧ b < U.heap.size)
theorem Px_blind {E : mE} {b L : Nat} {xs : Nat → Int32} {av : List Value} {μ : Mu} : FrameBlind (Px E b L xs av μ) := fun a U g mk q => ⟨q.1, q.2.1.same rfl rfl, q.2.2.1, va_X.moved (Vm.Alike.refl _) q.2.2.2.1, q.2.2.2.2⟩
theorem wl_L_7 : Cond.constant RL 7 4194303 ∈ TB := tb_in 293 (by decide +kernel) rfl
section XR
variable {p : Program} {l : Launch} {e : Env} {R : Room} {s : State} {m : MethodId} {args : Array Value} {below : List Frame} {meth : Method} {c : Code} {H : Heap} {locs : List Loc} {cells slots : Nat} {Q : State → Prop}
variable {cc : ByteArray} {nL pc : Nat} {ls : Array Slot} {rest st0 : List Value} {own : String} {E : mE} {μ : Mu} {b L : Nat} {xs : Nat → Int32}
variable {index : Nat} {y : MethodName} {cd : ByteArray} {mL n fr lo mc ms : Nat} {rt : Option FieldType} {Qc : Array Value → State → Outcome → State → Prop} {As : List Value}
theorem xMet {av : List Value} (hy : plainName y.cls = true) (hlen : (lg_sl av).length ≤ mL)
    (body : ∀ (p : Program) (e : Env) (s : State) (m : MethodId) (below : List Frame) (meth : Method) (c : Code) (ls : Array Slot), CallFix p m c cd mL s av.toArray TB y.cls → Stat E s → meth.sig.returnType = rt → meth.locks = false → Wd E s s.heap [] μ → va_X b L xs s s.heap → b < s.heap.size → lv_has ls mL (lv_args 0 av) → W p l e (rmC fr lo mc ms) s m av.toArray below meth c s.heap [] 0 0 (MQ below Qc av.toArray s mc ms (AA E)) (F0 m 0 ls [])) :
    Met l y (Cond.code y cd mL rt :: TB) (rmC fr lo mc ms) (Px E b L xs av μ) Qc mc ms (AA E) := by
  refine Met.ofW (cc := cd) (maxL := mL) (ret := rt) hy rfl ?_
  intro p e s m args below meth c s₁ B hml hv
  obtain ⟨rfl, hT, hM, hX, hb⟩ := hv
  have hts := atoms_spec (ws := Cond.code y cd mL rt :: TB) B.pre
  rw [lg_entry_eq]
  exact body p e s m below meth c _ ⟨B.exec, B.bytes, hml, findClass_of_methodNamed B.named, fun w hw => hts w (List.mem_cons_of_mem _ hw)⟩ hT B.returns B.notSynchronized ⟨hM, va_S.rf⟩ hX hb (lv_entry av hlen)
theorem xpre (hT : Stat E s) (hW : Wd E s H locs μ) (hX : va_X b L xs s s.heap) (hbl : b < s.heap.size) (hbA : ¬ AA E b) {av : List Value} : ∀ U : State, U.heap = H → s.WarmedH U.vm → Px E b L xs av μ av.toArray U := fun U hU hw =>
  ⟨rfl, hT.moved hw hW.2 hU, by rw [hU]; exact hW.1, by rw [hU]; exact (hX.kept (hW.2.2.1 b hbl hbA)).moved hw.alike, by rw [hU]; exact Nat.lt_of_lt_of_le hbl hW.2.1⟩
theorem xrunS (F : CallFix p m c cc nL s args TB own) (hT : Stat E s) (hW : Wd E s H locs μ) (hX : va_X b L xs s s.heap) (hbl : b < s.heap.size) (hbA : ¬ AA E b) (hY : YC y cd mL rt n) (hV : Cond.static y ∈ TB) (hL : Cond.methodLink own index y ∈ TB)
    (hM : Met l y (Cond.code y cd mL rt :: TB) (rmC fr lo mc ms) (Px E b L xs As μ) Qc mc ms (AA E)) (hn : As.length = n) (hls : ls.size = nL) (hR : fr + 1 ≤ R.frames ∧ 8 + (mL + 11) + lo ≤ R.locals) (hst : st0 = As.reverse ++ rest) (hcat : (rest.map fun v => v.category).sum ≤ 8) (hcs : cells + mc ≤ R.cells ∧ slots + ms ≤ R.slots) (hdg : decode cc pc = .ok (.invokestatic index, 3)) :
    va_Run p l e R s m args below meth c H locs cells slots mc ms (F0 m pc ls st0) rest (Qc As.toArray) (AA E) :=
  va_runS F hM ⟨callB_of n F.2.2.2.2 (tb_gin hY.1) rfl rfl rfl (F.2.2.2.2 _ hY.2.1) (F.2.2.2.2 _ hL) hY.2.2 hR, F.2.2.2.2 _ hV⟩ ⟨Px_blind, xpre hT hW hX hbl hbA⟩ rfl hn hls hst (lv_room hcat) hdg hcs
theorem jrunSm (F : CallFix p m c cc nL s args TB own) (hT : Stat E s) (hW : Wd E s H locs μ) (hY : YC y cd mL rt n) (hV : Cond.static y ∈ TB) (hL : Cond.methodLink own index y ∈ TB)
    (hM : Met l y (Cond.code y cd mL rt :: TB) (rmC fr lo mc ms) (Pj E As μ) Qc mc ms (AA E)) (hn : As.length = n) (hls : ls.size = nL) (hR : fr + 1 ≤ R.frames ∧ 8 + (mL + 11) + lo ≤ R.locals) (hst : st0 = As.reverse ++ rest) (hcat : (rest.map fun v => v.category).sum ≤ 8) (hcs : cells + mc ≤ R.cells ∧ slots + ms ≤ R.slots) (hdg : decode cc pc = .ok (.invokestatic index, 3)) :
    va_Run p l e R s m args below meth c H locs cells slots mc ms (F0 m pc ls st0) rest (Qc As.toArray) (AA E) :=
  va_runS F hM ⟨callB_of n F.2.2.2.2 (tb_gin hY.1) rfl rfl rfl (F.2.2.2.2 _ hY.2.1) (F.2.2.2.2 _ hL) hY.2.2 hR, F.2.2.2.2 _ hV⟩ ⟨Pj_blind, jpre hT hW⟩ rfl hn hls hst (lv_room hcat) hdg hcs
theorem jciT {a : Array Value} {post : Int32 → Mu → Prop} (hr : va_Run p l e R s m args below meth c H locs cells slots mc ms (F0 m pc ls st0) rest (va_Qi post (fun μ' t => MB E μ' t.heap) (AA E) a) (AA E)) (hW : Wd E s H locs μ)
    (kk : ∀ (x : Int32) (μ' : Mu) (H : Heap) (locs : List Loc), post x μ' → Wd E s H locs μ' → W p l e R s m args below meth c H locs (cells + mc) (slots + ms) Q (F0 m (pc + 3) ls (.int x :: rest))) : W p l e R s m args below meth c H locs cells slots Q (F0 m pc ls st0) :=
  va_calli hr hW.2 (fun _ _ h => h) (fun _ h => h) (fun x μ' t H1 locs1 ht _ hp hB _ _ hS => kk x μ' H1 locs1 hp ⟨by rw [← ht]; exact hB, hS⟩)
theorem xri {post : Int32 → Mu → Prop} {x : Int32} {ty : FieldType} (F : CallFix p m c cc nL s args TB own) (hr : meth.sig.returnType = some ty) (hlk : meth.locks = false) (hW : Wd E s H locs μ) (hn : narrow ty (.int x) = .int x) (hcs : cells ≤ mc ∧ slots ≤ ms) (hdg : decode cc pc = .ok (.ireturn, 1)) (hp : post x μ) :
    W p l e R s m args below meth c H locs cells slots (MQ below (va_Qi post (fun μ' t => MB E μ' t.heap) (AA E)) args s mc ms (AA E)) (F0 m pc ls [.int x]) :=
  W.widen hcs.1 hcs.2 (W.zret F.1 F.2.1 hr hn (fun t ht _ => ⟨⟨x, μ, rfl, hp, (by subst ht; exact hW.1)⟩, hW.2.F ht⟩) hW.2.2.2 hdg hlk)
end XR
set_option maxHeartbeats 4000000 in
set_option maxRecDepth 100000 in
theorem c_L_cell (l : Launch) (E : mE) (μ : Mu) {b L : Nat} {xs : Nat → Int32} (hL : L ≤ 260) (hbA : ¬ AA E b) (k : Int32) {kk : Nat} (ek : k = nI kk) (n : Int32) {nn : Nat} (en : n = nI nn) (hk : kk < 100000) (hn : 0 < nn ∧ nn < 100000) : Met l yL_cell (Cond.code yL_cell cL_cell 3 (some .int) :: TB) (rmC 0 0 0 0) (Px E b L xs [.ref b, .int k, .int n] μ) (va_Qi (fun x μ' => x = nI (ceN L xs kk nn) ∧ μ' = μ) (fun μ' t => MB E μ' t.heap) (AA E)) 0 0 (AA E) := by
  subst ek en
  refine xMet (by decide +kernel) (Nat.le_of_ble_eq_true rfl) ?_
  intro p e s m below meth c ls F hT hr0 hlk hW hX hbl hl
  have F : CallFix p m c cL_cell 3 s _ TB RL := F
  have hl : lv_has ls 3 [(0, .ref b), (1, .int (nI kk)), (2, .int (nI nn))] := hl
  have tail : ∀ N : Nat, N < 2 ^ 31 → (if L = 0 then kk * 37 + 5 else ((xs (kk % L)) >>> (nI (kk % 7) &&& 31)).toBitVec.toNat % 2 ^ 22) = N → W p l e (rmC 0 0 0 0) s m #[.ref b, .int (nI kk), .int (nI nn)] below meth c s.heap [] 0 0 (MQ below (va_Qi (fun x μ' => x = nI (ceN L xs kk nn) ∧ μ' = μ) (fun μ' t => MB E μ' t.heap) (AA E)) #[.ref b, .int (nI kk), .int (nI nn)] s 0 0 (AA E)) (F0 m 28 ls [.int (nI N)]) := by
    intro N hN eN
    refine lv_iload_n F.1 F.2.1 dL_cell_28 rfl (lv_at hl 2 rfl) ?_
    refine lv_irem F.1 F.2.1 dL_cell_29 (nI_ne0 hn.1 (by omega)) ?_
    rw [pk_rem hN hn.1 (by omega)]
    exact xri F hr0 hlk hW rfl ⟨Nat.le_refl _, Nat.le_refl _⟩ dL_cell_30 ⟨by unfold ceN; rw [eN], rfl⟩
  refine lv_aload_n F.1 F.2.1 dL_cell_0 rfl (lv_at hl 0 rfl) ?_
  refine va_slen F.1 F.2.1 hX hbl hbA hW.2 dL_cell_1 ?_
  refine lv_if_ne (tgt := 14) F.1 F.2.1 dL_cell_2 (by decide) (fun h0 => ?_) (fun h0 => ?_)
  · have hL0 : 0 < L := nI_z0 h0
    refine lv_aload_n F.1 F.2.1 dL_cell_14 rfl (lv_at hl 0 rfl) ?_
    refine lv_iload_n F.1 F.2.1 dL_cell_15 rfl (lv_at hl 1 rfl) ?_
    refine lv_aload_n F.1 F.2.1 dL_cell_16 rfl (lv_at hl 0 rfl) ?_
    refine va_slen F.1 F.2.1 hX hbl hbA hW.2 dL_cell_17 ?_
    refine lv_irem F.1 F.2.1 dL_cell_18 h0 ?_
    have hm : kk % L < L := Nat.mod_lt _ hL0
    have e1 : nI kk - nI kk / nI L * nI L = nI (kk % L) := pk_rem (by omega) hL0 (by omega)
    have e1' : nI kk - nI kk / Int32.ofNat L * Int32.ofNat L = nI (kk % L) := e1
    rw [e1']
    have e2 : (nI (kk % L)).toNatClampNeg = kk % L := cn_nI (by omega)
    refine va_sld F.1 F.2.1 hX hbl hbA hW.2 (fun z => z.elim (nI_pos (by omega)) (fun z => by rw [e2] at z; omega)) dL_cell_19 ?_
    rw [e2]
    refine lv_iload_n F.1 F.2.1 dL_cell_20 rfl (lv_at hl 1 rfl) ?_
    refine lv_bipush (v := 7) F.1 F.2.1 dL_cell_21 (by decide) ?_
    refine lv_irem F.1 F.2.1 dL_cell_23 (by decide) ?_
    have e3 : nI kk - nI kk / 7 * 7 = nI (kk % 7) := pk_rem (d := 7) (by omega) (by decide) (by decide)
    rw [e3]
    refine lv_ishr F.1 F.2.1 dL_cell_24 ?_
    refine lv_ldc (v := 4194303) F.1 F.2.1 F.2.2.2.1 (F.2.2.2.2 _ wl_L_7) dL_cell_25 ?_
    refine lv_iand F.1 F.2.1 dL_cell_27 ?_
    rw [pk_and _ 22 (by decide)]
    exact tail _ (Nat.lt_of_lt_of_le (Nat.mod_lt _ (by decide)) (by decide)) (if_neg (by omega))
  · have hL0 : L = 0 := nI_inj (b := 0) h0
    refine lv_iload_n F.1 F.2.1 dL_cell_5 rfl (lv_at hl 1 rfl) ?_
    refine lv_bipush (v := 37) F.1 F.2.1 dL_cell_6 (by decide) ?_
    refine lv_imul F.1 F.2.1 dL_cell_8 ?_
    refine lv_iconst (v := 5) F.1 F.2.1 dL_cell_9 (by decide) ?_
    refine lv_iadd F.1 F.2.1 dL_cell_10 ?_
    have e1 : nI kk * 37 + 5 = nI (kk * 37 + 5) := ia (im rfl (lI 37)) (lI 5)
    rw [e1]
    refine lv_goto (tgt := 28) F.1 F.2.1 dL_cell_11 (by decide) ?_
    exact tail _ (by omega) (if_pos hL0)
