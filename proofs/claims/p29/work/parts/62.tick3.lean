/-! the law's own rows are laid -/
def xE (E : mE) (m z : Nat) : mE := (E.1, E.2.1, fun r p => if r = 13 ∧ nlc E ≤ p then z + (p - nlc E) else if r = 14 then m else E.2.2 r p)
section XE
variable {E : mE} {m z r p : Nat}
theorem xE_lc : nlc (xE E m z) = m := by
  unfold nlc xE
  simp
theorem xE_o (h : r < 13 ∨ (r = 13 ∧ p < nlc E)) : ea (xE E m z) r p = ea E r p := by
  unfold ea xE
  dsimp only
  rw [if_neg (by omega), if_neg (by omega)]
theorem xE_n (h : nlc E ≤ p) : ea (xE E m z) 13 p = z + (p - nlc E) := by
  unfold ea xE
  dsimp only
  rw [if_pos ⟨rfl, h⟩]
theorem lv_old (h : live E r p) : r < 13 ∨ (r = 13 ∧ p < nlc E) := by
  unfold live at h
  omega
theorem lv_to (hm : nlc E ≤ m) (h : live E r p) : live (xE E m z) r p := by
  unfold live at h ⊢
  rw [xE_lc]
  omega
theorem lv_of (h : live (xE E m z) r p) : live E r p ∨ (r = 13 ∧ nlc E ≤ p ∧ p < m) := by
  unfold live at h ⊢
  rw [xE_lc] at h
  omega
theorem mb_lt {μ : Mu} {H : Heap} (h : MB E μ H) (hl : live E r p) : ea E r p < H.size := by
  have h1 := h r p hl
  unfold cellAt at h1
  split at h1
  · obtain ⟨q, -, cell, g2, -⟩ := h1
    exact (Array.getElem?_eq_some_iff.mp g2).1
  · obtain ⟨cell, g2, -⟩ := h1.ex
    exact (Array.getElem?_eq_some_iff.mp g2).1
theorem aa_to (hm : nlc E ≤ m) {q : Nat} (h : AA E q) : AA (xE E m z) q := by
  obtain ⟨r, p, ⟨h1, h2⟩, h3⟩ := h
  exact ⟨r, p, ⟨lv_to hm h1, h2⟩, by rw [xE_o (lv_old h1)]; exact h3⟩
theorem aa_of {q : Nat} (h : AA (xE E m z) q) : AA E q ∨ z ≤ q := by
  obtain ⟨r, p, ⟨h1, h2⟩, h3⟩ := h
  rcases lv_of h1 with g | ⟨rfl, g1, -⟩
  · exact Or.inl ⟨r, p, ⟨g, h2⟩, by rw [h3, xE_o (lv_old g)]⟩
  · rw [xE_n g1] at h3
    exact Or.inr (by omega)
theorem z_x {nm : String} {a : Nat} {A A' : Nat → Prop} {s : State} (h : va_Z "InterruptInn" nm "[I" (.ref a) A s s.heap) (hA : ∀ q, q < s.heap.size → A' q → A q) : va_Z "InterruptInn" nm "[I" (.ref a) A' s s.heap := by
  obtain ⟨cf, kf, fi, f, b, cell, h1, h2, h3, h4, h5, h6, h7, h8⟩ := h
  exact ⟨cf, kf, fi, f, b, cell, h1, h2, h3, h4, h5, h6, h7, fun q => h8 (hA b (Array.getElem?_eq_some_iff.mp h5).1 q)⟩
theorem stat_x {s : State} {H : Heap} {locs : List Loc} {μ : Mu} (hT : Stat E s) (hW : Wd E s H locs μ) (hm : nlc E ≤ m) : Stat (xE E m H.size) s := by
  obtain ⟨h1, h2, h3, h4, h5⟩ := hT
  have hA : ∀ q, q < s.heap.size → AA (xE E m H.size) q → AA E q := fun q hq h => (aa_of h).resolve_right (by have := hW.2.1; omega)
  refine ⟨h1, fun r p r' p' l1 l2 e => ?_, ?_, ?_, ?_⟩
  · rcases lv_of l1 with g | ⟨rfl, g1, g2⟩ <;> rcases lv_of l2 with g' | ⟨rfl, g1', g2'⟩
    · rw [xE_o (lv_old g), xE_o (lv_old g')] at e
      exact h2 _ _ _ _ g g' e
    · rw [xE_o (lv_old g), xE_n g1'] at e
      have := mb_lt hW.1 g
      omega
    · rw [xE_n g1, xE_o (lv_old g')] at e
      have := mb_lt hW.1 g'
      omega
    · rw [xE_n g1, xE_n g1'] at e
      exact ⟨rfl, by omega⟩
  · rw [xE_o (Or.inl (by decide))]; exact z_x h3 hA
  · rw [xE_o (Or.inl (by decide))]; exact z_x h4 hA
  · rw [xE_o (Or.inl (by decide))]; exact z_x h5 hA
def nV (E : mE) (μ : Mu) : Vs := fun r p => if r = 13 ∧ nlc E ≤ p then (fun _ => .int 0) else sl E μ r p
def nL (E : mE) (m : Nat) : Nat → Nat → Prop := fun r p => live E r p ∨ (r = 13 ∧ nlc E ≤ p ∧ p < m)
theorem bw_x {s : State} {H : Heap} {locs : List Loc} {μ : Mu} (hW : Wd E s H locs μ) (hm : nlc E ≤ m) : BW (xE E m H.size) s H locs (nV E μ) (nL E (nlc E)) H.size := by
  refine ⟨fun r p hL => ?_, ⟨hW.2.1, fun q h1 h2 => hW.2.2.1 q h1 (fun z => h2 (aa_to hm z)), fun q hq => aa_to hm (hW.2.2.2 q hq)⟩, rfl⟩
  have hl : live E r p := hL.resolve_right (by omega)
  refine ⟨lv_to hm hl, ?_⟩
  have h0 := hW.1 r p hl
  have ho := lv_old hl
  have e : nV E μ r p = sl E μ r p := by
    unfold nV
    rw [if_neg (by omega)]
  rw [e]
  unfold cellAt at h0
  unfold cellV
  rw [xE_o ho]
  exact h0
theorem rf_live {k r' p' : Nat} (hl : live E r p) (hk : k < (kd r p).2) (h : rf r p k = some (r', p')) : live E r' p' ∧ r' < 13 := by
  unfold live at hl ⊢
  unfold rf at h
  unfold kd at hk
  rcases hl with ⟨h1, h2⟩ | ⟨rfl, h2⟩ | ⟨rfl, h2⟩ | ⟨rfl, h2⟩
  · rw [if_pos h1] at h hk
    by_cases q0 : p = 0
    · rw [if_pos q0] at h
      by_cases k1 : k = 1
      · rw [if_pos k1] at h; cases h; omega
      · rw [if_neg k1] at h
        by_cases k2 : k = 2
        · rw [if_pos k2] at h; cases h; omega
        · rw [if_neg k2] at h
          by_cases k4 : k = 4
          · rw [if_pos k4] at h; cases h; omega
          · rw [if_neg k4] at h
            by_cases k6 : k = 6
            · rw [if_pos k6] at h; cases h; omega
            · rw [if_neg k6] at h; cases h
    · rw [if_neg q0] at h
      by_cases q2 : p = 2
      · rw [if_pos q2] at h
        rw [if_neg q0, if_neg (by omega), if_pos q2] at hk
        cases h
        dsimp only at hk
        omega
      · rw [if_neg q2] at h
        by_cases q15 : p = 15
        · rw [if_pos q15] at h
          rw [if_neg q0, if_neg (by omega), if_neg q2, if_neg (by omega), if_pos q15] at hk
          cases h
          dsimp only at hk
          omega
        · rw [if_neg q15] at h
          by_cases q22 : p = 22
          · rw [if_pos q22] at h
            rw [if_neg q0, if_neg (by omega), if_neg q2, if_neg (by omega), if_neg q15, if_neg (by omega), if_pos q22] at hk
            cases h
            dsimp only at hk
            omega
          · rw [if_neg q22] at h; cases h
  · match p, h2, h, hk with
    | 0, _, h, hk =>
      match k, hk, h with
      | 0, _, h => cases h; omega
      | 1, _, h => cases h; omega
      | 2, _, h => cases h; omega
      | 3, _, h => cases h; omega
      | 4, _, h => cases h; omega
      | 5, _, h => cases h; omega
      | k + 6, hk, _ => exact absurd (show k + 6 < 6 from hk) (by omega)
    | 1, _, h, hk =>
      have hk : k < 2 := hk
      have h : some (2 + k, 0) = some (r', p') := h
      cases h
      omega
    | 2, _, h, _ => cases h
    | 3, _, h, hk =>
      match k, hk, h with
      | 0, _, h => cases h; omega
      | 1, _, h => cases h
      | 2, _, h => cases h
      | k + 3, hk, _ => exact absurd (show k + 3 < 3 from hk) (by omega)
    | 4, _, h, hk =>
      have hk : k < 7 := hk
      have h : some (4 + k, 0) = some (r', p') := h
      cases h
      omega
    | 5, _, h, hk =>
      match k, hk, h with
      | 0, _, h => cases h; omega
      | 1, _, h => cases h
      | k + 2, hk, _ => exact absurd (show k + 2 < 2 from hk) (by omega)
    | 6, _, h, _ => cases h
    | p + 7, h2, _, _ => exact absurd h2 (by omega)
  · cases h
  · cases h
theorem bw_wd {s : State} {H : Heap} {locs : List Loc} {μ : Mu} {n : Nat} (hB : BW (xE E m z) s H locs (nV E μ) (nL E m) n) : Wd (xE E m z) s H locs (fo μ 13 (fun p k => if nlc E ≤ p then 0 else μ 13 p k)) := by
  refine ⟨hB.1.mb2 (fun r p hl => ⟨lv_of hl, fun k hk => ?_⟩), hB.2.1⟩
  rcases lv_of hl with g | ⟨rfl, g1, g2⟩
  · have ho := lv_old g
    unfold nV
    rw [if_neg (by omega)]
    unfold sl
    cases hr : rf r p k with
    | none =>
      dsimp only
      congr 1
      by_cases h13 : r = 13
      · rw [h13, fo_at, if_neg (by omega)]
      · rw [fo_ne _ _ h13]
    | some q =>
      obtain ⟨r', p'⟩ := q
      obtain ⟨w1, w2⟩ := rf_live g hk hr
      dsimp only
      rw [xE_o (Or.inl w2)]
  · unfold nV
    rw [if_pos ⟨rfl, g1⟩, sl_i (by rfl), fo_at, if_pos g1]
end XE
section NEWA
variable {p : Program} {l : Launch} {e : Env} {R : Room} {s : State} {m : MethodId} {args : Array Value} {below : List Frame} {meth : Method} {c : Code} {H : Heap} {locs : List Loc} {cells slots : Nat} {Q : State → Prop}
variable {cc : ByteArray} {nL_ pc : Nat} {ls : Array Slot} {rest : List Value} {own : String} {E : mE} {μ : Mu} {mm z : Nat}
/-- one of the law's own rows is laid -/
theorem jnw (F : CallFix p m c cc nL_ s args TB own) (hT : Stat (xE E mm z) s) (j : Nat) (hB : BW (xE E mm z) s H locs (nV E μ) (nL E j) (z + (j - nlc E))) {N : Nat} {x : Int32} (hj : nlc E ≤ j) (hjm : j < mm) (hk : kd 13 j = (10, N)) (hx : x = nI N) (hN : N < 100) (hcells : cells + 1 ≤ R.cells) (hslots : slots + N ≤ R.slots) (hdg : decode cc pc = .ok (.newarray .int, 2))
    (kk : ∀ H1 : Heap, BW (xE E mm z) s H1 locs (nV E μ) (nL E (j + 1)) (z + (j + 1 - nlc E)) → W p l e R s m args below meth c H1 locs (cells + 1) (slots + N) Q (F0 m (pc + 2) ls (.ref (ea (xE E mm z) 13 j) :: rest))) : W p l e R s m args below meth c H locs cells slots Q (F0 m pc ls (.int x :: rest)) := by
  refine bnewi (r := 13) (q := j) (t := 0) (N := N) F hT hB rfl (fun C h => by cases h) ca_int hx (by omega) (by show N * 4 ≤ 536870912; omega) (xE_n hj) (Or.inr (Or.inr (Or.inr ⟨rfl, by rw [xE_lc]; exact hjm⟩))) hk hcells hslots hdg (fun H1 h1 => kk H1 ⟨h1.1.to (fun r q hL => ?_), h1.2.1, by rw [h1.2.2]; omega⟩)
  rcases hL with g | ⟨rfl, g1, g2⟩
  · have ho := lv_old g
    exact ⟨Or.inl (Or.inl g), (vs_ne _ _ (by omega)).symm⟩
  · by_cases hq : q = j
    · refine ⟨Or.inr ⟨rfl, hq⟩, ?_⟩
      rw [hq, vs_at]
      unfold nV
      rw [if_pos ⟨rfl, hj⟩]
      rfl
    · exact ⟨Or.inl (Or.inr ⟨rfl, g1, by omega⟩), (vs_ne _ _ (by omega)).symm⟩
/-- a method that lays cells: its walk -/
theorem tMet {y : MethodName} {cd : ByteArray} {mL : Nat} {rt : Option FieldType} {fr lo mc ms : Nat} {av : List Value} {Qc : Array Value → State → Outcome → State → Prop} (hy : plainName y.cls = true) (hlen : (lg_sl av).length ≤ mL)
    (body : ∀ (p : Program) (e : Env) (s : State) (m : MethodId) (below : List Frame) (meth : Method) (c : Code) (ls : Array Slot), CallFix p m c cd mL s av.toArray TB y.cls → Stat E s → meth.sig.returnType = rt → meth.locks = false → Wd E s s.heap [] μ → lv_has ls mL (lv_args 0 av) → W p l e (rmC fr lo mc ms) s m av.toArray below meth c s.heap [] 0 0 (MQ below Qc av.toArray s mc ms (AA E)) (F0 m 0 ls [])) :
    Met l y (Cond.code y cd mL rt :: TB) (rmC fr lo mc ms) (Pj E av μ) Qc mc ms (AA E) := by
  refine Met.ofW (cc := cd) (maxL := mL) (ret := rt) hy rfl ?_
  intro p e s m args below meth c s₁ B hml hv
  obtain ⟨rfl, hT, hM⟩ := hv
  have hts := atoms_spec (ws := Cond.code y cd mL rt :: TB) B.pre
  rw [lg_entry_eq]
  exact body p e s m below meth c _ ⟨B.exec, B.bytes, hml, findClass_of_methodNamed B.named, fun w hw => hts w (List.mem_cons_of_mem _ hw)⟩ hT B.returns B.notSynchronized ⟨hM, va_S.rf⟩ (lv_entry av hlen)
/-- what was written in cells that were laid since is nobody's business -/
theorem xforget {g : JFrame} (kk : W p l e R s m args below meth c H (locs.filter (fun q => decide (q.base < s.heap.size))) cells slots Q g) : W p l e R s m args below meth c H locs cells slots Q g := fun T hT X => by
  refine kk T hT ⟨X.admits, X.cas, X.clock, X.frames, X.room, X.hears, X.method, X.code, X.here, X.tail, X.warmed, X.limits, X.bytes, ?_⟩
  obtain ⟨h1, h2, h3, h4, h5, h6⟩ := X.same
  refine ⟨h1, h2, h3, h4, h5, fun a c hc => ?_⟩
  obtain ⟨c', g1, g2, g3, g4⟩ := h6 a c hc
  have ha : a < s.heap.size := (Array.getElem?_eq_some_iff.mp hc).1
  exact ⟨c', g1, g2, g3, fun i hi => g4 i (fun z => hi (List.mem_filter.mpr ⟨z, by simpa using ha⟩))⟩
end NEWA
