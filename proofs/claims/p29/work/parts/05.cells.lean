/-! which cells there are; small numbers -/
theorem rn12 {r : Nat} (h : r < 11) : r ≠ 12 := by omega
theorem oSrv {E : mE} {r : Nat} (h : r < 11) : isO E r 0 3 11 := ⟨Or.inl ⟨h, by omega⟩, by unfold kd; rw [if_pos h]; rfl⟩
theorem oSet {E : mE} {r : Nat} (h : r < 11) : isO E r 1 10 7 := ⟨Or.inl ⟨h, by omega⟩, by unfold kd; rw [if_pos h]; rfl⟩
theorem oLns {E : mE} {r : Nat} (h : r < 11) : isO E r 2 13 12 := ⟨Or.inl ⟨h, by omega⟩, by unfold kd; rw [if_pos h]; rfl⟩
theorem oLin {E : mE} {r i : Nat} (h : r < 11) (hi : i < 12) : isO E r (3 + i) 1 16 := ⟨Or.inl ⟨h, by omega⟩, by unfold kd; rw [if_pos h, if_neg (by omega), if_neg (by omega), if_neg (by omega), if_pos (by omega)]⟩
theorem oTms {E : mE} {r : Nat} (h : r < 11) : isO E r 15 14 6 := ⟨Or.inl ⟨h, by omega⟩, by unfold kd; rw [if_pos h]; rfl⟩
theorem oTim {E : mE} {r i : Nat} (h : r < 11) (hi : i < 6) : isO E r (16 + i) 5 3 := ⟨Or.inl ⟨h, by omega⟩, by unfold kd; rw [if_pos h, if_neg (by omega), if_neg (by omega), if_neg (by omega), if_neg (by omega), if_neg (by omega), if_pos (by omega)]⟩
theorem oNst {E : mE} {r : Nat} (h : r < 11) : isO E r 22 15 8 := ⟨Or.inl ⟨h, by omega⟩, by unfold kd; rw [if_pos h]; rfl⟩
theorem oSvc {E : mE} {r i : Nat} (h : r < 11) (hi : i < 8) : isO E r (23 + i) 4 4 := ⟨Or.inl ⟨h, by omega⟩, by unfold kd; rw [if_pos h, if_neg (by omega), if_neg (by omega), if_neg (by omega), if_neg (by omega), if_neg (by omega), if_neg (by omega), if_neg (by omega)]⟩
theorem rSrv0 {r : Nat} (h : r < 11) : rf r 0 0 = none := by unfold rf; rw [if_pos h]; rfl
theorem rSrv1 {r : Nat} (h : r < 11) : rf r 0 1 = some (r, 1) := by unfold rf; rw [if_pos h]; rfl
theorem rSrv2 {r : Nat} (h : r < 11) : rf r 0 2 = some (r, 2) := by unfold rf; rw [if_pos h]; rfl
theorem rSrv3 {r : Nat} (h : r < 11) : rf r 0 3 = none := by unfold rf; rw [if_pos h]; rfl
theorem rSrv4 {r : Nat} (h : r < 11) : rf r 0 4 = some (r, 15) := by unfold rf; rw [if_pos h]; rfl
theorem rSrv5 {r : Nat} (h : r < 11) : rf r 0 5 = none := by unfold rf; rw [if_pos h]; rfl
theorem rSrv6 {r : Nat} (h : r < 11) : rf r 0 6 = some (r, 22) := by unfold rf; rw [if_pos h]; rfl
theorem rSrv7 {r : Nat} (h : r < 11) : rf r 0 7 = none := by unfold rf; rw [if_pos h]; rfl
theorem rSrv8 {r : Nat} (h : r < 11) : rf r 0 8 = none := by unfold rf; rw [if_pos h]; rfl
theorem rSrv9 {r : Nat} (h : r < 11) : rf r 0 9 = none := by unfold rf; rw [if_pos h]; rfl
theorem rSrv10 {r : Nat} (h : r < 11) : rf r 0 10 = none := by unfold rf; rw [if_pos h]; rfl
theorem rSet {r k : Nat} (h : r < 11) : rf r 1 k = none := by unfold rf; rw [if_pos h]; rfl
theorem rLns {r k : Nat} (h : r < 11) : rf r 2 k = some (r, 3 + k) := by unfold rf; rw [if_pos h]; rfl
theorem rTms {r k : Nat} (h : r < 11) : rf r 15 k = some (r, 16 + k) := by unfold rf; rw [if_pos h]; rfl
theorem rNst {r k : Nat} (h : r < 11) : rf r 22 k = some (r, 23 + k) := by unfold rf; rw [if_pos h]; rfl
theorem rLin {r i k : Nat} (h : r < 11) (hi : i < 12) : rf r (3 + i) k = none := by unfold rf; rw [if_pos h, if_neg (by omega), if_neg (by omega), if_neg (by omega), if_neg (by omega)]
theorem rTim {r i k : Nat} (h : r < 11) (hi : i < 6) : rf r (16 + i) k = none := by unfold rf; rw [if_pos h, if_neg (by omega), if_neg (by omega), if_neg (by omega), if_neg (by omega)]
theorem rSvc {r i k : Nat} (h : r < 11) (hi : i < 8) : rf r (23 + i) k = none := by unfold rf; rw [if_pos h, if_neg (by omega), if_neg (by omega), if_neg (by omega), if_neg (by omega)]
theorem oH0 {E : mE} : isO E 11 0 6 6 := ⟨Or.inr (Or.inl ⟨rfl, by decide⟩), rfl⟩
theorem oH1 {E : mE} : isO E 11 1 16 2 := ⟨Or.inr (Or.inl ⟨rfl, by decide⟩), rfl⟩
theorem oH2 {E : mE} : isO E 11 2 11 2 := ⟨Or.inr (Or.inl ⟨rfl, by decide⟩), rfl⟩
theorem oH3 {E : mE} : isO E 11 3 0 3 := ⟨Or.inr (Or.inl ⟨rfl, by decide⟩), rfl⟩
theorem oH4 {E : mE} : isO E 11 4 16 7 := ⟨Or.inr (Or.inl ⟨rfl, by decide⟩), rfl⟩
theorem oH5 {E : mE} : isO E 11 5 2 2 := ⟨Or.inr (Or.inl ⟨rfl, by decide⟩), rfl⟩
theorem oH6 {E : mE} : isO E 11 6 12 80 := ⟨Or.inr (Or.inl ⟨rfl, by decide⟩), rfl⟩
theorem oZ0 {E : mE} : isO E 12 0 10 7 := ⟨Or.inr (Or.inr (Or.inl ⟨rfl, by decide⟩)), rfl⟩
theorem oZ1 {E : mE} : isO E 12 1 10 7 := ⟨Or.inr (Or.inr (Or.inl ⟨rfl, by decide⟩)), rfl⟩
theorem oZ2 {E : mE} : isO E 12 2 10 7 := ⟨Or.inr (Or.inr (Or.inl ⟨rfl, by decide⟩)), rfl⟩
/-! small numbers -/
theorem lI (n : Nat) : (OfNat.ofNat n : Int32) = nI n := rfl
def cn (x : Int32) : Nat := x.toNatClampNeg
theorem ia {x y : Int32} {a b : Nat} (hx : x = nI a) (hy : y = nI b) : x + y = nI (a + b) := by rw [hx, hy]; exact nI_add a b
theorem im {x y : Int32} {a b : Nat} (hx : x = nI a) (hy : y = nI b) : x * y = nI (a * b) := by rw [hx, hy]; exact pk_mul a b
theorem isb {x y : Int32} {a b : Nat} (hx : x = nI a) (hy : y = nI b) (h : b ≤ a) : x - y = nI (a - b) := by rw [hx, hy]; exact pk_sub h
theorem c_le {x y : Int32} {a b : Nat} (hx : x = nI a) (hy : y = nI b) (h : a ≤ b) (hb : b < 2 ^ 31) : x ≤ y := by rw [hx, hy]; exact nI_le h hb
theorem c_nle {x y : Int32} {a b : Nat} (hx : x = nI a) (hy : y = nI b) (h : b < a) (ha : a < 2 ^ 31) : ¬ x ≤ y := by rw [hx, hy]; exact nI_ge h ha
theorem c_lt {x y : Int32} {a b : Nat} (hx : x = nI a) (hy : y = nI b) (h : a < b) (hb : b < 2 ^ 31) : x < y := by rw [hx, hy]; exact nI_lt h hb
theorem c_nlt {x y : Int32} {a b : Nat} (hx : x = nI a) (hy : y = nI b) (h : b ≤ a) (ha : a < 2 ^ 31) : ¬ x < y := by rw [hx, hy]; exact nI_nlt h ha
theorem znar {v : Int32} (h : v = 0 ∨ v = 1) : narrow .boolean (.int v) = .int v := by rcases h with rfl | rfl <;> rfl
theorem zfit {v : Int32} (h : v = 0 ∨ v = 1) : fits .boolean (.int v) = true := by rcases h with rfl | rfl <;> rfl
/-- f 0, f 1, .. in turn -/
def itN {α : Type} (f : Nat → α → α) : Nat → α → α
  | 0, a => a
  | n + 1, a => f n (itN f n a)
theorem itN_s {α : Type} (f : Nat → α → α) (n : Nat) (a : α) : itN f (n + 1) a = f n (itN f n a) := rfl
theorem nz0 {y : Int32} (h : ¬ y ≤ 0) : ¬ y = 0 := fun e => h (by rw [e]; exact Int32.le_refl 0)
/-! more rows: cells of another region; a walk over several regions -/
def vFst (j : Nat) : Int32 := match j with | 0 => 20 | 1 => 24 | 2 => 1 | 3 => 3 | 4 => 1 | 5 => 1 | _ => 0
def vLst (j : Nat) : Int32 := match j with | 2 => 1 | 3 => 1 | _ => 0
def vMst (j : Nat) : Int32 := match j with | 0 => 100 | 1 => 31 | 2 => 9 | 3 => 8 | 4 => 9 | 5 => 1 | _ => 31
section ROWSG
variable {p : Program} {l : Launch} {e : Env} {R : Room} {s : State} {m : MethodId} {args : Array Value} {below : List Frame} {meth : Method} {c : Code} {H : Heap} {locs : List Loc} {cells slots : Nat} {Q : State → Prop}
variable {cc : ByteArray} {nL pc : Nat} {ls : Array Slot} {rest st0 : List Value} {own : String} {E : mE} {μ μ0 : Mu} {r : Nat}
theorem jgetG {index q k ci N : Nat} (F : CallFix p m c cc nL s args TB own) (hT : Stat E s) (hW : Wd E s H locs μ) (hf : FW own index ci k) (hO : isO E r q ci N) (hc : ci < 10) (hn : rf r q k = none) {v : Int32} (hv : μ r q k = v) (hdg : decode cc pc = .ok (.getfield index, 3))
    (kk : W p l e R s m args below meth c H locs cells slots Q (F0 m (pc + 3) ls (.int v :: rest))) : W p l e R s m args below meth c H locs cells slots Q (F0 m pc ls (.ref (ea E r q) :: rest)) :=
  jget F hT (hW.foc r) hf hO hc hn hdg (by rw [hv]; exact kk)
theorem jialdG {q n : Nat} {x : Int32} (j : Nat) (F : CallFix p m c cc nL s args TB own) (hT : Stat E s) (hW : Wd E s H locs μ) (hO : isO E r q 10 n) (hj : j < n) (hn : n < 2 ^ 31) (hx : x = nI j) (hr : rf r q j = none) {v : Int32} (hv : μ r q j = v) (hdg : decode cc pc = .ok (.iaload, 1))
    (kk : W p l e R s m args below meth c H locs cells slots Q (F0 m (pc + 1) ls (.int v :: rest))) : W p l e R s m args below meth c H locs cells slots Q (F0 m pc ls (.int x :: .ref (ea E r q) :: rest)) :=
  jiald F hT (hW.foc r) j hO hj hn hx hr hdg (by rw [hv]; exact kk)
theorem jputM {index q k ci N : Nat} {ty : FieldType} {v : Int32} (F : CallFix p m c cc nL s args TB own) (hT : Stat E s) (hW : Wd E s H locs μ) (hf : FW own index ci k) (ht : FT ci k ty false) (hO : isO E r q ci N) (hc : ci < 10) (hr : r ≠ 12) (hn : rf r q k = none) (hna : narrow ty (.int v) = .int v) (hfi : fits ty (.int v) = true) (hdg : decode cc pc = .ok (.putfield index, 3))
    (kk : ∀ (M' : Mu) (H : Heap) (locs : List Loc), M' = fo μ r (us (μ r) q k v) → Wd E s H locs M' → W p l e R s m args below meth c H locs cells slots Q (F0 m (pc + 3) ls rest)) : W p l e R s m args below meth c H locs cells slots Q (F0 m pc ls (.int v :: .ref (ea E r q) :: rest)) :=
  jput F hT (hW.foc r) hf ht hO hc hr hn hna hfi hdg (fun S' H locs h hW => kk _ H locs (by rw [h]) hW)
theorem jzastM {q n : Nat} {x v : Int32} (j : Nat) (F : CallFix p m c cc nL s args TB own) (hT : Stat E s) (hW : Wd E s H locs μ) (hO : isO E r q 11 n) (hr2 : r ≠ 12) (hj : j < n) (hn : n < 2 ^ 31) (hx : x = nI j) (hr : rf r q j = none) (hna : narrow .boolean (.int v) = .int v) (hdg : decode cc pc = .ok (.bastore, 1))
    (kk : ∀ (M' : Mu) (H : Heap) (locs : List Loc), M' = fo μ r (us (μ r) q j v) → Wd E s H locs M' → W p l e R s m args below meth c H locs cells slots Q (F0 m (pc + 1) ls rest)) : W p l e R s m args below meth c H locs cells slots Q (F0 m pc ls (.int v :: .int x :: .ref (ea E r q) :: rest)) :=
  jzast F hT (hW.foc r) j hO hr2 hj hn hx hr hna hdg (fun S' H locs h hW => kk _ H locs (by rw [h]) hW)
theorem jcifM {a : Array Value} {x2 : Int32} {S2 : Sv} (hr : va_Run p l e R s m args below meth c H locs cells slots 0 0 (F0 m pc ls st0) rest (va_Qi (fun x μ' => x = x2 ∧ μ' = fo μ0 r S2) (fun μ' t => MB E μ' t.heap) (AA E) a) (AA E)) (hW : Wd E s H locs μ)
    (kk : ∀ (x : Int32) (M' : Mu) (H : Heap) (locs : List Loc), x = x2 → M' = fo μ0 r S2 → Wd E s H locs M' → W p l e R s m args below meth c H locs cells slots Q (F0 m (pc + 3) ls (.int x :: rest))) : W p l e R s m args below meth c H locs cells slots Q (F0 m pc ls st0) :=
  jci hr hW (fun x μ' H locs hp hW => kk x μ' H locs hp.1 hp.2 hW)
theorem jciG {a : Array Value} {x2 : Int32} {M2 : Mu} (hr : va_Run p l e R s m args below meth c H locs cells slots 0 0 (F0 m pc ls st0) rest (va_Qi (fun x μ' => x = x2 ∧ μ' = M2) (fun μ' t => MB E μ' t.heap) (AA E) a) (AA E)) (hW : Wd E s H locs μ)
    (kk : ∀ (x : Int32) (M' : Mu) (H : Heap) (locs : List Loc), x = x2 → M' = M2 → Wd E s H locs M' → W p l e R s m args below meth c H locs cells slots Q (F0 m (pc + 3) ls (.int x :: rest))) : W p l e R s m args below meth c H locs cells slots Q (F0 m pc ls st0) :=
  jci hr hW (fun x μ' H locs hp hW => kk x μ' H locs hp.1 hp.2 hW)
theorem jcipM {a : Array Value} {x2 : Int32} (hr : va_Run p l e R s m args below meth c H locs cells slots 0 0 (F0 m pc ls st0) rest (va_Qi (fun x μ' => x = x2 ∧ μ' = fo μ r (μ r)) (fun μ' t => MB E μ' t.heap) (AA E) a) (AA E)) (hW : Wd E s H locs μ)
    (kk : ∀ (x : Int32) (H : Heap) (locs : List Loc), x = x2 → Wd E s H locs μ → W p l e R s m args below meth c H locs cells slots Q (F0 m (pc + 3) ls (.int x :: rest))) : W p l e R s m args below meth c H locs cells slots Q (F0 m pc ls st0) :=
  jci hr hW (fun x μ' H locs hp hW => kk x H locs hp.1 (hW.to (by rw [hp.2, fo_self])))
theorem jcvM {a : Array Value} {S2 : Sv} (hr : va_Run p l e R s m args below meth c H locs cells slots 0 0 (F0 m pc ls st0) rest (va_Qv (fun μ' => μ' = fo μ0 r S2) (fun μ' t => MB E μ' t.heap) (AA E) a) (AA E)) (hW : Wd E s H locs μ)
    (kk : ∀ (M' : Mu) (H : Heap) (locs : List Loc), M' = fo μ0 r S2 → Wd E s H locs M' → W p l e R s m args below meth c H locs cells slots Q (F0 m (pc + 3) ls rest)) : W p l e R s m args below meth c H locs cells slots Q (F0 m pc ls st0) :=
  jcv hr hW (fun μ' H locs hp hW => kk μ' H locs hp hW)
theorem jcvG {a : Array Value} {M2 : Mu} (hr : va_Run p l e R s m args below meth c H locs cells slots 0 0 (F0 m pc ls st0) rest (va_Qv (fun μ' => μ' = M2) (fun μ' t => MB E μ' t.heap) (AA E) a) (AA E)) (hW : Wd E s H locs μ)
    (kk : ∀ (M' : Mu) (H : Heap) (locs : List Loc), M' = M2 → Wd E s H locs M' → W p l e R s m args below meth c H locs cells slots Q (F0 m (pc + 3) ls rest)) : W p l e R s m args below meth c H locs cells slots Q (F0 m pc ls st0) :=
  jcv hr hW (fun μ' H locs hp hW => kk μ' H locs hp hW)
end ROWSG
def Bn (x : Int32) (b : Nat) : Prop := x = nI (cn x) ∧ cn x ≤ b
theorem bnI {n b : Nat} (h : n ≤ b) (hb : n < 2 ^ 31) : Bn (nI n) b := by
  have h1 : cn (nI n) = n := nI_clamp hb
  exact ⟨by rw [h1], by rw [h1]; exact h⟩
theorem iteP {P : Int32 → Prop} {c : Prop} {h : Decidable c} {a b : Int32} (h1 : P a) (h2 : P b) : P (@ite _ c h a b) := by
  by_cases hc : c
  · rw [if_pos hc]; exact h1
  · rw [if_neg hc]; exact h2
theorem bn_lt {x : Int32} {b c : Nat} (hx : Bn x b) (hb : b < 2 ^ 31) (hc : c < 2 ^ 31) (h : x < nI c) : cn x < c := by
  rw [hx.1] at h
  exact Nat.lt_of_not_le fun q => absurd h (nI_nlt q (Nat.lt_of_le_of_lt hx.2 hb))
/-- System.arraycopy of a server's settings into another's -/
def cpS (S T : Sv) : Sv := fun p k => if p = 1 ∧ k < 7 then T 1 k else S p k
theorem nz1 {y : Int64} (h : ¬ lg_cmp y 0 ≤ 0) : ¬ y = 0 := fun e => h (by rw [e]; decide)
theorem iteZ {c : Prop} {h : Decidable c} {a b : Int32} (h1 : a = 0 ∨ a = 1) (h2 : b = 0 ∨ b = 1) : (@ite _ c h a b) = 0 ∨ (@ite _ c h a b) = 1 := by
  by_cases hc : c
  · rw [if_pos hc]; exact h1
  · rw [if_neg hc]; exact h2
