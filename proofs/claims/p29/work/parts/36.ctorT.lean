/-! class Server's constructor -/
theorem SVf_0 {E : mE} {r : Nat} {d : Nat → Value} {a b c : Nat} : SVf E r d a b c 0 = d := by
  funext k
  simp [SVf]
theorem SVf_1 {E : mE} {r : Nat} {d : Nat → Value} {a b c : Nat} : SVf E r d a b c 1 = fun j => .int (vFst j) := by
  funext k
  simp [SVf]
theorem SVf_2 {E : mE} {r : Nat} {d : Nat → Value} {b c : Nat} : SVf E r d 0 b c 2 = fun _ => .null := by
  funext k
  simp [SVf]
theorem SVf_15 {E : mE} {r : Nat} {d : Nat → Value} {a c : Nat} : SVf E r d a 0 c 15 = fun _ => .null := by
  funext k
  simp [SVf]
theorem SVf_22 {E : mE} {r : Nat} {d : Nat → Value} {a b : Nat} : SVf E r d a b 0 22 = fun _ => .null := by
  funext k
  simp [SVf]
theorem SVf_d {E : mE} {r q : Nat} {d d' : Nat → Value} {a b c : Nat} (h : ¬ q = 0) : SVf E r d a b c q = SVf E r d' a b c q := by
  funext k
  simp [SVf, h]
def d1 (E : mE) (r : Nat) (d : Nat → Value) : Nat → Value := updV (updV d 1 (.ref (ea E r 1))) 2 (.ref (ea E r 2))
def d2 (E : mE) (r : Nat) (d : Nat → Value) : Nat → Value := updV (d1 E r d) 4 (.ref (ea E r 15))
def d3 (E : mE) (r : Nat) (d : Nat → Value) : Nat → Value := updV (d2 E r d) 6 (.ref (ea E r 22))
theorem en1 {V : Vs} {E : mE} {r : Nat} {L : Nat → Nat → Prop} (hLr : ∀ q, L r q → q = 0) : ∀ r' q', LSr L r (3 + 0) r' q' → ((L r' q' ∨ (r' = r ∧ q' = 1)) ∨ (r' = r ∧ q' = 2)) ∧ VSr V E r (d1 E r (V r 0)) 0 0 0 r' q' =
    vs (vs (vs (vs V r 1 (fun j => .int (vFst j))) r 0 (updV ((vs V r 1 (fun j => .int (vFst j))) r 0) 1 (.ref (ea E r 1)))) r 2 (fun _ => .null)) r 0 (updV ((vs (vs (vs V r 1 (fun j => .int (vFst j))) r 0 (updV ((vs V r 1 (fun j => .int (vFst j))) r 0) 1 (.ref (ea E r 1)))) r 2 (fun _ => .null)) r 0) 2 (.ref (ea E r 2))) r' q' := by
  intro r' q' h
  have hq : r' = r → q' = 0 ∨ q' = 1 ∨ q' = 2 := fun e => by
    rcases h with h | ⟨h1, h2, h3⟩
    · exact Or.inl (hLr _ (e ▸ h))
    · omega
  refine ⟨?_, ?_⟩
  · rcases h with h | ⟨h1, h2, h3⟩
    · exact Or.inl (Or.inl h)
    · by_cases hq1 : q' = 1
      · exact Or.inl (Or.inr ⟨h1, hq1⟩)
      · exact Or.inr ⟨h1, by omega⟩
  · by_cases hr : r' = r
    · subst hr
      rcases hq rfl with rfl | rfl | rfl
      · simp [VSr, SVf_0, vs, d1]
      · simp [VSr, SVf_1, vs]
      · simp [VSr, SVf_2, vs]
    · simp [VSr, vs, hr]
theorem en2 {V : Vs} {E : mE} {r q0 f a b c : Nat} {d : Nat → Value} {L : Nat → Nat → Prop} (h0 : (q0 = 15 ∧ b = 0) ∨ (q0 = 22 ∧ c = 0)) : ∀ r' q', LSr L r (q0 + 1 + 0) r' q' → (LSr L r q0 r' q' ∨ (r' = r ∧ q' = q0)) ∧ VSr V E r (updV d f (.ref (ea E r q0))) a b c r' q' =
    vs (vs (VSr V E r d a b c) r q0 (fun _ => .null)) r 0 (updV ((vs (VSr V E r d a b c) r q0 (fun _ => .null)) r 0) f (.ref (ea E r q0))) r' q' := by
  intro r' q' h
  refine ⟨?_, ?_⟩
  · rcases h with h | ⟨h1, h2, h3⟩
    · exact Or.inl (Or.inl h)
    · by_cases hq1 : q' = q0
      · exact Or.inr ⟨h1, hq1⟩
      · exact Or.inl (Or.inr ⟨h1, h2, by omega⟩)
  · by_cases hr : r' = r
    · subst hr
      have h0' : ¬ 0 = q0 := by omega
      by_cases hq0 : q' = 0
      · subst hq0
        simp [VSr, SVf_0, vs, h0']
      · by_cases hq1 : q' = q0
        · subst hq1
          rcases h0 with ⟨rfl, rfl⟩ | ⟨rfl, rfl⟩
          · simp [VSr, SVf_15, vs]
          · simp [VSr, SVf_22, vs]
        · simp [VSr, vs, hq0, hq1]
          exact SVf_d hq0
    · simp [VSr, vs, hr]
section GSN
variable {p : Program} {l : Launch} {e : Env} {R : Room} {s : State} {m : MethodId} {args : Array Value} {below : List Frame} {meth : Method} {c : Code} {H : Heap} {locs : List Loc} {cells slots : Nat} {Q : State → Prop}
variable {cc : ByteArray} {nL pc : Nat} {ls : Array Slot} {rest : List Value} {own : String} {E : mE} {V : Vs} {L : Nat → Nat → Prop} {n index a : Nat} {nm : String}
theorem bgsN (F : CallFix p m c cc nL s args TB own) (hT : Stat E s) (hB : BW E s H locs V L n) (hZ : va_Z "InterruptInn" nm "[I" (.ref a) (AA E) s s.heap) (hl : (own, index, "InterruptInn", nm, "[I", "InterruptInn") ∈ nwF) (hdg : decode cc pc = .ok (.getstatic index, 3))
    (kk : W p l e R s m args below meth c H locs cells slots Q (F0 m (pc + 3) ls (.ref a :: rest))) : W p l e R s m args below meth c H locs cells slots Q (F0 m pc ls rest) :=
  va_getsN F.1 F.2.1 hZ hB.2.1 F.2.2.2.1 (va_Nw.use rfl (hT.1.2.1 _ hl)) (fun _ h => h) hdg kk
end GSN
set_option maxHeartbeats 4000000 in
set_option maxRecDepth 100000 in
theorem c_X3_init (l : Launch) (E : mE) (V : Vs) (L : Nat → Nat → Prop) (n r : Nat) (hr : r < 11) (hL0 : L r 0) (hLr : ∀ q, L r q → q = 0) (hF : L 12 0) (hFv : V 12 0 = fun j => .int (vFst j)) (hA : ∀ q, 1 ≤ q → q < 31 → ea E r q = n + (q - 1)) :
    CtB l E yX3_init cX3_init 2 2 60 30 275 [.ref (ea E r 0)] V L n (VSr V E r (d3 E r (V r 0)) 12 6 8) (LSr L r 31) (n + 30) := by
  refine bMet (by decide +kernel) (Nat.le_of_ble_eq_true rfl) ?_
  intro p e s m below meth c ls F hT hr0 hlk hnm hB hl
  have F : CallFix p m c cX3_init 2 s _ TB RX3 := F
  have hl : lv_has ls 2 [(0, .ref (ea E r 0))] := hl
  refine lv_aload_n F.1 F.2.1 dX3_init_0 rfl (lv_at hl 0 rfl) ?_
  refine bobj F hl.1 co_X3 (Nat.le_of_ble_eq_true rfl) (Nat.le_of_ble_eq_true rfl) dX3_init_1 ?_
  refine lv_aload_n F.1 F.2.1 dX3_init_4 rfl (lv_at hl 0 rfl) ?_
  refine bgsN F hT hB hT.2.2.1 (by decide +kernel) dX3_init_5 ?_
  refine bclone (r := r) (q := 1) (N := 7) F hl.1.symm hT hB ml_X3_13 hF rfl hFv (hA 1 (by decide) (by decide)) (oSet hr).1 (oSet (E := E) hr).2 (by show 1 ≤ 2; decide) (by show 1 + 14 ≤ 60; decide) (by show 0 + 1 ≤ 30; decide) (by show 0 + 7 ≤ 275; decide) dX3_init_8 (fun H hB => ?_)
  refine bcast F hT hB cl_X3_14 (Or.inr ⟨rfl, rfl⟩) (rn12 hr) (oSet (E := E) hr).2 (vs_at _ _ _ _) dX3_init_11 ?_
  refine bputF (ty := tyX3 1) F hT hB (rfl : kcl[3]? = some (RX3, TX3, 11)) tyX3_ok nmX3 fw_X3_18 rfl hnm rfl rfl rfl rfl (Or.inl hL0) (by omega) (oSrv (E := E) hr).2 (by decide) dX3_init_14 (fun H locs hB => ?_)
  have hL3 : ∀ (fu j : Nat) (H : Heap) (locs : List Loc) (ls : Array Slot), j + fu = 8 → BW E s H locs (VSr V E r (d3 E r (V r 0)) 12 6 j) (LSr L r (23 + j)) (n + 22 + j) → lv_has ls 2 [(1, .int (nI j)), (0, .ref (ea E r 0))] → W p l e (rmC 2 60 30 275) s m ([.ref (ea E r 0)] : List Value).toArray below meth c H locs (22 + j) (243 + 4 * j) (MQ below (Qb E (VSr V E r (d3 E r (V r 0)) 12 6 8) (LSr L r 31) (n + 30)) ([.ref (ea E r 0)] : List Value).toArray s 30 275 (AA E)) (F0 m 100 ls []) := by
    intro fu
    induction fu with
    | zero =>
      intro j H locs ls hj hB hl
      obtain rfl : j = 8 := by omega
      refine lv_iload_n F.1 F.2.1 dX3_init_100 rfl (lv_at hl 0 rfl) ?_
      refine lv_bipush (v := 8) F.1 F.2.1 dX3_init_101 (by decide) ?_
      refine lv_icmp_ge (tgt := 125) F.1 F.2.1 dX3_init_103 (by decide) (fun h5 => ?_) (fun h5 => absurd (c_le (lI 8) rfl (by decide) (by decide)) h5)
      exact brv F hr0 hlk hB dX3_init_125 (fun _ _ h => ⟨h, rfl⟩) (by omega) rfl rfl
    | succ fu ih =>
      intro j H locs ls hj hB hl
      refine lv_iload_n F.1 F.2.1 dX3_init_100 rfl (lv_at hl 0 rfl) ?_
      refine lv_bipush (v := 8) F.1 F.2.1 dX3_init_101 (by decide) ?_
      refine lv_icmp_ge (tgt := 125) F.1 F.2.1 dX3_init_103 (by decide) (fun h5 => absurd h5 (c_nle (lI 8) rfl (by omega) (by omega))) (fun h5 => ?_)
      refine lv_aload_n F.1 F.2.1 dX3_init_106 rfl (lv_at hl 1 rfl) ?_
      refine bgetR (r' := r) (q' := 22) F hT hB fw_X3_39 (Or.inl hL0) (oSrv (E := E) hr).2 (by decide) (by simp [VSr, SVf, d1, d2, d3, updV]) dX3_init_107 ?_
      refine lv_iload_n F.1 F.2.1 dX3_init_110 rfl (lv_at hl 0 rfl) ?_
      refine bnew (r := r) (q := 23 + j) F hT hB (rfl : kcl[4]? = some (RX4, TX4, 4)) tyX4_ok ls_4 cl_X3_37 ci_X4 cz_X4 (by rw [hA _ (by omega) (by omega)]; omega) (oSvc hr (by omega)).1 (oSvc (E := E) hr (by omega)).2 (by decide) (by show 22 + j + 1 ≤ 30; omega) (by show 243 + 4 * j + 4 ≤ 275; omega) dX3_init_111 (fun H hB => ?_)
      refine lv_dup F.1 F.2.1 dX3_init_114 rfl ?_
      refine bcv (brunIN F hT hB yc_X4_init rfl yi_X4_init (by decide +kernel) (c_X4_init l E _ _ _ r (23 + j)) hl.1 ⟨Nat.le_of_ble_eq_true rfl, Nat.le_of_ble_eq_true rfl⟩ (Nat.le_of_ble_eq_true rfl) ⟨by show 22 + j + 1 + 0 ≤ 30; omega, by show 243 + 4 * j + 4 + 0 ≤ 275; omega⟩ dX3_init_115) hB (fun H locs hB => ?_)
      refine bastq (t := 5) (N := 8) F hT hB rfl (rfl : kcl[4]? = some (RX4, TX4, 4)) (Or.inl (Or.inr ⟨rfl, by omega, by omega⟩)) (by omega) (oNst (E := E) hr).2 (Or.inr ⟨rfl, rfl⟩) (oSvc (E := E) hr (by omega)).2 (by decide) (by omega : j < 8) (by decide) rfl dX3_init_118 (fun H locs hB => ?_)
      refine lv_iinc (v := nI (j + 1)) (lv' := [(1, .int (nI (j + 1))), (0, .ref (ea E r 0))]) F.1 F.2.1 dX3_init_119 hl (k := 0) rfl (ia rfl rfl) (by decide) rfl (fun ls hl => ?_)
      refine lv_goto (tgt := 100) F.1 F.2.1 dX3_init_122 (by decide) ?_
      have hB2 : BW E s H locs (VSr V E r (d3 E r (V r 0)) 12 6 (j + 1)) (LSr L r (23 + (j + 1))) (n + 22 + (j + 1)) := ⟨hB.1.to (st3 (by omega)), hB.2.1, by rw [hB.2.2]; omega⟩
      have hk := ih (j + 1) H locs ls (by omega) hB2 hl
      rw [show 22 + (j + 1) = 22 + j + 1 by omega, show 243 + 4 * (j + 1) = 243 + 4 * j + 4 by omega] at hk
      exact hk
  have hL2 : ∀ (fu j : Nat) (H : Heap) (locs : List Loc) (ls : Array Slot), j + fu = 6 → BW E s H locs (VSr V E r (d2 E r (V r 0)) 12 j 0) (LSr L r (16 + j)) (n + 15 + j) → lv_has ls 2 [(1, .int (nI j)), (0, .ref (ea E r 0))] → W p l e (rmC 2 60 30 275) s m ([.ref (ea E r 0)] : List Value).toArray below meth c H locs (15 + j) (217 + 3 * j) (MQ below (Qb E (VSr V E r (d3 E r (V r 0)) 12 6 8) (LSr L r 31) (n + 30)) ([.ref (ea E r 0)] : List Value).toArray s 30 275 (AA E)) (F0 m 64 ls []) := by
    intro fu
    induction fu with
    | zero =>
      intro j H locs ls hj hB hl
      obtain rfl : j = 6 := by omega
      refine lv_iload_n F.1 F.2.1 dX3_init_64 rfl (lv_at hl 0 rfl) ?_
      refine lv_bipush (v := 6) F.1 F.2.1 dX3_init_65 (by decide) ?_
      refine lv_icmp_ge (tgt := 89) F.1 F.2.1 dX3_init_67 (by decide) (fun h5 => ?_) (fun h5 => absurd (c_le (lI 6) rfl (by decide) (by decide)) h5)
      refine lv_aload_n F.1 F.2.1 dX3_init_89 rfl (lv_at hl 1 rfl) ?_
      refine lv_bipush (v := 8) F.1 F.2.1 dX3_init_90 (by decide) ?_
      refine bnewq (r := r) (q := 22) (t := 5) (N := 8) F hT hB rfl cl_X3_37 (hT.1.2.2.2.1 _ (by decide +kernel)) rfl (by decide) (by decide) (by rw [hA _ (by decide) (by decide)]) (oNst hr).1 (oNst (E := E) hr).2 (by show 21 + 1 ≤ 30; decide) (by show 235 + 8 ≤ 275; decide) dX3_init_92 (fun H hB => ?_)
      refine bputF (ty := tyX3 6) F hT hB (rfl : kcl[3]? = some (RX3, TX3, 11)) tyX3_ok nmX3 fw_X3_39 rfl hnm rfl rfl rfl rfl (Or.inl (Or.inl hL0)) (by omega) (oSrv (E := E) hr).2 (by decide) dX3_init_95 (fun H locs hB => ?_)
      refine lv_iconst (v := 0) F.1 F.2.1 dX3_init_98 (by decide) ?_
      refine lv_istore_n (lv' := [(1, .int 0), (0, .ref (ea E r 0))]) F.1 F.2.1 dX3_init_99 rfl hl (by decide) rfl (fun ls hl => ?_)
      have hB3 : BW E s H locs (VSr V E r (d3 E r (V r 0)) 12 6 0) (LSr L r (23 + 0)) (n + 22 + 0) := ⟨hB.1.to (en2 (by omega)), hB.2.1, by rw [hB.2.2]⟩
      exact hL3 8 0 H locs ls (by omega) hB3 hl
    | succ fu ih =>
      intro j H locs ls hj hB hl
      refine lv_iload_n F.1 F.2.1 dX3_init_64 rfl (lv_at hl 0 rfl) ?_
      refine lv_bipush (v := 6) F.1 F.2.1 dX3_init_65 (by decide) ?_
      refine lv_icmp_ge (tgt := 89) F.1 F.2.1 dX3_init_67 (by decide) (fun h5 => absurd h5 (c_nle (lI 6) rfl (by omega) (by omega))) (fun h5 => ?_)
      refine lv_aload_n F.1 F.2.1 dX3_init_70 rfl (lv_at hl 1 rfl) ?_
      refine bgetR (r' := r) (q' := 15) F hT hB fw_X3_32 (Or.inl hL0) (oSrv (E := E) hr).2 (by decide) (by simp [VSr, SVf, d1, d2, d3, updV]) dX3_init_71 ?_
      refine lv_iload_n F.1 F.2.1 dX3_init_74 rfl (lv_at hl 0 rfl) ?_
      refine bnew (r := r) (q := 16 + j) F hT hB (rfl : kcl[5]? = some (RX5, TX5, 3)) tyX5_ok ls_5 cl_X3_30 ci_X5 cz_X5 (by rw [hA _ (by omega) (by omega)]; omega) (oTim hr (by omega)).1 (oTim (E := E) hr (by omega)).2 (by decide) (by show 15 + j + 1 ≤ 30; omega) (by show 217 + 3 * j + 3 ≤ 275; omega) dX3_init_75 (fun H hB => ?_)
      refine lv_dup F.1 F.2.1 dX3_init_78 rfl ?_
      refine bcv (brunIN F hT hB yc_X5_init rfl yi_X5_init (by decide +kernel) (c_X5_init l E _ _ _ r (16 + j)) hl.1 ⟨Nat.le_of_ble_eq_true rfl, Nat.le_of_ble_eq_true rfl⟩ (Nat.le_of_ble_eq_true rfl) ⟨by show 15 + j + 1 + 0 ≤ 30; omega, by show 217 + 3 * j + 3 + 0 ≤ 275; omega⟩ dX3_init_79) hB (fun H locs hB => ?_)
      refine bastq (t := 4) (N := 6) F hT hB rfl (rfl : kcl[5]? = some (RX5, TX5, 3)) (Or.inl (Or.inr ⟨rfl, by omega, by omega⟩)) (by omega) (oTms (E := E) hr).2 (Or.inr ⟨rfl, rfl⟩) (oTim (E := E) hr (by omega)).2 (by decide) (by omega : j < 6) (by decide) rfl dX3_init_82 (fun H locs hB => ?_)
      refine lv_iinc (v := nI (j + 1)) (lv' := [(1, .int (nI (j + 1))), (0, .ref (ea E r 0))]) F.1 F.2.1 dX3_init_83 hl (k := 0) rfl (ia rfl rfl) (by decide) rfl (fun ls hl => ?_)
      refine lv_goto (tgt := 64) F.1 F.2.1 dX3_init_86 (by decide) ?_
      have hB2 : BW E s H locs (VSr V E r (d2 E r (V r 0)) 12 (j + 1) 0) (LSr L r (16 + (j + 1))) (n + 15 + (j + 1)) := ⟨hB.1.to (st2 (by omega)), hB.2.1, by rw [hB.2.2]; omega⟩
      have hk := ih (j + 1) H locs ls (by omega) hB2 hl
      rw [show 15 + (j + 1) = 15 + j + 1 by omega, show 217 + 3 * (j + 1) = 217 + 3 * j + 3 by omega] at hk
      exact hk
  have hL1 : ∀ (fu j : Nat) (H : Heap) (locs : List Loc) (ls : Array Slot), j + fu = 12 → BW E s H locs (VSr V E r (d1 E r (V r 0)) j 0 0) (LSr L r (3 + j)) (n + 2 + j) → lv_has ls 2 [(1, .int (nI j)), (0, .ref (ea E r 0))] → W p l e (rmC 2 60 30 275) s m ([.ref (ea E r 0)] : List Value).toArray below meth c H locs (2 + j) (19 + 16 * j) (MQ below (Qb E (VSr V E r (d3 E r (V r 0)) 12 6 8) (LSr L r 31) (n + 30)) ([.ref (ea E r 0)] : List Value).toArray s 30 275 (AA E)) (F0 m 28 ls []) := by
    intro fu
    induction fu with
    | zero =>
      intro j H locs ls hj hB hl
      obtain rfl : j = 12 := by omega
      refine lv_iload_n F.1 F.2.1 dX3_init_28 rfl (lv_at hl 0 rfl) ?_
      refine lv_bipush (v := 12) F.1 F.2.1 dX3_init_29 (by decide) ?_
      refine lv_icmp_ge (tgt := 53) F.1 F.2.1 dX3_init_31 (by decide) (fun h5 => ?_) (fun h5 => absurd (c_le (lI 12) rfl (by decide) (by decide)) h5)
      refine lv_aload_n F.1 F.2.1 dX3_init_53 rfl (lv_at hl 1 rfl) ?_
      refine lv_bipush (v := 6) F.1 F.2.1 dX3_init_54 (by decide) ?_
      refine bnewq (r := r) (q := 15) (t := 4) (N := 6) F hT hB rfl cl_X3_30 (hT.1.2.2.2.1 _ (by decide +kernel)) rfl (by decide) (by decide) (by rw [hA _ (by decide) (by decide)]) (oTms hr).1 (oTms (E := E) hr).2 (by show 14 + 1 ≤ 30; decide) (by show 211 + 6 ≤ 275; decide) dX3_init_56 (fun H hB => ?_)
      refine bputF (ty := tyX3 4) F hT hB (rfl : kcl[3]? = some (RX3, TX3, 11)) tyX3_ok nmX3 fw_X3_32 rfl hnm rfl rfl rfl rfl (Or.inl (Or.inl hL0)) (by omega) (oSrv (E := E) hr).2 (by decide) dX3_init_59 (fun H locs hB => ?_)
      refine lv_iconst (v := 0) F.1 F.2.1 dX3_init_62 (by decide) ?_
      refine lv_istore_n (lv' := [(1, .int 0), (0, .ref (ea E r 0))]) F.1 F.2.1 dX3_init_63 rfl hl (by decide) rfl (fun ls hl => ?_)
      have hB3 : BW E s H locs (VSr V E r (d2 E r (V r 0)) 12 0 0) (LSr L r (16 + 0)) (n + 15 + 0) := ⟨hB.1.to (en2 (by omega)), hB.2.1, by rw [hB.2.2]⟩
      exact hL2 6 0 H locs ls (by omega) hB3 hl
    | succ fu ih =>
      intro j H locs ls hj hB hl
      refine lv_iload_n F.1 F.2.1 dX3_init_28 rfl (lv_at hl 0 rfl) ?_
      refine lv_bipush (v := 12) F.1 F.2.1 dX3_init_29 (by decide) ?_
      refine lv_icmp_ge (tgt := 53) F.1 F.2.1 dX3_init_31 (by decide) (fun h5 => absurd h5 (c_nle (lI 12) rfl (by omega) (by omega))) (fun h5 => ?_)
      refine lv_aload_n F.1 F.2.1 dX3_init_34 rfl (lv_at hl 1 rfl) ?_
      refine bgetR (r' := r) (q' := 2) F hT hB fw_X3_25 (Or.inl hL0) (oSrv (E := E) hr).2 (by decide) (by simp [VSr, SVf, d1, d2, d3, updV]) dX3_init_35 ?_
      refine lv_iload_n F.1 F.2.1 dX3_init_38 rfl (lv_at hl 0 rfl) ?_
      refine bnew (r := r) (q := 3 + j) F hT hB (rfl : kcl[1]? = some (RX1, TX1, 16)) tyX1_ok ls_1 cl_X3_23 ci_X1 cz_X1 (by rw [hA _ (by omega) (by omega)]; omega) (oLin hr (by omega)).1 (oLin (E := E) hr (by omega)).2 (by decide) (by show 2 + j + 1 ≤ 30; omega) (by show 19 + 16 * j + 16 ≤ 275; omega) dX3_init_39 (fun H hB => ?_)
      refine lv_dup F.1 F.2.1 dX3_init_42 rfl ?_
      refine bcv (brunIN F hT hB yc_X1_init rfl yi_X1_init (by decide +kernel) (c_X1_init l E _ _ _ r (3 + j)) hl.1 ⟨Nat.le_of_ble_eq_true rfl, Nat.le_of_ble_eq_true rfl⟩ (Nat.le_of_ble_eq_true rfl) ⟨by show 2 + j + 1 + 0 ≤ 30; omega, by show 19 + 16 * j + 16 + 0 ≤ 275; omega⟩ dX3_init_43) hB (fun H locs hB => ?_)
      refine bastq (t := 3) (N := 12) F hT hB rfl (rfl : kcl[1]? = some (RX1, TX1, 16)) (Or.inl (Or.inr ⟨rfl, by omega, by omega⟩)) (by omega) (oLns (E := E) hr).2 (Or.inr ⟨rfl, rfl⟩) (oLin (E := E) hr (by omega)).2 (by decide) (by omega : j < 12) (by decide) rfl dX3_init_46 (fun H locs hB => ?_)
      refine lv_iinc (v := nI (j + 1)) (lv' := [(1, .int (nI (j + 1))), (0, .ref (ea E r 0))]) F.1 F.2.1 dX3_init_47 hl (k := 0) rfl (ia rfl rfl) (by decide) rfl (fun ls hl => ?_)
      refine lv_goto (tgt := 28) F.1 F.2.1 dX3_init_50 (by decide) ?_
      have hB2 : BW E s H locs (VSr V E r (d1 E r (V r 0)) (j + 1) 0 0) (LSr L r (3 + (j + 1))) (n + 2 + (j + 1)) := ⟨hB.1.to (st1 (by omega)), hB.2.1, by rw [hB.2.2]; omega⟩
      have hk := ih (j + 1) H locs ls (by omega) hB2 hl
      rw [show 2 + (j + 1) = 2 + j + 1 by omega, show 19 + 16 * (j + 1) = 19 + 16 * j + 16 by omega] at hk
      exact hk
  refine lv_aload_n F.1 F.2.1 dX3_init_17 rfl (lv_at hl 0 rfl) ?_
  refine lv_bipush (v := 12) F.1 F.2.1 dX3_init_18 (by decide) ?_
  refine bnewq (r := r) (q := 2) (t := 3) (N := 12) F hT hB rfl cl_X3_23 (hT.1.2.2.2.1 _ (by decide +kernel)) rfl (by decide) (by decide) (by rw [hA _ (by decide) (by decide)]) (oLns hr).1 (oLns (E := E) hr).2 (by show 1 + 1 ≤ 30; decide) (by show 7 + 12 ≤ 275; decide) dX3_init_20 (fun H hB => ?_)
  refine bputF (ty := tyX3 2) F hT hB (rfl : kcl[3]? = some (RX3, TX3, 11)) tyX3_ok nmX3 fw_X3_25 rfl hnm rfl rfl rfl rfl (Or.inl (Or.inl hL0)) (by omega) (oSrv (E := E) hr).2 (by decide) dX3_init_23 (fun H locs hB => ?_)
  refine lv_iconst (v := 0) F.1 F.2.1 dX3_init_26 (by decide) ?_
  refine lv_istore_n (lv' := [(1, .int 0), (0, .ref (ea E r 0))]) F.1 F.2.1 dX3_init_27 rfl hl (by decide) rfl (fun ls hl => ?_)
  have hB3 : BW E s H locs (VSr V E r (d1 E r (V r 0)) 0 0 0) (LSr L r (3 + 0)) (n + 2 + 0) := ⟨hB.1.to (en1 hLr), hB.2.1, by rw [hB.2.2]⟩
  exact hL1 12 0 H locs ls (by omega) hB3 hl
