/-! the reference's constructor -/
theorem biast {p : Program} {l : Launch} {e : Env} {R : Room} {s : State} {m : MethodId} {args : Array Value} {below : List Frame} {meth : Method} {c : Code} {H : Heap} {locs : List Loc} {cells slots : Nat} {Q : State → Prop} {cc : ByteArray} {nL pc : Nat} {ls : Array Slot} {rest : List Value} {own : String} {E : mE} {V : Vs} {L : Nat → Nat → Prop} {n r q N j : Nat} {x v : Int32}
    (F : CallFix p m c cc nL s args TB own) (hT : Stat E s) (hB : BW E s H locs V L n) (hL : L r q) (hk : kd r q = (10, N)) (hr : r ≠ 12) (hj : j < N) (hN : N < 2 ^ 31) (hx : x = nI j) (hdg : decode cc pc = .ok (.iastore, 1))
    (kk : ∀ (H1 : Heap) (locs1 : List Loc), BW E s H1 locs1 (vs V r q (updV (V r q) j (.int v))) L n → W p l e R s m args below meth c H1 locs1 cells slots Q (F0 m (pc + 1) ls rest)) : W p l e R s m args below meth c H locs cells slots Q (F0 m pc ls (.int v :: .int x :: .ref (ea E r q) :: rest)) := by
  obtain ⟨b1, b2, b3⟩ := hB
  obtain ⟨hlv, hcv⟩ := b1 r q hL
  unfold cellV at hcv
  rw [hk, if_neg (by show ¬ 10 < 10; omega), show ((10, N) : Nat × Nat).1 - 10 = 0 from rfl] at hcv
  have hcv := hcv.eq hr
  obtain ⟨h1, h2⟩ := jarr (E := E) (t := 0) (f := V r q) hj hN hx
  refine W.iast F.1 F.2.1 hcv (ArrOf_t hT 0 rfl _ _) (fun z => by cases z) h1 rfl rfl hdg fun H' e1 e2 e3 => ?_
  subst hx
  refine kk H' _ ⟨b1.upd hT.2.1 hL ?_ e3, b2.put e2 e3 ⟨r, q, ⟨hlv, hr⟩, rfl⟩, e2.trans b3⟩
  unfold cellV
  rw [hk, if_neg (by show ¬ 10 < 10; omega), show ((10, N) : Nat × Nat).1 - 10 = 0 from rfl]
  refine arA.of ?_
  rw [e1, nI_clamp (Nat.lt_trans hj hN), arrV_store]
abbrev W1 (E : mE) (V : Vs) : Vs := vs (vs V 13 1 (fun _ => .int 0)) 13 0 (updV ((vs V 13 1 (fun _ => .int 0)) 13 0) 0 (.ref (ea E 13 1)))
abbrev W2 (E : mE) (V : Vs) : Vs := vs (vs (W1 E V) 13 2 (fun _ => .int 0)) 13 0 (updV ((vs (W1 E V) 13 2 (fun _ => .int 0)) 13 0) 1 (.ref (ea E 13 2)))
abbrev W3 (E : mE) (V : Vs) : Vs := vs (vs (W2 E V) 13 3 (fun _ => .int 0)) 13 0 (updV ((vs (W2 E V) 13 3 (fun _ => .int 0)) 13 0) 2 (.ref (ea E 13 3)))
abbrev W4 (E : mE) (V : Vs) : Vs := vs (vs (W3 E V) 13 4 (fun _ => .int 0)) 13 0 (updV ((vs (W3 E V) 13 4 (fun _ => .int 0)) 13 0) 4 (.ref (ea E 13 4)))
abbrev W5 (E : mE) (V : Vs) : Vs := vs (vs (W4 E V) 13 5 (fun _ => .int 0)) 13 0 (updV ((vs (W4 E V) 13 5 (fun _ => .int 0)) 13 0) 5 (.ref (ea E 13 5)))
abbrev W6 (E : mE) (V : Vs) : Vs := vs (vs (W5 E V) 13 6 (fun _ => .int 0)) 13 0 (updV ((vs (W5 E V) 13 6 (fun _ => .int 0)) 13 0) 6 (.ref (ea E 13 6)))
abbrev W7 (E : mE) (V : Vs) : Vs := vs (vs (W6 E V) 13 7 (fun _ => .int 0)) 13 0 (updV ((vs (W6 E V) 13 7 (fun _ => .int 0)) 13 0) 9 (.ref (ea E 13 7)))
abbrev U0 (E : mE) (V : Vs) : Vs := vs (W7 E V) 13 1 (updV ((W7 E V) 13 1) 0 (.int 20))
abbrev U1 (E : mE) (V : Vs) : Vs := vs (U0 E V) 13 1 (updV ((U0 E V) 13 1) 1 (.int 24))
abbrev U2 (E : mE) (V : Vs) : Vs := vs (U1 E V) 13 1 (updV ((U1 E V) 13 1) 2 (.int 1))
abbrev U3 (E : mE) (V : Vs) : Vs := vs (U2 E V) 13 1 (updV ((U2 E V) 13 1) 3 (.int 3))
abbrev U4 (E : mE) (V : Vs) : Vs := vs (U3 E V) 13 1 (updV ((U3 E V) 13 1) 4 (.int 1))
abbrev U5 (E : mE) (V : Vs) : Vs := vs (U4 E V) 13 1 (updV ((U4 E V) 13 1) 5 (.int 1))
set_option maxHeartbeats 4000000 in
set_option maxRecDepth 100000 in
theorem c_X7_init (l : Launch) (E : mE) (V : Vs) (L : Nat → Nat → Prop) (n : Nat) (hL0 : L 13 0) (hA : ∀ q, 1 ≤ q → q < 8 → ea E 13 q = n + (q - 1)) :
    CtB l E yX7_init cX7_init 1 1 60 7 3122 [.ref (ea E 13 0)] V L n (U5 E V) (fun r' q' => (fun r' q' => (fun r' q' => (fun r' q' => (fun r' q' => (fun r' q' => (fun r' q' => L r' q' ∨ (r' = 13 ∧ q' = 1)) r' q' ∨ (r' = 13 ∧ q' = 2)) r' q' ∨ (r' = 13 ∧ q' = 3)) r' q' ∨ (r' = 13 ∧ q' = 4)) r' q' ∨ (r' = 13 ∧ q' = 5)) r' q' ∨ (r' = 13 ∧ q' = 6)) r' q' ∨ (r' = 13 ∧ q' = 7)) (n + 7) := by
  refine bMet (by decide +kernel) (Nat.le_of_ble_eq_true rfl) ?_
  intro p e s m below meth c ls F hT hr0 hlk hnm hB hl
  have F : CallFix p m c cX7_init 1 s _ TB RX7 := F
  have hl : lv_has ls 1 [(0, .ref (ea E 13 0))] := hl
  refine lv_aload_n F.1 F.2.1 dX7_init_0 rfl (lv_at hl 0 rfl) ?_
  refine bobj F hl.1 co_X7 (Nat.le_of_ble_eq_true rfl) (Nat.le_of_ble_eq_true rfl) dX7_init_1 ?_
  refine lv_aload_n F.1 F.2.1 dX7_init_4 rfl (lv_at hl 0 rfl) ?_
  refine lv_sipush (v := 280) F.1 F.2.1 dX7_init_5 (by decide) ?_
  refine bnewi (r := 13) (q := 1) (t := 0) (N := 280) F hT hB rfl (fun C h => by cases h) ca_int (lI 280) (by decide) (by decide) ((hA 1 (by decide) (by decide)).trans (by omega)) oM1.1 oM1.2 (Nat.le_of_ble_eq_true rfl) (Nat.le_of_ble_eq_true rfl) dX7_init_8 (fun H hB => ?_)
  refine bputF (ty := tyX7 0) F hT hB (rfl : kcl[7]? = some (RX7, TX7, 13)) tyX7_ok nmX7 fw_X7_7 rfl hnm rfl rfl rfl rfl (Or.inl hL0) (by decide) oM0.2 (by decide) dX7_init_10 (fun H locs hB => ?_)
  refine lv_aload_n F.1 F.2.1 dX7_init_13 rfl (lv_at hl 0 rfl) ?_
  refine lv_sipush (v := 280) F.1 F.2.1 dX7_init_14 (by decide) ?_
  refine bnewi (r := 13) (q := 2) (t := 0) (N := 280) F hT hB rfl (fun C h => by cases h) ca_int (lI 280) (by decide) (by decide) ((hA 2 (by decide) (by decide)).trans (by omega)) oM2.1 oM2.2 (Nat.le_of_ble_eq_true rfl) (Nat.le_of_ble_eq_true rfl) dX7_init_17 (fun H hB => ?_)
  refine bputF (ty := tyX7 1) F hT hB (rfl : kcl[7]? = some (RX7, TX7, 13)) tyX7_ok nmX7 fw_X7_13 rfl hnm rfl rfl rfl rfl (Or.inl (Or.inl hL0)) (by decide) oM0.2 (by decide) dX7_init_19 (fun H locs hB => ?_)
  refine lv_aload_n F.1 F.2.1 dX7_init_22 rfl (lv_at hl 0 rfl) ?_
  refine lv_sipush (v := 1680) F.1 F.2.1 dX7_init_23 (by decide) ?_
  refine bnewi (r := 13) (q := 3) (t := 0) (N := 1680) F hT hB rfl (fun C h => by cases h) ca_int (lI 1680) (by decide) (by decide) ((hA 3 (by decide) (by decide)).trans (by omega)) oM3.1 oM3.2 (Nat.le_of_ble_eq_true rfl) (Nat.le_of_ble_eq_true rfl) dX7_init_26 (fun H hB => ?_)
  refine bputF (ty := tyX7 2) F hT hB (rfl : kcl[7]? = some (RX7, TX7, 13)) tyX7_ok nmX7 fw_X7_16 rfl hnm rfl rfl rfl rfl (Or.inl (Or.inl (Or.inl hL0))) (by decide) oM0.2 (by decide) dX7_init_28 (fun H locs hB => ?_)
  refine lv_aload_n F.1 F.2.1 dX7_init_31 rfl (lv_at hl 0 rfl) ?_
  refine lv_sipush (v := 560) F.1 F.2.1 dX7_init_32 (by decide) ?_
  refine bnewi (r := 13) (q := 4) (t := 0) (N := 560) F hT hB rfl (fun C h => by cases h) ca_int (lI 560) (by decide) (by decide) ((hA 4 (by decide) (by decide)).trans (by omega)) oM4.1 oM4.2 (Nat.le_of_ble_eq_true rfl) (Nat.le_of_ble_eq_true rfl) dX7_init_35 (fun H hB => ?_)
  refine bputF (ty := tyX7 4) F hT hB (rfl : kcl[7]? = some (RX7, TX7, 13)) tyX7_ok nmX7 fw_X7_19 rfl hnm rfl rfl rfl rfl (Or.inl (Or.inl (Or.inl (Or.inl hL0)))) (by decide) oM0.2 (by decide) dX7_init_37 (fun H locs hB => ?_)
  refine lv_aload_n F.1 F.2.1 dX7_init_40 rfl (lv_at hl 0 rfl) ?_
  refine lv_iconst (v := 2) F.1 F.2.1 dX7_init_41 (by decide) ?_
  refine bnewi (r := 13) (q := 5) (t := 1) (N := 2) F hT hB rfl (fun C h => by cases h) ca_boolean (lI 2) (by decide) (by decide) ((hA 5 (by decide) (by decide)).trans (by omega)) oM5.1 oM5.2 (Nat.le_of_ble_eq_true rfl) (Nat.le_of_ble_eq_true rfl) dX7_init_42 (fun H hB => ?_)
  refine bputF (ty := tyX7 5) F hT hB (rfl : kcl[7]? = some (RX7, TX7, 13)) tyX7_ok nmX7 fw_X7_22 rfl hnm rfl rfl rfl rfl (Or.inl (Or.inl (Or.inl (Or.inl (Or.inl hL0))))) (by decide) oM0.2 (by decide) dX7_init_44 (fun H locs hB => ?_)
  refine lv_aload_n F.1 F.2.1 dX7_init_47 rfl (lv_at hl 0 rfl) ?_
  refine lv_bipush (v := 80) F.1 F.2.1 dX7_init_48 (by decide) ?_
  refine bnewi (r := 13) (q := 6) (t := 0) (N := 80) F hT hB rfl (fun C h => by cases h) ca_int (lI 80) (by decide) (by decide) ((hA 6 (by decide) (by decide)).trans (by omega)) oM6.1 oM6.2 (Nat.le_of_ble_eq_true rfl) (Nat.le_of_ble_eq_true rfl) dX7_init_50 (fun H hB => ?_)
  refine bputF (ty := tyX7 6) F hT hB (rfl : kcl[7]? = some (RX7, TX7, 13)) tyX7_ok nmX7 fw_X7_26 rfl hnm rfl rfl rfl rfl (Or.inl (Or.inl (Or.inl (Or.inl (Or.inl (Or.inl hL0)))))) (by decide) oM0.2 (by decide) dX7_init_52 (fun H locs hB => ?_)
  refine lv_aload_n F.1 F.2.1 dX7_init_55 rfl (lv_at hl 0 rfl) ?_
  refine lv_sipush (v := 240) F.1 F.2.1 dX7_init_56 (by decide) ?_
  refine bnewi (r := 13) (q := 7) (t := 0) (N := 240) F hT hB rfl (fun C h => by cases h) ca_int (lI 240) (by decide) (by decide) ((hA 7 (by decide) (by decide)).trans (by omega)) oM7.1 oM7.2 (Nat.le_of_ble_eq_true rfl) (Nat.le_of_ble_eq_true rfl) dX7_init_59 (fun H hB => ?_)
  refine bputF (ty := tyX7 9) F hT hB (rfl : kcl[7]? = some (RX7, TX7, 13)) tyX7_ok nmX7 fw_X7_29 rfl hnm rfl rfl rfl rfl (Or.inl (Or.inl (Or.inl (Or.inl (Or.inl (Or.inl (Or.inl hL0))))))) (by decide) oM0.2 (by decide) dX7_init_61 (fun H locs hB => ?_)
  refine lv_aload_n F.1 F.2.1 dX7_init_64 rfl (lv_at hl 0 rfl) ?_
  refine bgetR (r' := 13) (q' := 1) F hT hB fw_X7_7 (Or.inl (Or.inl (Or.inl (Or.inl (Or.inl (Or.inl (Or.inl hL0))))))) oM0.2 (by decide) (by simp [vs, updV]) dX7_init_65 ?_
  refine lv_iconst (v := 0) F.1 F.2.1 dX7_init_68 (by decide) ?_
  refine lv_bipush (v := 20) F.1 F.2.1 dX7_init_69 (by decide) ?_
  refine biast (N := 280) (j := 0) F hT hB (Or.inl (Or.inl (Or.inl (Or.inl (Or.inl (Or.inl (Or.inr ⟨rfl, rfl⟩))))))) oM1.2 (by decide) (by decide) (by decide) (lI 0) dX7_init_71 (fun H locs hB => ?_)
  refine lv_aload_n F.1 F.2.1 dX7_init_72 rfl (lv_at hl 0 rfl) ?_
  refine bgetR (r' := 13) (q' := 1) F hT hB fw_X7_7 (Or.inl (Or.inl (Or.inl (Or.inl (Or.inl (Or.inl (Or.inl hL0))))))) oM0.2 (by decide) (by simp [vs, updV]) dX7_init_73 ?_
  refine lv_iconst (v := 1) F.1 F.2.1 dX7_init_76 (by decide) ?_
  refine lv_bipush (v := 24) F.1 F.2.1 dX7_init_77 (by decide) ?_
  refine biast (N := 280) (j := 1) F hT hB (Or.inl (Or.inl (Or.inl (Or.inl (Or.inl (Or.inl (Or.inr ⟨rfl, rfl⟩))))))) oM1.2 (by decide) (by decide) (by decide) (lI 1) dX7_init_79 (fun H locs hB => ?_)
  refine lv_aload_n F.1 F.2.1 dX7_init_80 rfl (lv_at hl 0 rfl) ?_
  refine bgetR (r' := 13) (q' := 1) F hT hB fw_X7_7 (Or.inl (Or.inl (Or.inl (Or.inl (Or.inl (Or.inl (Or.inl hL0))))))) oM0.2 (by decide) (by simp [vs, updV]) dX7_init_81 ?_
  refine lv_iconst (v := 2) F.1 F.2.1 dX7_init_84 (by decide) ?_
  refine lv_iconst (v := 1) F.1 F.2.1 dX7_init_85 (by decide) ?_
  refine biast (N := 280) (j := 2) F hT hB (Or.inl (Or.inl (Or.inl (Or.inl (Or.inl (Or.inl (Or.inr ⟨rfl, rfl⟩))))))) oM1.2 (by decide) (by decide) (by decide) (lI 2) dX7_init_86 (fun H locs hB => ?_)
  refine lv_aload_n F.1 F.2.1 dX7_init_87 rfl (lv_at hl 0 rfl) ?_
  refine bgetR (r' := 13) (q' := 1) F hT hB fw_X7_7 (Or.inl (Or.inl (Or.inl (Or.inl (Or.inl (Or.inl (Or.inl hL0))))))) oM0.2 (by decide) (by simp [vs, updV]) dX7_init_88 ?_
  refine lv_iconst (v := 3) F.1 F.2.1 dX7_init_91 (by decide) ?_
  refine lv_iconst (v := 3) F.1 F.2.1 dX7_init_92 (by decide) ?_
  refine biast (N := 280) (j := 3) F hT hB (Or.inl (Or.inl (Or.inl (Or.inl (Or.inl (Or.inl (Or.inr ⟨rfl, rfl⟩))))))) oM1.2 (by decide) (by decide) (by decide) (lI 3) dX7_init_93 (fun H locs hB => ?_)
  refine lv_aload_n F.1 F.2.1 dX7_init_94 rfl (lv_at hl 0 rfl) ?_
  refine bgetR (r' := 13) (q' := 1) F hT hB fw_X7_7 (Or.inl (Or.inl (Or.inl (Or.inl (Or.inl (Or.inl (Or.inl hL0))))))) oM0.2 (by decide) (by simp [vs, updV]) dX7_init_95 ?_
  refine lv_iconst (v := 4) F.1 F.2.1 dX7_init_98 (by decide) ?_
  refine lv_iconst (v := 1) F.1 F.2.1 dX7_init_99 (by decide) ?_
  refine biast (N := 280) (j := 4) F hT hB (Or.inl (Or.inl (Or.inl (Or.inl (Or.inl (Or.inl (Or.inr ⟨rfl, rfl⟩))))))) oM1.2 (by decide) (by decide) (by decide) (lI 4) dX7_init_100 (fun H locs hB => ?_)
  refine lv_aload_n F.1 F.2.1 dX7_init_101 rfl (lv_at hl 0 rfl) ?_
  refine bgetR (r' := 13) (q' := 1) F hT hB fw_X7_7 (Or.inl (Or.inl (Or.inl (Or.inl (Or.inl (Or.inl (Or.inl hL0))))))) oM0.2 (by decide) (by simp [vs, updV]) dX7_init_102 ?_
  refine lv_iconst (v := 5) F.1 F.2.1 dX7_init_105 (by decide) ?_
  refine lv_iconst (v := 1) F.1 F.2.1 dX7_init_106 (by decide) ?_
  refine biast (N := 280) (j := 5) F hT hB (Or.inl (Or.inl (Or.inl (Or.inl (Or.inl (Or.inl (Or.inr ⟨rfl, rfl⟩))))))) oM1.2 (by decide) (by decide) (by decide) (lI 5) dX7_init_107 (fun H locs hB => ?_)
  exact brv F hr0 hlk hB dX7_init_108 (fun _ _ h => ⟨h, rfl⟩) rfl rfl rfl
