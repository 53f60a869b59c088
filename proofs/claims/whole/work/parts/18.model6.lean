/-! the reference: forecasts -/
theorem fr_passP {S : Sv} {p k : Nat} (hp : ¬ p = 1) (ht : cn (S 1 9) ≤ 6) (hq : ∀ q, q < cn (S 1 9) → Bn (S 1 (260 + 3 * q)) 11) (hn : cn (S 1 8) ≤ 12) : p_X7_pass S p k = S p k := by
  have k0 := pm_keep ht hq (cn (S 1 9)) (Nat.le_refl _) p k (by omega) (fun j _ => by omega)
  unfold p_X7_pass
  dsimp only
  generalize itN (q_X7_pass_4 S) (cn (S 1 9)) S = S1 at k0 ⊢
  have h15 : ∀ v : Int32, (if v = 0 then S1 else if S1 1 10 = 0 then p_X7_begin S1 (cn (p_X7_found S1)) else if p_X7_present S1 (cn (p_X7_found S1)) < S1 1 (220 + 4 * cn (S 1 10) - 3) + S1 1 2 then S1 else p_X7_begin S1 (cn (p_X7_found S1))) p k = S p k := fun v => by
    repeat' split
    all_goals first | exact k0 | (rw [fr_beginP hp]; exact k0)
  generalize hS15 : (if (if p_X7_found S1 < 0 then 0 else if S1 1 3 ≤ S1 1 10 then 0 else 1 : Int32) = 0 then S1 else if S1 1 10 = 0 then p_X7_begin S1 (cn (p_X7_found S1)) else if p_X7_present S1 (cn (p_X7_found S1)) < S1 1 (220 + 4 * cn (S 1 10) - 3) + S1 1 2 then S1 else p_X7_begin S1 (cn (p_X7_found S1))) = S15
  have k15 : S15 p k = S p k := by rw [← hS15]; exact h15 _
  have hT : ∀ T : Sv, T p k = S p k → us (itN (q_X7_pass_232 S) (cn (S 1 8)) T) 1 7 ((itN (q_X7_pass_232 S) (cn (S 1 8)) T) 1 7 + 1) p k = S p k := fun T hT => by
    rw [us_ne _ _ (by omega), pg_keep (S := S) (S2 := T) (cn (S 1 8)) hn p k (by omega)]
    exact hT
  repeat' split
  · exact hT _ k15
  · exact hT _ (by rw [fr_end (by omega) (by omega), us_ne _ _ (by omega), us_ne _ _ (by omega)]; exact k15)
  · exact hT _ (by rw [us_ne _ _ (by omega), us_ne _ _ (by omega)]; exact k15)
theorem Wm.frP {S : Sv} (h : Wm S) {p k : Nat} (hp : ¬ p = 1) : p_X7_pass S p k = S p k := fr_passP hp h.2.1.2 h.2.2.1 h.1.2
theorem kp_keep {S S0 : Sv} : ∀ n p k, ¬ p = 2 → itN (q_X7_keep_2 S) n S0 p k = S0 p k := by
  intro n
  induction n with
  | zero => intro p k _; rfl
  | succ n ih =>
    intro p k hp
    rw [itN_s]
    unfold q_X7_keep_2
    dsimp only
    rw [us_ne _ _ (by omega)]
    exact ih p k hp
theorem fr_keep {S : Sv} {p k : Nat} (hp : ¬ p = 2) : p_X7_keep S p k = S p k := kp_keep _ _ _ hp
theorem kp_row {S : Sv} : ∀ n, n ≤ 280 → ∀ k, k < n → itN (q_X7_keep_2 S) n S 2 k = S 1 k := by
  intro n
  induction n with
  | zero => intro _ k hk; omega
  | succ n ih =>
    intro hn k hk
    rw [itN_s]
    show us (itN (q_X7_keep_2 S) n S) 2 n (itN (q_X7_keep_2 S) n S 1 n) 2 k = S 1 k
    rw [kp_keep n 1 n (by decide)]
    by_cases hkn : k = n
    · rw [hkn, us_at]
    · rw [us_ne _ _ (by omega)]
      exact ih (by omega) k (by omega)
theorem keep_row {S : Sv} {k : Nat} (hk : k < 280) : p_X7_keep S 2 k = S 1 k := kp_row 280 (Nat.le_refl _) k hk
theorem cb_keep {S S0 : Sv} : ∀ n p k, ¬ p = 1 → itN (q_X7_comeBack_2 S) n S0 p k = S0 p k := by
  intro n
  induction n with
  | zero => intro p k _; rfl
  | succ n ih =>
    intro p k hp
    rw [itN_s]
    unfold q_X7_comeBack_2
    dsimp only
    rw [us_ne _ _ (by omega)]
    exact ih p k hp
theorem fr_comeBack {S : Sv} {p k : Nat} (hp : ¬ p = 1) : p_X7_comeBack S p k = S p k := cb_keep _ _ _ hp
theorem cb_row {S : Sv} : ∀ n, n ≤ 280 → ∀ k, k < n → itN (q_X7_comeBack_2 S) n S 1 k = S 2 k := by
  intro n
  induction n with
  | zero => intro _ k hk; omega
  | succ n ih =>
    intro hn k hk
    rw [itN_s]
    show us (itN (q_X7_comeBack_2 S) n S) 1 n (itN (q_X7_comeBack_2 S) n S 2 n) 1 k = S 2 k
    rw [cb_keep n 2 n (by decide)]
    by_cases hkn : k = n
    · rw [hkn, us_at]
    · rw [us_ne _ _ (by omega)]
      exact ih (by omega) k (by omega)
theorem comeBack_row {S : Sv} {k : Nat} (hk : k < 280) : p_X7_comeBack S 1 k = S 2 k := cb_row 280 (Nat.le_refl _) k hk
theorem Wm.row {S S' : Sv} (h : Wm S) (hr : ∀ k, k < 280 → S' 1 k = S 1 k) : Wm S' := h.same (hr _ (by decide)) (hr _ (by decide)) (hr _ (by decide)) (hr _ (by decide)) (fun q hq => hr _ (by omega)) (fun q hq => hr _ (by omega))
theorem wm_keep {S : Sv} (h : Wm S) : Wm (p_X7_keep S) := h.row fun _ _ => fr_keep (by decide)
theorem wm_back {S T : Sv} (h : Wm S) (hk : ∀ k, k < 280 → T 2 k = S 1 k) : Wm (p_X7_comeBack T) := h.row fun k hk2 => (comeBack_row hk2).trans (hk k hk2)
theorem dcI {x : Int32} {n : Nat} (h : x = nI n) (h0 : 0 < n) : x + (-1) = nI (n - 1) := by
  rw [← isb h (lI 1) h0]
  rw [Int32.sub_eq_add_neg]

def q_X7_beginsWithin_11 (S : Sv) (li : Nat) (mo : Nat) (x1 : Int32) : Nat → Nat → Sv → Int32 × Sv
  | 0, j, S2 =>
    (((-6) : Int32), S2)
  | fu + 1, j, S2 =>
    let S4 : Sv := p_X7_pass S2
    let x5 : Int32 := p_X7_of S4 li 10
    if x5 ≤ x1 then
      q_X7_beginsWithin_11 S li mo x1 fu (j + 1) S4
    else
      ((nI j : Int32), S4)
def p_X7_beginsWithin (S : Sv) (li : Nat) (mo : Nat) : Int32 × Sv :=
  let x1 : Int32 := p_X7_of S li 10
  q_X7_beginsWithin_11 S li mo x1 mo 0 S

set_option maxHeartbeats 4000000 in
set_option maxRecDepth 100000 in
theorem c_X7_beginsWithin (l : Launch) (E : mE) (μ : Mu) (S : Sv) (xl : Int32) (li : Nat) (exl : xl = nI li) (xm : Int32) (mo : Nat) (exm : xm = nI mo) (hli : li < 12) (wfS : Wm S) (hm : mo ≤ 600) : CtI l E yX7_beginsWithin cX7_beginsWithin 5 (some .int) 5 114 [.ref (ea E 13 0), .int xl, .int xm] (fo μ 13 S) (fun x μ' => x = (p_X7_beginsWithin S li mo).1 ∧ μ' = fo μ 13 (p_X7_beginsWithin S li mo).2) := by
  subst exl
  subst exm
  refine jMet (by decide +kernel) (Nat.le_of_ble_eq_true rfl) ?_
  intro p e s m below meth c ls F hT hr0 hlk hW hl
  have F : CallFix p m c cX7_beginsWithin 5 s _ TB RX7 := F
  have hl : lv_has ls 5 [(0, .ref (ea E 13 0)), (1, .int (nI li)), (2, .int (nI mo))] := hl
  refine lv_aload_n F.1 F.2.1 dX7_beginsWithin_0 rfl (lv_at hl 0 rfl) ?_
  refine lv_iload_n F.1 F.2.1 dX7_beginsWithin_1 rfl (lv_at hl 1 rfl) ?_
  refine lv_bipush (v := 10) F.1 F.2.1 dX7_beginsWithin_2 (by decide) ?_
  refine jcip (jrunV (As := [.int (nI li), .int 10]) (rest := []) F hT hW yc_X7_of yv_X7_of ml_X7_61 oM0 (by decide) rfl (c_X7_of l E μ S (nI li) li rfl 10 10 (lI 10) (by first | assumption | omega) (by first | assumption | omega)) rfl hl.1 ⟨Nat.le_of_ble_eq_true rfl, Nat.le_of_ble_eq_true rfl⟩ rfl (Nat.le_of_ble_eq_true rfl) ⟨Nat.le_refl _, Nat.le_refl _⟩ dX7_beginsWithin_4) hW (fun x1 H locs ex1 hW => ?_)
  refine lv_istore_n (lv' := [(3, .int x1), (0, .ref (ea E 13 0)), (1, .int (nI li)), (2, .int (nI mo))]) F.1 F.2.1 dX7_beginsWithin_7 rfl hl (by decide) rfl (fun ls hl => ?_)
  refine lv_iconst (v := 0) F.1 F.2.1 dX7_beginsWithin_8 (by decide) ?_
  refine lv_istore (lv' := [(4, .int 0), (3, .int x1), (0, .ref (ea E 13 0)), (1, .int (nI li)), (2, .int (nI mo))]) F.1 F.2.1 dX7_beginsWithin_9 hl (by decide) rfl (fun ls hl => ?_)
  have hL3 : ∀ (fu j : Nat) (S2 : Sv) (H : Heap) (locs : List Loc) (ls : Array Slot), j + fu = mo → p_X7_beginsWithin S li mo = q_X7_beginsWithin_11 S li mo x1 fu j S2 → Wm S2 → Wd E s H locs (fo μ 13 S2) → lv_has ls 5 [(4, .int (nI j)), (3, .int x1), (0, .ref (ea E 13 0)), (1, .int (nI li)), (2, .int (nI mo))] → W p l e (rmO 5 114) s m ([.ref (ea E 13 0), .int (nI li), .int (nI mo)] : List Value).toArray below meth c H locs 0 0 (MQ below (va_Qi (fun x μ' => x = (p_X7_beginsWithin S li mo).1 ∧ μ' = fo μ 13 (p_X7_beginsWithin S li mo).2) (fun μ' t => MB E μ' t.heap) (AA E)) ([.ref (ea E 13 0), .int (nI li), .int (nI mo)] : List Value).toArray s 0 0 (AA E)) (F0 m 11 ls []) := by
    intro fu
    induction fu with
    | zero =>
      intro j S2 H locs ls hj hres wfx hW hl
      refine lv_iload F.1 F.2.1 dX7_beginsWithin_11 (lv_at hl 0 rfl) ?_
      refine lv_iload_n F.1 F.2.1 dX7_beginsWithin_13 rfl (lv_at hl 4 rfl) ?_
      refine lv_icmp_ge (tgt := 41) F.1 F.2.1 dX7_beginsWithin_14 (by decide) (fun h4 => ?_) (fun h4 => ?_)
      · refine lv_bipush (v := (-6)) F.1 F.2.1 dX7_beginsWithin_41 (by decide) ?_
        have hq : (((-6) : Int32), S2) = p_X7_beginsWithin S li mo := by
          exact (hres).symm
        exact jri F hr0 hlk hW rfl dX7_beginsWithin_43 ⟨congrArg Prod.fst hq, congrArg (fun z => fo μ 13 z.2) hq⟩
      · exact absurd (c_le rfl rfl (by omega) (by omega)) h4
    | succ fu ih =>
      intro j S2 H locs ls hj hres wfx hW hl
      refine lv_iload F.1 F.2.1 dX7_beginsWithin_11 (lv_at hl 0 rfl) ?_
      refine lv_iload_n F.1 F.2.1 dX7_beginsWithin_13 rfl (lv_at hl 4 rfl) ?_
      refine lv_icmp_ge (tgt := 41) F.1 F.2.1 dX7_beginsWithin_14 (by decide) (fun h3 => ?_) (fun h3 => ?_)
      · exact absurd h3 (c_nle rfl rfl (by omega) (by omega))
      · refine lv_aload_n F.1 F.2.1 dX7_beginsWithin_17 rfl (lv_at hl 2 rfl) ?_
        refine jcvf (jrunV (As := []) (rest := []) F hT hW yc_X7_pass yv_X7_pass ml_X7_99 oM0 (by decide) rfl (c_X7_pass l E μ S2 wfx.1 wfx.2.1 wfx.2.2.1 wfx.2.2.2.1 wfx.2.2.2.2) rfl hl.1 ⟨Nat.le_of_ble_eq_true rfl, Nat.le_of_ble_eq_true rfl⟩ rfl (Nat.le_of_ble_eq_true rfl) ⟨Nat.le_refl _, Nat.le_refl _⟩ dX7_beginsWithin_18) hW (fun S4 H locs eS4 hW => ?_)
        have wfn : Wm S4 := by rw [eS4]; exact wm_pass wfx
        refine lv_aload_n F.1 F.2.1 dX7_beginsWithin_21 rfl (lv_at hl 2 rfl) ?_
        refine lv_iload_n F.1 F.2.1 dX7_beginsWithin_22 rfl (lv_at hl 3 rfl) ?_
        refine lv_bipush (v := 10) F.1 F.2.1 dX7_beginsWithin_23 (by decide) ?_
        refine jcip (jrunV (As := [.int (nI li), .int 10]) (rest := []) F hT hW yc_X7_of yv_X7_of ml_X7_61 oM0 (by decide) rfl (c_X7_of l E μ S4 (nI li) li rfl 10 10 (lI 10) (by first | assumption | omega) (by first | assumption | omega)) rfl hl.1 ⟨Nat.le_of_ble_eq_true rfl, Nat.le_of_ble_eq_true rfl⟩ rfl (Nat.le_of_ble_eq_true rfl) ⟨Nat.le_refl _, Nat.le_refl _⟩ dX7_beginsWithin_25) hW (fun x5 H locs ex5 hW => ?_)
        refine lv_iload_n F.1 F.2.1 dX7_beginsWithin_28 rfl (lv_at hl 1 rfl) ?_
        refine lv_icmp_le (tgt := 35) F.1 F.2.1 dX7_beginsWithin_29 (by decide) (fun h6 => ?_) (fun h6 => ?_)
        · refine lv_iinc (v := nI (j + 1)) (lv' := [(4, .int (nI (j + 1))), (3, .int x1), (0, .ref (ea E 13 0)), (1, .int (nI li)), (2, .int (nI mo))]) F.1 F.2.1 dX7_beginsWithin_35 hl (k := 0) rfl (ia rfl rfl) (by decide) rfl (fun ls hl => ?_)
          refine lv_goto (tgt := 11) F.1 F.2.1 dX7_beginsWithin_38 (by decide) ?_
          subst ex5
          subst eS4
          exact ih (j + 1) _ _ _ _ (by omega) (hres.trans (if_pos h6)) wfn hW (lv_sub hl [0, 1, 2, 3, 4] rfl)
        · refine lv_iload F.1 F.2.1 dX7_beginsWithin_32 (lv_at hl 0 rfl) ?_
          have hq : ((nI j : Int32), S4) = p_X7_beginsWithin S li mo := by
            subst ex5
            subst eS4
            exact ((hres).trans (if_neg h6)).symm
          exact jri F hr0 hlk hW rfl dX7_beginsWithin_34 ⟨congrArg Prod.fst hq, congrArg (fun z => fo μ 13 z.2) hq⟩
  exact hL3 mo 0 S _ _ _ (by omega) (by subst ex1; exact rfl) wfS hW (lv_sub hl [0, 1, 2, 3, 4] rfl)

theorem bw_keep {S : Sv} {li mo : Nat} {x1 : Int32} : ∀ fu j (S2 : Sv), Wm S2 → ∀ p k, ¬ p = 1 → (q_X7_beginsWithin_11 S li mo x1 fu j S2).2 p k = S2 p k := by
  intro fu
  induction fu with
  | zero => intro j S2 _ p k _; rfl
  | succ fu ih =>
    intro j S2 h p k hp
    unfold q_X7_beginsWithin_11
    dsimp only
    split
    · rw [ih _ _ (wm_pass h) p k hp]
      exact h.frP hp
    · exact h.frP hp
theorem fr_beginsWithin {S : Sv} {li mo p k : Nat} (h : Wm S) (hp : ¬ p = 1) : (p_X7_beginsWithin S li mo).2 p k = S p k := bw_keep _ _ _ h p k hp

def p_X7_beginsIn (S : Sv) (ln : Int32) : Int32 × Sv :=
  let x1 : Int32 := p_X7_isLine S ln
  if x1 = 0 then
    (((-1) : Int32), S)
  else
    let S3 : Sv := p_X7_keep S
    let x4 : Int32 := (p_X7_beginsWithin S3 (cn ln) 600).1
    let S5 : Sv := (p_X7_beginsWithin S3 (cn ln) 600).2
    let S6 : Sv := p_X7_comeBack S5
    ((x4 : Int32), S6)

set_option maxHeartbeats 4000000 in
set_option maxRecDepth 100000 in
theorem c_X7_beginsIn (l : Launch) (E : mE) (μ : Mu) (S : Sv) (ln : Int32) (wfS : Wm S) : CtI l E yX7_beginsIn cX7_beginsIn 3 (some .int) 6 138 [.ref (ea E 13 0), .int ln] (fo μ 13 S) (fun x μ' => x = (p_X7_beginsIn S ln).1 ∧ μ' = fo μ 13 (p_X7_beginsIn S ln).2) := by
  refine jMet (by decide +kernel) (Nat.le_of_ble_eq_true rfl) ?_
  intro p e s m below meth c ls F hT hr0 hlk hW hl
  have F : CallFix p m c cX7_beginsIn 3 s _ TB RX7 := F
  have hl : lv_has ls 3 [(0, .ref (ea E 13 0)), (1, .int ln)] := hl
  refine lv_aload_n F.1 F.2.1 dX7_beginsIn_0 rfl (lv_at hl 0 rfl) ?_
  refine lv_iload_n F.1 F.2.1 dX7_beginsIn_1 rfl (lv_at hl 1 rfl) ?_
  refine jcip (jrunV (As := [.int ln]) (rest := []) F hT hW yc_X7_isLine yv_X7_isLine ml_X7_57 oM0 (by decide) rfl (c_X7_isLine l E μ S ln) rfl hl.1 ⟨Nat.le_of_ble_eq_true rfl, Nat.le_of_ble_eq_true rfl⟩ rfl (Nat.le_of_ble_eq_true rfl) ⟨Nat.le_refl _, Nat.le_refl _⟩ dX7_beginsIn_2) hW (fun x1 H locs ex1 hW => ?_)
  refine lv_if_ne (tgt := 10) F.1 F.2.1 dX7_beginsIn_5 (by decide) (fun h2 => ?_) (fun h2 => ?_)
  · obtain ⟨hl1, hl2⟩ := wI wfS.1 (by assumption) (by assumption)
    have hn2 := wfS.1.2
    refine lv_aload_n F.1 F.2.1 dX7_beginsIn_10 rfl (lv_at hl 0 rfl) ?_
    refine jcvf (jrunV (As := []) (rest := []) F hT hW yc_X7_keep yv_X7_keep ml_X7_111 oM0 (by decide) rfl (c_X7_keep l E μ S) rfl hl.1 ⟨Nat.le_of_ble_eq_true rfl, Nat.le_of_ble_eq_true rfl⟩ rfl (Nat.le_of_ble_eq_true rfl) ⟨Nat.le_refl _, Nat.le_refl _⟩ dX7_beginsIn_11) hW (fun S3 H locs eS3 hW => ?_)
    have wfk : Wm S3 := by rw [eS3]; exact wm_keep wfS
    refine lv_aload_n F.1 F.2.1 dX7_beginsIn_14 rfl (lv_at hl 0 rfl) ?_
    refine lv_iload_n F.1 F.2.1 dX7_beginsIn_15 rfl (lv_at hl 1 rfl) ?_
    refine lv_sipush (v := 600) F.1 F.2.1 dX7_beginsIn_16 (by decide) ?_
    refine jcif (jrunV (As := [.int ln, .int 600]) (rest := []) F hT hW yc_X7_beginsWithin yv_X7_beginsWithin ml_X7_114 oM0 (by decide) rfl (c_X7_beginsWithin l E μ S3 ln (cn ln) hl1 600 600 (lI 600) (by first | assumption | omega) wfk (by first | assumption | omega)) rfl hl.1 ⟨Nat.le_of_ble_eq_true rfl, Nat.le_of_ble_eq_true rfl⟩ rfl (Nat.le_of_ble_eq_true rfl) ⟨Nat.le_refl _, Nat.le_refl _⟩ dX7_beginsIn_19) hW (fun x4 S5 H locs ex4 eS5 hW => ?_)
    refine lv_istore_n (lv' := [(2, .int x4), (0, .ref (ea E 13 0)), (1, .int ln)]) F.1 F.2.1 dX7_beginsIn_22 rfl hl (by decide) rfl (fun ls hl => ?_)
    refine lv_aload_n F.1 F.2.1 dX7_beginsIn_23 rfl (lv_at hl 1 rfl) ?_
    refine jcvf (jrunV (As := []) (rest := []) F hT hW yc_X7_comeBack yv_X7_comeBack ml_X7_117 oM0 (by decide) rfl (c_X7_comeBack l E μ S5) rfl hl.1 ⟨Nat.le_of_ble_eq_true rfl, Nat.le_of_ble_eq_true rfl⟩ rfl (Nat.le_of_ble_eq_true rfl) ⟨Nat.le_refl _, Nat.le_refl _⟩ dX7_beginsIn_24) hW (fun S6 H locs eS6 hW => ?_)
    refine lv_iload_n F.1 F.2.1 dX7_beginsIn_27 rfl (lv_at hl 0 rfl) ?_
    have hq : ((x4 : Int32), S6) = p_X7_beginsIn S ln := by
      subst eS6
      subst eS5
      subst ex4
      subst eS3
      subst ex1
      exact (if_neg h2).symm
    exact jri F hr0 hlk hW rfl dX7_beginsIn_28 ⟨congrArg Prod.fst hq, congrArg (fun z => fo μ 13 z.2) hq⟩
  · refine lv_iconst (v := (-1)) F.1 F.2.1 dX7_beginsIn_8 (by decide) ?_
    have hq : (((-1) : Int32), S) = p_X7_beginsIn S ln := by
      subst ex1
      exact (if_pos h2).symm
    exact jri F hr0 hlk hW rfl dX7_beginsIn_9 ⟨congrArg Prod.fst hq, congrArg (fun z => fo μ 13 z.2) hq⟩

def q_X7_idleIn_6 (S : Sv) : Nat → Nat → Sv → Int32 × Sv
  | 0, j, S2 =>
    let v8 : Int32 := (if (S2 1 10) = 0 then nI j else (-6))
    let S10 : Sv := p_X7_comeBack S2
    ((v8 : Int32), S10)
  | fu + 1, j, S2 =>
    if (S2 1 10) ≤ 0 then
      let v5 : Int32 := (if (S2 1 10) = 0 then nI j else (-6))
      let S7 : Sv := p_X7_comeBack S2
      ((v5 : Int32), S7)
    else
      let S9 : Sv := p_X7_pass S2
      q_X7_idleIn_6 S fu (j + 1) S9
def p_X7_idleIn (S : Sv) : Int32 × Sv :=
  let S1 : Sv := p_X7_keep S
  q_X7_idleIn_6 S 600 0 S1

set_option maxHeartbeats 4000000 in
set_option maxRecDepth 100000 in
theorem c_X7_idleIn (l : Launch) (E : mE) (μ : Mu) (S : Sv) (wfS : Wm S) : CtI l E yX7_idleIn cX7_idleIn 3 (some .int) 5 114 [.ref (ea E 13 0)] (fo μ 13 S) (fun x μ' => x = (p_X7_idleIn S).1 ∧ μ' = fo μ 13 (p_X7_idleIn S).2) := by
  refine jMet (by decide +kernel) (Nat.le_of_ble_eq_true rfl) ?_
  intro p e s m below meth c ls F hT hr0 hlk hW hl
  have F : CallFix p m c cX7_idleIn 3 s _ TB RX7 := F
  have hl : lv_has ls 3 [(0, .ref (ea E 13 0))] := hl
  refine lv_aload_n F.1 F.2.1 dX7_idleIn_0 rfl (lv_at hl 0 rfl) ?_
  refine jcvf (jrunV (As := []) (rest := []) F hT hW yc_X7_keep yv_X7_keep ml_X7_111 oM0 (by decide) rfl (c_X7_keep l E μ S) rfl hl.1 ⟨Nat.le_of_ble_eq_true rfl, Nat.le_of_ble_eq_true rfl⟩ rfl (Nat.le_of_ble_eq_true rfl) ⟨Nat.le_refl _, Nat.le_refl _⟩ dX7_idleIn_1) hW (fun S1 H locs eS1 hW => ?_)
  have wfk : Wm S1 := by rw [eS1]; exact wm_keep wfS
  refine lv_iconst (v := 0) F.1 F.2.1 dX7_idleIn_4 (by decide) ?_
  refine lv_istore_n (lv' := [(1, .int 0), (0, .ref (ea E 13 0))]) F.1 F.2.1 dX7_idleIn_5 rfl hl (by decide) rfl (fun ls hl => ?_)
  have hL3 : ∀ (fu j : Nat) (S2 : Sv) (H : Heap) (locs : List Loc) (ls : Array Slot), j + fu = 600 → p_X7_idleIn S = q_X7_idleIn_6 S fu j S2 → Wm S2 → Wd E s H locs (fo μ 13 S2) → lv_has ls 3 [(1, .int (nI j)), (0, .ref (ea E 13 0))] → W p l e (rmO 5 114) s m ([.ref (ea E 13 0)] : List Value).toArray below meth c H locs 0 0 (MQ below (va_Qi (fun x μ' => x = (p_X7_idleIn S).1 ∧ μ' = fo μ 13 (p_X7_idleIn S).2) (fun μ' t => MB E μ' t.heap) (AA E)) ([.ref (ea E 13 0)] : List Value).toArray s 0 0 (AA E)) (F0 m 6 ls []) := by
    intro fu
    induction fu with
    | zero =>
      intro j S2 H locs ls hj hres wfx hW hl
      refine lv_aload_n F.1 F.2.1 dX7_idleIn_6 rfl (lv_at hl 1 rfl) ?_
      refine jgetR F hT hW fw_X7_7 oM0 (by decide) rfl dX7_idleIn_7 ?_
      refine lv_bipush (v := 10) F.1 F.2.1 dX7_idleIn_10 (by decide) ?_
      refine jiald F hT hW 10 oM1 (by omega) (by decide) (lI 10) rfl dX7_idleIn_12 ?_
      have hJ6 : ∀ (H : Heap) (locs : List Loc) (ls : Array Slot), Wd E s H locs (fo μ 13 S2) → lv_has ls 3 [(1, .int (nI j)), (0, .ref (ea E 13 0))] → W p l e (rmO 5 114) s m ([.ref (ea E 13 0)] : List Value).toArray below meth c H locs 0 0 (MQ below (va_Qi (fun x μ' => x = (p_X7_idleIn S).1 ∧ μ' = fo μ 13 (p_X7_idleIn S).2) (fun μ' t => MB E μ' t.heap) (AA E)) ([.ref (ea E 13 0)] : List Value).toArray s 0 0 (AA E)) (F0 m 33 ls []) := by
        intro H locs ls hW hl
        refine lv_aload_n F.1 F.2.1 dX7_idleIn_33 rfl (lv_at hl 1 rfl) ?_
        refine jgetR F hT hW fw_X7_7 oM0 (by decide) rfl dX7_idleIn_34 ?_
        refine lv_bipush (v := 10) F.1 F.2.1 dX7_idleIn_37 (by decide) ?_
        refine jiald F hT hW 10 oM1 (by omega) (by decide) (lI 10) rfl dX7_idleIn_39 ?_
        have hJ9 : ∀ (v8 : Int32) (H : Heap) (locs : List Loc) (ls : Array Slot), v8 = (if (S2 1 10) = 0 then nI j else (-6)) → Wd E s H locs (fo μ 13 S2) → lv_has ls 3 [(1, .int (nI j)), (0, .ref (ea E 13 0))] → W p l e (rmO 5 114) s m ([.ref (ea E 13 0)] : List Value).toArray below meth c H locs 0 0 (MQ below (va_Qi (fun x μ' => x = (p_X7_idleIn S).1 ∧ μ' = fo μ 13 (p_X7_idleIn S).2) (fun μ' t => MB E μ' t.heap) (AA E)) ([.ref (ea E 13 0)] : List Value).toArray s 0 0 (AA E)) (F0 m 49 ls [.int v8]) := by
          intro v8 H locs ls ev8 hW hl
          refine lv_istore_n (lv' := [(2, .int v8), (1, .int (nI j)), (0, .ref (ea E 13 0))]) F.1 F.2.1 dX7_idleIn_49 rfl hl (by decide) rfl (fun ls hl => ?_)
          refine lv_aload_n F.1 F.2.1 dX7_idleIn_50 rfl (lv_at hl 2 rfl) ?_
          refine jcvf (jrunV (As := []) (rest := []) F hT hW yc_X7_comeBack yv_X7_comeBack ml_X7_117 oM0 (by decide) rfl (c_X7_comeBack l E μ S2) rfl hl.1 ⟨Nat.le_of_ble_eq_true rfl, Nat.le_of_ble_eq_true rfl⟩ rfl (Nat.le_of_ble_eq_true rfl) ⟨Nat.le_refl _, Nat.le_refl _⟩ dX7_idleIn_51) hW (fun S10 H locs eS10 hW => ?_)
          refine lv_iload_n F.1 F.2.1 dX7_idleIn_54 rfl (lv_at hl 0 rfl) ?_
          have hq : ((v8 : Int32), S10) = p_X7_idleIn S := by
            subst eS10
            subst ev8
            exact (hres).symm
          exact jri F hr0 hlk hW rfl dX7_idleIn_55 ⟨congrArg Prod.fst hq, congrArg (fun z => fo μ 13 z.2) hq⟩
        refine lv_if_ne (tgt := 47) F.1 F.2.1 dX7_idleIn_40 (by decide) (fun h7 => ?_) (fun h7 => ?_)
        · refine lv_bipush (v := (-6)) F.1 F.2.1 dX7_idleIn_47 (by decide) ?_
          exact hJ9 _ _ _ _ (if_neg h7).symm hW (lv_sub hl [0, 1] rfl)
        · refine lv_iload_n F.1 F.2.1 dX7_idleIn_43 rfl (lv_at hl 0 rfl) ?_
          refine lv_goto (tgt := 49) F.1 F.2.1 dX7_idleIn_44 (by decide) ?_
          exact hJ9 _ _ _ _ (if_pos h7).symm hW (lv_sub hl [0, 1] rfl)
      refine lv_if_le (tgt := 33) F.1 F.2.1 dX7_idleIn_13 (by decide) (fun h4 => ?_) (fun h4 => ?_)
      · exact hJ6 _ _ _ hW (lv_sub hl [0, 1] rfl)
      · refine lv_iload_n F.1 F.2.1 dX7_idleIn_16 rfl (lv_at hl 0 rfl) ?_
        refine lv_sipush (v := 600) F.1 F.2.1 dX7_idleIn_17 (by decide) ?_
        refine lv_icmp_ge (tgt := 33) F.1 F.2.1 dX7_idleIn_20 (by decide) (fun h5 => ?_) (fun h5 => ?_)
        · exact hJ6 _ _ _ hW (lv_sub hl [0, 1] rfl)
        · exact absurd (c_le (lI 600) rfl (by omega) (by omega)) h5
    | succ fu ih =>
      intro j S2 H locs ls hj hres wfx hW hl
      refine lv_aload_n F.1 F.2.1 dX7_idleIn_6 rfl (lv_at hl 1 rfl) ?_
      refine jgetR F hT hW fw_X7_7 oM0 (by decide) rfl dX7_idleIn_7 ?_
      refine lv_bipush (v := 10) F.1 F.2.1 dX7_idleIn_10 (by decide) ?_
      refine jiald F hT hW 10 oM1 (by omega) (by decide) (lI 10) rfl dX7_idleIn_12 ?_
      refine lv_if_le (tgt := 33) F.1 F.2.1 dX7_idleIn_13 (by decide) (fun h3 => ?_) (fun h3 => ?_)
      · refine lv_aload_n F.1 F.2.1 dX7_idleIn_33 rfl (lv_at hl 1 rfl) ?_
        refine jgetR F hT hW fw_X7_7 oM0 (by decide) rfl dX7_idleIn_34 ?_
        refine lv_bipush (v := 10) F.1 F.2.1 dX7_idleIn_37 (by decide) ?_
        refine jiald F hT hW 10 oM1 (by omega) (by decide) (lI 10) rfl dX7_idleIn_39 ?_
        have hJ6 : ∀ (v5 : Int32) (H : Heap) (locs : List Loc) (ls : Array Slot), v5 = (if (S2 1 10) = 0 then nI j else (-6)) → Wd E s H locs (fo μ 13 S2) → lv_has ls 3 [(1, .int (nI j)), (0, .ref (ea E 13 0))] → W p l e (rmO 5 114) s m ([.ref (ea E 13 0)] : List Value).toArray below meth c H locs 0 0 (MQ below (va_Qi (fun x μ' => x = (p_X7_idleIn S).1 ∧ μ' = fo μ 13 (p_X7_idleIn S).2) (fun μ' t => MB E μ' t.heap) (AA E)) ([.ref (ea E 13 0)] : List Value).toArray s 0 0 (AA E)) (F0 m 49 ls [.int v5]) := by
          intro v5 H locs ls ev5 hW hl
          refine lv_istore_n (lv' := [(2, .int v5), (1, .int (nI j)), (0, .ref (ea E 13 0))]) F.1 F.2.1 dX7_idleIn_49 rfl hl (by decide) rfl (fun ls hl => ?_)
          refine lv_aload_n F.1 F.2.1 dX7_idleIn_50 rfl (lv_at hl 2 rfl) ?_
          refine jcvf (jrunV (As := []) (rest := []) F hT hW yc_X7_comeBack yv_X7_comeBack ml_X7_117 oM0 (by decide) rfl (c_X7_comeBack l E μ S2) rfl hl.1 ⟨Nat.le_of_ble_eq_true rfl, Nat.le_of_ble_eq_true rfl⟩ rfl (Nat.le_of_ble_eq_true rfl) ⟨Nat.le_refl _, Nat.le_refl _⟩ dX7_idleIn_51) hW (fun S7 H locs eS7 hW => ?_)
          refine lv_iload_n F.1 F.2.1 dX7_idleIn_54 rfl (lv_at hl 0 rfl) ?_
          have hq : ((v5 : Int32), S7) = p_X7_idleIn S := by
            subst eS7
            subst ev5
            exact ((hres).trans (if_pos h3)).symm
          exact jri F hr0 hlk hW rfl dX7_idleIn_55 ⟨congrArg Prod.fst hq, congrArg (fun z => fo μ 13 z.2) hq⟩
        refine lv_if_ne (tgt := 47) F.1 F.2.1 dX7_idleIn_40 (by decide) (fun h4 => ?_) (fun h4 => ?_)
        · refine lv_bipush (v := (-6)) F.1 F.2.1 dX7_idleIn_47 (by decide) ?_
          exact hJ6 _ _ _ _ (if_neg h4).symm hW (lv_sub hl [0, 1] rfl)
        · refine lv_iload_n F.1 F.2.1 dX7_idleIn_43 rfl (lv_at hl 0 rfl) ?_
          refine lv_goto (tgt := 49) F.1 F.2.1 dX7_idleIn_44 (by decide) ?_
          exact hJ6 _ _ _ _ (if_pos h4).symm hW (lv_sub hl [0, 1] rfl)
      · refine lv_iload_n F.1 F.2.1 dX7_idleIn_16 rfl (lv_at hl 0 rfl) ?_
        refine lv_sipush (v := 600) F.1 F.2.1 dX7_idleIn_17 (by decide) ?_
        refine lv_icmp_ge (tgt := 33) F.1 F.2.1 dX7_idleIn_20 (by decide) (fun h8 => ?_) (fun h8 => ?_)
        · exact absurd h8 (c_nle (lI 600) rfl (by omega) (by omega))
        · refine lv_aload_n F.1 F.2.1 dX7_idleIn_23 rfl (lv_at hl 1 rfl) ?_
          refine jcvf (jrunV (As := []) (rest := []) F hT hW yc_X7_pass yv_X7_pass ml_X7_99 oM0 (by decide) rfl (c_X7_pass l E μ S2 wfx.1 wfx.2.1 wfx.2.2.1 wfx.2.2.2.1 wfx.2.2.2.2) rfl hl.1 ⟨Nat.le_of_ble_eq_true rfl, Nat.le_of_ble_eq_true rfl⟩ rfl (Nat.le_of_ble_eq_true rfl) ⟨Nat.le_refl _, Nat.le_refl _⟩ dX7_idleIn_24) hW (fun S9 H locs eS9 hW => ?_)
          have wfn : Wm S9 := by rw [eS9]; exact wm_pass wfx
          refine lv_iinc (v := nI (j + 1)) (lv' := [(1, .int (nI (j + 1))), (0, .ref (ea E 13 0))]) F.1 F.2.1 dX7_idleIn_27 hl (k := 0) rfl (ia rfl rfl) (by decide) rfl (fun ls hl => ?_)
          refine lv_goto (tgt := 6) F.1 F.2.1 dX7_idleIn_30 (by decide) ?_
          subst eS9
          exact ih (j + 1) _ _ _ _ (by omega) (hres.trans (if_neg h3)) wfn hW (lv_sub hl [0, 1] rfl)
  exact hL3 600 0 S1 _ _ _ (by omega) (by subst eS1; exact rfl) wfk hW (lv_sub hl [0, 1] rfl)

def q_X7_missesIn_25 (S : Sv) (tk : Int32) (j : Nat) (σ : Sv) : Sv :=
  let S5 : Sv := σ
  let S7 : Sv := p_X7_pass S5
  S7
def p_X7_missesIn (S : Sv) (tk : Int32) : Int32 × Sv :=
  let x1 : Int32 := p_X7_in tk 1 500
  if x1 = 0 then
    (((-2) : Int32), S)
  else
    let S3 : Sv := p_X7_keep S
    let x4 : Int32 := p_X7_misses S3
    let S5 : Sv := (itN (q_X7_missesIn_25 S tk) (cn tk) (S3))
    let x8 : Int32 := p_X7_misses S5
    let S9 : Sv := p_X7_comeBack S5
    ((x8 - x4 : Int32), S9)

theorem mi_f {S : Sv} {tk : Int32} : ∀ n T, q_X7_missesIn_25 S tk n T = p_X7_pass T := fun _ _ => rfl

set_option maxHeartbeats 4000000 in
set_option maxRecDepth 100000 in
theorem c_X7_missesIn (l : Launch) (E : mE) (μ : Mu) (S : Sv) (tk : Int32) (wfS : Wm S) : CtI l E yX7_missesIn cX7_missesIn 4 (some .int) 5 114 [.ref (ea E 13 0), .int tk] (fo μ 13 S) (fun x μ' => x = (p_X7_missesIn S tk).1 ∧ μ' = fo μ 13 (p_X7_missesIn S tk).2) := by
  refine jMet (by decide +kernel) (Nat.le_of_ble_eq_true rfl) ?_
  intro p e s m below meth c ls F hT hr0 hlk hW hl
  have F : CallFix p m c cX7_missesIn 4 s _ TB RX7 := F
  have hl : lv_has ls 4 [(0, .ref (ea E 13 0)), (1, .int tk)] := hl
  refine lv_iload_n F.1 F.2.1 dX7_missesIn_0 rfl (lv_at hl 1 rfl) ?_
  refine lv_iconst (v := 1) F.1 F.2.1 dX7_missesIn_1 (by decide) ?_
  refine lv_sipush (v := 500) F.1 F.2.1 dX7_missesIn_2 (by decide) ?_
  refine jcip (jrunS (As := [.int tk, .int 1, .int 500]) (rest := []) F hT hW yc_X7_in ys_X7_in ml_X7_40 (c_X7_in l E (fo μ 13 S) tk 1 500) rfl hl.1 ⟨Nat.le_of_ble_eq_true rfl, Nat.le_of_ble_eq_true rfl⟩ rfl (Nat.le_of_ble_eq_true rfl) ⟨Nat.le_refl _, Nat.le_refl _⟩ dX7_missesIn_5) hW (fun x1 H locs ex1 hW => ?_)
  refine lv_if_ne (tgt := 14) F.1 F.2.1 dX7_missesIn_8 (by decide) (fun h2 => ?_) (fun h2 => ?_)
  · obtain ⟨ht1, ht2⟩ := wBi (lI 1) (lI 500) (by decide) (by assumption) (by assumption)
    refine lv_aload_n F.1 F.2.1 dX7_missesIn_14 rfl (lv_at hl 0 rfl) ?_
    refine jcvf (jrunV (As := []) (rest := []) F hT hW yc_X7_keep yv_X7_keep ml_X7_111 oM0 (by decide) rfl (c_X7_keep l E μ S) rfl hl.1 ⟨Nat.le_of_ble_eq_true rfl, Nat.le_of_ble_eq_true rfl⟩ rfl (Nat.le_of_ble_eq_true rfl) ⟨Nat.le_refl _, Nat.le_refl _⟩ dX7_missesIn_15) hW (fun S3 H locs eS3 hW => ?_)
    have wfk : Wm S3 := by rw [eS3]; exact wm_keep wfS
    refine lv_aload_n F.1 F.2.1 dX7_missesIn_18 rfl (lv_at hl 0 rfl) ?_
    refine jcip (jrunV (As := []) (rest := []) F hT hW yc_X7_misses yv_X7_misses ml_X7_105 oM0 (by decide) rfl (c_X7_misses l E μ S3 wfk.1) rfl hl.1 ⟨Nat.le_of_ble_eq_true rfl, Nat.le_of_ble_eq_true rfl⟩ rfl (Nat.le_of_ble_eq_true rfl) ⟨Nat.le_refl _, Nat.le_refl _⟩ dX7_missesIn_19) hW (fun x4 H locs ex4 hW => ?_)
    refine lv_istore_n (lv' := [(2, .int x4), (0, .ref (ea E 13 0)), (1, .int tk)]) F.1 F.2.1 dX7_missesIn_22 rfl hl (by decide) rfl (fun ls hl => ?_)
    refine lv_iconst (v := 0) F.1 F.2.1 dX7_missesIn_23 (by decide) ?_
    refine lv_istore_n (lv' := [(3, .int 0), (2, .int x4), (0, .ref (ea E 13 0)), (1, .int tk)]) F.1 F.2.1 dX7_missesIn_24 rfl hl (by decide) rfl (fun ls hl => ?_)
    have hL6 : ∀ (fu j : Nat) (S5 : Sv) (H : Heap) (locs : List Loc) (ls : Array Slot), j + fu = cn tk → (S5) = itN (q_X7_missesIn_25 S tk) j (S3) → Wd E s H locs (fo μ 13 S5) → lv_has ls 4 [(3, .int (nI j)), (2, .int x4), (0, .ref (ea E 13 0)), (1, .int tk)] → W p l e (rmO 5 114) s m ([.ref (ea E 13 0), .int tk] : List Value).toArray below meth c H locs 0 0 (MQ below (va_Qi (fun x μ' => x = (p_X7_missesIn S tk).1 ∧ μ' = fo μ 13 (p_X7_missesIn S tk).2) (fun μ' t => MB E μ' t.heap) (AA E)) ([.ref (ea E 13 0), .int tk] : List Value).toArray s 0 0 (AA E)) (F0 m 25 ls []) := by
      intro fu
      induction fu with
      | zero =>
        intro j S5 H locs ls hj hs  hW hl
        obtain rfl : j = cn tk := by omega
        have eS5 := hs
        have wfS5 := wm_it wfk (mi_f (S := S) (tk := tk)) (cn tk)
        rw [← hs] at wfS5
        refine lv_iload_n F.1 F.2.1 dX7_missesIn_25 rfl (lv_at hl 0 rfl) ?_
        refine lv_iload_n F.1 F.2.1 dX7_missesIn_26 rfl (lv_at hl 3 rfl) ?_
        refine lv_icmp_ge (tgt := 40) F.1 F.2.1 dX7_missesIn_27 (by decide) (fun h7 => ?_) (fun h7 => ?_)
        · refine lv_aload_n F.1 F.2.1 dX7_missesIn_40 rfl (lv_at hl 2 rfl) ?_
          refine jcip (jrunV (As := []) (rest := []) F hT hW yc_X7_misses yv_X7_misses ml_X7_105 oM0 (by decide) rfl (c_X7_misses l E μ S5 wfS5.1) rfl hl.1 ⟨Nat.le_of_ble_eq_true rfl, Nat.le_of_ble_eq_true rfl⟩ rfl (Nat.le_of_ble_eq_true rfl) ⟨Nat.le_refl _, Nat.le_refl _⟩ dX7_missesIn_41) hW (fun x8 H locs ex8 hW => ?_)
          refine lv_iload_n F.1 F.2.1 dX7_missesIn_44 rfl (lv_at hl 1 rfl) ?_
          refine lv_isub F.1 F.2.1 dX7_missesIn_45 ?_
          refine lv_istore_n (lv' := [(3, .int (x8 - x4)), (2, .int x4), (0, .ref (ea E 13 0)), (1, .int tk)]) F.1 F.2.1 dX7_missesIn_46 rfl hl (by decide) rfl (fun ls hl => ?_)
          refine lv_aload_n F.1 F.2.1 dX7_missesIn_47 rfl (lv_at hl 2 rfl) ?_
          refine jcvf (jrunV (As := []) (rest := []) F hT hW yc_X7_comeBack yv_X7_comeBack ml_X7_117 oM0 (by decide) rfl (c_X7_comeBack l E μ S5) rfl hl.1 ⟨Nat.le_of_ble_eq_true rfl, Nat.le_of_ble_eq_true rfl⟩ rfl (Nat.le_of_ble_eq_true rfl) ⟨Nat.le_refl _, Nat.le_refl _⟩ dX7_missesIn_48) hW (fun S9 H locs eS9 hW => ?_)
          refine lv_iload_n F.1 F.2.1 dX7_missesIn_51 rfl (lv_at hl 0 rfl) ?_
          have hq : ((x8 - x4 : Int32), S9) = p_X7_missesIn S tk := by
            subst eS9
            subst ex8
            subst eS5
            subst ex4
            subst eS3
            subst ex1
            exact (if_neg h2).symm
          exact jri F hr0 hlk hW rfl dX7_missesIn_52 ⟨congrArg Prod.fst hq, congrArg (fun z => fo μ 13 z.2) hq⟩
        · exact absurd (c_le ht1 rfl (by omega) (by omega)) h7
      | succ fu ih =>
        intro j S5 H locs ls hj hs  hW hl
        have wfS5 := wm_it wfk (mi_f (S := S) (tk := tk)) j
        rw [← hs] at wfS5
        refine lv_iload_n F.1 F.2.1 dX7_missesIn_25 rfl (lv_at hl 0 rfl) ?_
        refine lv_iload_n F.1 F.2.1 dX7_missesIn_26 rfl (lv_at hl 3 rfl) ?_
        refine lv_icmp_ge (tgt := 40) F.1 F.2.1 dX7_missesIn_27 (by decide) (fun h6 => ?_) (fun h6 => ?_)
        · exact absurd h6 (c_nle ht1 rfl (by omega) (by omega))
        · refine lv_aload_n F.1 F.2.1 dX7_missesIn_30 rfl (lv_at hl 2 rfl) ?_
          refine jcvf (jrunV (As := []) (rest := []) F hT hW yc_X7_pass yv_X7_pass ml_X7_99 oM0 (by decide) rfl (c_X7_pass l E μ S5 wfS5.1 wfS5.2.1 wfS5.2.2.1 wfS5.2.2.2.1 wfS5.2.2.2.2) rfl hl.1 ⟨Nat.le_of_ble_eq_true rfl, Nat.le_of_ble_eq_true rfl⟩ rfl (Nat.le_of_ble_eq_true rfl) ⟨Nat.le_refl _, Nat.le_refl _⟩ dX7_missesIn_31) hW (fun S7 H locs eS7 hW => ?_)
          refine lv_iinc (v := nI (j + 1)) (lv' := [(3, .int (nI (j + 1))), (2, .int x4), (0, .ref (ea E 13 0)), (1, .int tk)]) F.1 F.2.1 dX7_missesIn_34 hl (k := 0) rfl (ia rfl rfl) (by decide) rfl (fun ls hl => ?_)
          refine lv_goto (tgt := 25) F.1 F.2.1 dX7_missesIn_37 (by decide) ?_
          subst eS7
          exact ih (j + 1) _ _ _ _ (by omega) (by rw [itN_s, ← hs]; exact (rfl).symm) hW (lv_sub hl [0, 1, 2, 3] rfl)
    exact hL6 (cn tk) 0 S3 _ _ _ (by omega) rfl hW (lv_sub hl [0, 1, 2, 3] rfl)
  · refine lv_bipush (v := (-2)) F.1 F.2.1 dX7_missesIn_11 (by decide) ?_
    have hq : (((-2) : Int32), S) = p_X7_missesIn S tk := by
      subst ex1
      exact (if_pos h2).symm
    exact jri F hr0 hlk hW rfl dX7_missesIn_13 ⟨congrArg Prod.fst hq, congrArg (fun z => fo μ 13 z.2) hq⟩

def q_X7_greatestBar_34 (S : Sv) (ln : Int32) (tk : Int32) : Nat → Nat → Sv → Int32 → Int32 → Int32 × Sv
  | 0, j, S6, v7, v8 =>
    let v14 : Int32 := (if v7 = 0 then v8 else (-6))
    ((v14 : Int32), S6)
  | fu + 1, j, S6, v7, v8 =>
    if v7 = 0 then
      let v11 : Int32 := (if v7 = 0 then v8 else (-6))
      ((v11 : Int32), S6)
    else
      let S14 : Sv := us S6 1 6 (v8 + (-1))
      let x15 : Int32 := (p_X7_beginsWithin S14 (cn ln) (cn tk)).1
      let S16 : Sv := (p_X7_beginsWithin S14 (cn ln) (cn tk)).2
      let v18 : Int32 := (if 0 ≤ x15 then 0 else 1)
      let S20 : Sv := p_X7_comeBack S16
      q_X7_greatestBar_34 S ln tk fu (j + 1) S20 v18 (v8 + (-1))
def p_X7_greatestBar (S : Sv) (ln : Int32) (tk : Int32) : Int32 × Sv :=
  let x1 : Int32 := p_X7_isLine S ln
  if x1 = 0 then
    (((-1) : Int32), S)
  else
    let x3 : Int32 := p_X7_in tk 1 200
    if x3 = 0 then
      (((-2) : Int32), S)
    else
      let S5 : Sv := p_X7_keep S
      q_X7_greatestBar_34 S ln tk 32 0 S5 1 32

set_option maxHeartbeats 4000000 in
set_option maxRecDepth 100000 in
theorem c_X7_greatestBar (l : Launch) (E : mE) (μ : Mu) (S : Sv) (ln : Int32) (tk : Int32) (wfS : Wm S) : CtI l E yX7_greatestBar cX7_greatestBar 5 (some .int) 6 138 [.ref (ea E 13 0), .int ln, .int tk] (fo μ 13 S) (fun x μ' => x = (p_X7_greatestBar S ln tk).1 ∧ μ' = fo μ 13 (p_X7_greatestBar S ln tk).2) := by
  refine jMet (by decide +kernel) (Nat.le_of_ble_eq_true rfl) ?_
  intro p e s m below meth c ls F hT hr0 hlk hW hl
  have F : CallFix p m c cX7_greatestBar 5 s _ TB RX7 := F
  have hl : lv_has ls 5 [(0, .ref (ea E 13 0)), (1, .int ln), (2, .int tk)] := hl
  refine lv_aload_n F.1 F.2.1 dX7_greatestBar_0 rfl (lv_at hl 0 rfl) ?_
  refine lv_iload_n F.1 F.2.1 dX7_greatestBar_1 rfl (lv_at hl 1 rfl) ?_
  refine jcip (jrunV (As := [.int ln]) (rest := []) F hT hW yc_X7_isLine yv_X7_isLine ml_X7_57 oM0 (by decide) rfl (c_X7_isLine l E μ S ln) rfl hl.1 ⟨Nat.le_of_ble_eq_true rfl, Nat.le_of_ble_eq_true rfl⟩ rfl (Nat.le_of_ble_eq_true rfl) ⟨Nat.le_refl _, Nat.le_refl _⟩ dX7_greatestBar_2) hW (fun x1 H locs ex1 hW => ?_)
  refine lv_if_ne (tgt := 10) F.1 F.2.1 dX7_greatestBar_5 (by decide) (fun h2 => ?_) (fun h2 => ?_)
  · obtain ⟨hl1, hl2⟩ := wI wfS.1 (by assumption) (by assumption)
    have hn2 := wfS.1.2
    refine lv_iload_n F.1 F.2.1 dX7_greatestBar_10 rfl (lv_at hl 2 rfl) ?_
    refine lv_iconst (v := 1) F.1 F.2.1 dX7_greatestBar_11 (by decide) ?_
    refine lv_sipush (v := 200) F.1 F.2.1 dX7_greatestBar_12 (by decide) ?_
    refine jcip (jrunS (As := [.int tk, .int 1, .int 200]) (rest := []) F hT hW yc_X7_in ys_X7_in ml_X7_40 (c_X7_in l E (fo μ 13 S) tk 1 200) rfl hl.1 ⟨Nat.le_of_ble_eq_true rfl, Nat.le_of_ble_eq_true rfl⟩ rfl (Nat.le_of_ble_eq_true rfl) ⟨Nat.le_refl _, Nat.le_refl _⟩ dX7_greatestBar_15) hW (fun x3 H locs ex3 hW => ?_)
    refine lv_if_ne (tgt := 24) F.1 F.2.1 dX7_greatestBar_18 (by decide) (fun h4 => ?_) (fun h4 => ?_)
    · obtain ⟨ht1, ht2⟩ := wBi (lI 1) (lI 200) (by decide) (by assumption) (by assumption)
      refine lv_aload_n F.1 F.2.1 dX7_greatestBar_24 rfl (lv_at hl 0 rfl) ?_
      refine jcvf (jrunV (As := []) (rest := []) F hT hW yc_X7_keep yv_X7_keep ml_X7_111 oM0 (by decide) rfl (c_X7_keep l E μ S) rfl hl.1 ⟨Nat.le_of_ble_eq_true rfl, Nat.le_of_ble_eq_true rfl⟩ rfl (Nat.le_of_ble_eq_true rfl) ⟨Nat.le_refl _, Nat.le_refl _⟩ dX7_greatestBar_25) hW (fun S5 H locs eS5 hW => ?_)
      have wfk : Wm S5 := by rw [eS5]; exact wm_keep wfS
      have hrk : ∀ k, k < 280 → S5 2 k = S 1 k := fun k hk => by rw [eS5]; exact keep_row hk
      refine lv_bipush (v := 32) F.1 F.2.1 dX7_greatestBar_28 (by decide) ?_
      refine lv_istore_n (lv' := [(3, .int 32), (0, .ref (ea E 13 0)), (1, .int ln), (2, .int tk)]) F.1 F.2.1 dX7_greatestBar_30 rfl hl (by decide) rfl (fun ls hl => ?_)
      refine lv_iconst (v := 1) F.1 F.2.1 dX7_greatestBar_31 (by decide) ?_
      refine lv_istore (lv' := [(4, .int 1), (3, .int 32), (0, .ref (ea E 13 0)), (1, .int ln), (2, .int tk)]) F.1 F.2.1 dX7_greatestBar_32 hl (by decide) rfl (fun ls hl => ?_)
      have hL9 : ∀ (fu j : Nat) (S6 : Sv) (v7 : Int32) (v8 : Int32) (H : Heap) (locs : List Loc) (ls : Array Slot), j + fu = 32 → p_X7_greatestBar S ln tk = q_X7_greatestBar_34 S ln tk fu j S6 v7 v8 → Wm S6 → (∀ k, k < 280 → S6 2 k = S 1 k) → v8 = nI (32 - j) → Wd E s H locs (fo μ 13 S6) → lv_has ls 5 [(4, .int v7), (3, .int v8), (0, .ref (ea E 13 0)), (1, .int ln), (2, .int tk)] → W p l e (rmO 6 138) s m ([.ref (ea E 13 0), .int ln, .int tk] : List Value).toArray below meth c H locs 0 0 (MQ below (va_Qi (fun x μ' => x = (p_X7_greatestBar S ln tk).1 ∧ μ' = fo μ 13 (p_X7_greatestBar S ln tk).2) (fun μ' t => MB E μ' t.heap) (AA E)) ([.ref (ea E 13 0), .int ln, .int tk] : List Value).toArray s 0 0 (AA E)) (F0 m 34 ls []) := by
        intro fu
        induction fu with
        | zero =>
          intro j S6 v7 v8 H locs ls hj hres wfx hkp hv3 hW hl
          refine lv_iload F.1 F.2.1 dX7_greatestBar_34 (lv_at hl 0 rfl) ?_
          have hJ12 : ∀ (H : Heap) (locs : List Loc) (ls : Array Slot), Wd E s H locs (fo μ 13 S6) → lv_has ls 5 [(4, .int v7), (3, .int v8), (0, .ref (ea E 13 0)), (1, .int ln), (2, .int tk)] → W p l e (rmO 6 138) s m ([.ref (ea E 13 0), .int ln, .int tk] : List Value).toArray below meth c H locs 0 0 (MQ below (va_Qi (fun x μ' => x = (p_X7_greatestBar S ln tk).1 ∧ μ' = fo μ 13 (p_X7_greatestBar S ln tk).2) (fun μ' t => MB E μ' t.heap) (AA E)) ([.ref (ea E 13 0), .int ln, .int tk] : List Value).toArray s 0 0 (AA E)) (F0 m 77 ls []) := by
            intro H locs ls hW hl
            refine lv_iload F.1 F.2.1 dX7_greatestBar_77 (lv_at hl 0 rfl) ?_
            have hJ15 : ∀ (v14 : Int32) (H : Heap) (locs : List Loc) (ls : Array Slot), v14 = (if v7 = 0 then v8 else (-6)) → Wd E s H locs (fo μ 13 S6) → lv_has ls 5 [(4, .int v7), (3, .int v8), (0, .ref (ea E 13 0)), (1, .int ln), (2, .int tk)] → W p l e (rmO 6 138) s m ([.ref (ea E 13 0), .int ln, .int tk] : List Value).toArray below meth c H locs 0 0 (MQ below (va_Qi (fun x μ' => x = (p_X7_greatestBar S ln tk).1 ∧ μ' = fo μ 13 (p_X7_greatestBar S ln tk).2) (fun μ' t => MB E μ' t.heap) (AA E)) ([.ref (ea E 13 0), .int ln, .int tk] : List Value).toArray s 0 0 (AA E)) (F0 m 88 ls [.int v14]) := by
              intro v14 H locs ls ev14 hW hl
              have hq : ((v14 : Int32), S6) = p_X7_greatestBar S ln tk := by
                subst ev14
                exact (hres).symm
              exact jri F hr0 hlk hW rfl dX7_greatestBar_88 ⟨congrArg Prod.fst hq, congrArg (fun z => fo μ 13 z.2) hq⟩
            refine lv_if_eq (tgt := 87) F.1 F.2.1 dX7_greatestBar_79 (by decide) (fun h13 => ?_) (fun h13 => ?_)
            · refine lv_iload_n F.1 F.2.1 dX7_greatestBar_87 rfl (lv_at hl 1 rfl) ?_
              exact hJ15 _ _ _ _ (if_pos h13).symm hW (lv_sub hl [0, 1, 2, 3, 4] rfl)
            · refine lv_bipush (v := (-6)) F.1 F.2.1 dX7_greatestBar_82 (by decide) ?_
              refine lv_goto (tgt := 88) F.1 F.2.1 dX7_greatestBar_84 (by decide) ?_
              exact hJ15 _ _ _ _ (if_neg h13).symm hW (lv_sub hl [0, 1, 2, 3, 4] rfl)
          refine lv_if_eq (tgt := 77) F.1 F.2.1 dX7_greatestBar_36 (by decide) (fun h10 => ?_) (fun h10 => ?_)
          · exact hJ12 _ _ _ hW (lv_sub hl [0, 1, 2, 3, 4] rfl)
          · refine lv_iload_n F.1 F.2.1 dX7_greatestBar_39 rfl (lv_at hl 1 rfl) ?_
            refine lv_if_le (tgt := 77) F.1 F.2.1 dX7_greatestBar_40 (by decide) (fun h11 => ?_) (fun h11 => ?_)
            · exact hJ12 _ _ _ hW (lv_sub hl [0, 1, 2, 3, 4] rfl)
            · exact absurd (c_le hv3 (lI 0) (by omega) (by omega)) h11
        | succ fu ih =>
          intro j S6 v7 v8 H locs ls hj hres wfx hkp hv3 hW hl
          refine lv_iload F.1 F.2.1 dX7_greatestBar_34 (lv_at hl 0 rfl) ?_
          refine lv_if_eq (tgt := 77) F.1 F.2.1 dX7_greatestBar_36 (by decide) (fun h9 => ?_) (fun h9 => ?_)
          · refine lv_iload F.1 F.2.1 dX7_greatestBar_77 (lv_at hl 0 rfl) ?_
            have hJ12 : ∀ (v11 : Int32) (H : Heap) (locs : List Loc) (ls : Array Slot), v11 = (if v7 = 0 then v8 else (-6)) → Wd E s H locs (fo μ 13 S6) → lv_has ls 5 [(4, .int v7), (3, .int v8), (0, .ref (ea E 13 0)), (1, .int ln), (2, .int tk)] → W p l e (rmO 6 138) s m ([.ref (ea E 13 0), .int ln, .int tk] : List Value).toArray below meth c H locs 0 0 (MQ below (va_Qi (fun x μ' => x = (p_X7_greatestBar S ln tk).1 ∧ μ' = fo μ 13 (p_X7_greatestBar S ln tk).2) (fun μ' t => MB E μ' t.heap) (AA E)) ([.ref (ea E 13 0), .int ln, .int tk] : List Value).toArray s 0 0 (AA E)) (F0 m 88 ls [.int v11]) := by
              intro v11 H locs ls ev11 hW hl
              have hq : ((v11 : Int32), S6) = p_X7_greatestBar S ln tk := by
                subst ev11
                exact ((hres).trans (if_pos h9)).symm
              exact jri F hr0 hlk hW rfl dX7_greatestBar_88 ⟨congrArg Prod.fst hq, congrArg (fun z => fo μ 13 z.2) hq⟩
            refine lv_if_eq (tgt := 87) F.1 F.2.1 dX7_greatestBar_79 (by decide) (fun h10 => ?_) (fun h10 => ?_)
            · refine lv_iload_n F.1 F.2.1 dX7_greatestBar_87 rfl (lv_at hl 1 rfl) ?_
              exact hJ12 _ _ _ _ (if_pos h10).symm hW (lv_sub hl [0, 1, 2, 3, 4] rfl)
            · refine lv_bipush (v := (-6)) F.1 F.2.1 dX7_greatestBar_82 (by decide) ?_
              refine lv_goto (tgt := 88) F.1 F.2.1 dX7_greatestBar_84 (by decide) ?_
              exact hJ12 _ _ _ _ (if_neg h10).symm hW (lv_sub hl [0, 1, 2, 3, 4] rfl)
          · refine lv_iload_n F.1 F.2.1 dX7_greatestBar_39 rfl (lv_at hl 1 rfl) ?_
            refine lv_if_le (tgt := 77) F.1 F.2.1 dX7_greatestBar_40 (by decide) (fun h13 => ?_) (fun h13 => ?_)
            · exact absurd h13 (c_nle hv3 (lI 0) (by omega) (by omega))
            · refine lv_iinc (v := v8 + (-1)) (lv' := [(3, .int (v8 + (-1))), (4, .int v7), (0, .ref (ea E 13 0)), (1, .int ln), (2, .int tk)]) F.1 F.2.1 dX7_greatestBar_43 hl (k := 1) rfl rfl (by decide) rfl (fun ls hl => ?_)
              refine lv_aload_n F.1 F.2.1 dX7_greatestBar_46 rfl (lv_at hl 2 rfl) ?_
              refine jgetR F hT hW fw_X7_7 oM0 (by decide) rfl dX7_greatestBar_47 ?_
              refine lv_bipush (v := 6) F.1 F.2.1 dX7_greatestBar_50 (by decide) ?_
              refine lv_iload_n F.1 F.2.1 dX7_greatestBar_52 rfl (lv_at hl 0 rfl) ?_
              refine jiast F hT hW 6 oM1 (by decide) (by omega) (by decide) (lI 6) rfl dX7_greatestBar_53 (fun S14 H locs eS14 hW => ?_)
              have wfS14 : Wm S14 := by rw [eS14]; exact wfx.same (us_ne _ _ (by decide)) (us_ne _ _ (by decide)) (us_ne _ _ (by decide)) (us_ne _ _ (by decide)) (fun q hq => us_ne _ _ (by omega)) (fun q hq => us_ne _ _ (by omega))
              have hrS14 : ∀ k, k < 280 → S14 2 k = S 1 k := fun k hk => by rw [eS14, us_ne _ _ (by omega)]; exact hkp k hk
              refine lv_aload_n F.1 F.2.1 dX7_greatestBar_54 rfl (lv_at hl 2 rfl) ?_
              refine lv_iload_n F.1 F.2.1 dX7_greatestBar_55 rfl (lv_at hl 3 rfl) ?_
              refine lv_iload_n F.1 F.2.1 dX7_greatestBar_56 rfl (lv_at hl 4 rfl) ?_
              refine jcif (jrunV (As := [.int ln, .int tk]) (rest := []) F hT hW yc_X7_beginsWithin yv_X7_beginsWithin ml_X7_114 oM0 (by decide) rfl (c_X7_beginsWithin l E μ S14 ln (cn ln) hl1 tk (cn tk) ht1 (by first | assumption | omega) wfS14 (by first | assumption | omega)) rfl hl.1 ⟨Nat.le_of_ble_eq_true rfl, Nat.le_of_ble_eq_true rfl⟩ rfl (Nat.le_of_ble_eq_true rfl) ⟨Nat.le_refl _, Nat.le_refl _⟩ dX7_greatestBar_57) hW (fun x15 S16 H locs ex15 eS16 hW => ?_)
              have hrb : ∀ k, k < 280 → S16 2 k = S 1 k := fun k hk => by rw [eS16, fr_beginsWithin wfS14 (by decide)]; exact hrS14 k hk
              have hJ19 : ∀ (v18 : Int32) (H : Heap) (locs : List Loc) (ls : Array Slot), v18 = (if 0 ≤ x15 then 0 else 1) → Wd E s H locs (fo μ 13 S16) → lv_has ls 5 [(3, .int (v8 + (-1))), (4, .int v7), (0, .ref (ea E 13 0)), (1, .int ln), (2, .int tk)] → W p l e (rmO 6 138) s m ([.ref (ea E 13 0), .int ln, .int tk] : List Value).toArray below meth c H locs 0 0 (MQ below (va_Qi (fun x μ' => x = (p_X7_greatestBar S ln tk).1 ∧ μ' = fo μ 13 (p_X7_greatestBar S ln tk).2) (fun μ' t => MB E μ' t.heap) (AA E)) ([.ref (ea E 13 0), .int ln, .int tk] : List Value).toArray s 0 0 (AA E)) (F0 m 68 ls [.int v18]) := by
                intro v18 H locs ls ev18 hW hl
                refine lv_istore (lv' := [(4, .int v18), (3, .int (v8 + (-1))), (0, .ref (ea E 13 0)), (1, .int ln), (2, .int tk)]) F.1 F.2.1 dX7_greatestBar_68 hl (by decide) rfl (fun ls hl => ?_)
                refine lv_aload_n F.1 F.2.1 dX7_greatestBar_70 rfl (lv_at hl 2 rfl) ?_
                refine jcvf (jrunV (As := []) (rest := []) F hT hW yc_X7_comeBack yv_X7_comeBack ml_X7_117 oM0 (by decide) rfl (c_X7_comeBack l E μ S16) rfl hl.1 ⟨Nat.le_of_ble_eq_true rfl, Nat.le_of_ble_eq_true rfl⟩ rfl (Nat.le_of_ble_eq_true rfl) ⟨Nat.le_refl _, Nat.le_refl _⟩ dX7_greatestBar_71) hW (fun S20 H locs eS20 hW => ?_)
                have wfn : Wm S20 := by rw [eS20]; exact wm_back wfS hrb
                have hrn : ∀ k, k < 280 → S20 2 k = S 1 k := fun k hk => by rw [eS20, fr_comeBack (by decide)]; exact hrb k hk
                refine lv_goto (tgt := 34) F.1 F.2.1 dX7_greatestBar_74 (by decide) ?_
                subst eS20
                subst ev18
                subst eS16
                subst ex15
                subst eS14
                exact ih (j + 1) _ _ _ _ _ _ (by omega) (hres.trans (if_neg h9)) wfn hrn (by rw [dcI hv3 (by omega), Nat.sub_sub]) hW (lv_sub hl [0, 1, 2, 3, 4] rfl)
              refine lv_if_ge (tgt := 67) F.1 F.2.1 dX7_greatestBar_60 (by decide) (fun h17 => ?_) (fun h17 => ?_)
              · refine lv_iconst (v := 0) F.1 F.2.1 dX7_greatestBar_67 (by decide) ?_
                exact hJ19 _ _ _ _ (if_pos h17).symm hW (lv_sub hl [0, 1, 2, 3, 4] rfl)
              · refine lv_iconst (v := 1) F.1 F.2.1 dX7_greatestBar_63 (by decide) ?_
                refine lv_goto (tgt := 68) F.1 F.2.1 dX7_greatestBar_64 (by decide) ?_
                exact hJ19 _ _ _ _ (if_neg h17).symm hW (lv_sub hl [0, 1, 2, 3, 4] rfl)
      exact hL9 32 0 S5 1 32 _ _ _ (by omega) (by subst eS5; subst ex3; subst ex1; exact (if_neg h2).trans (if_neg h4)) wfk hrk (lI 32) hW (lv_sub hl [0, 1, 2, 3, 4] rfl)
    · refine lv_bipush (v := (-2)) F.1 F.2.1 dX7_greatestBar_21 (by decide) ?_
      have hq : (((-2) : Int32), S) = p_X7_greatestBar S ln tk := by
        subst ex3
        subst ex1
        exact ((if_neg h2).trans (if_pos h4)).symm
      exact jri F hr0 hlk hW rfl dX7_greatestBar_23 ⟨congrArg Prod.fst hq, congrArg (fun z => fo μ 13 z.2) hq⟩
  · refine lv_iconst (v := (-1)) F.1 F.2.1 dX7_greatestBar_8 (by decide) ?_
    have hq : (((-1) : Int32), S) = p_X7_greatestBar S ln tk := by
      subst ex1
      exact (if_pos h2).symm
    exact jri F hr0 hlk hW rfl dX7_greatestBar_9 ⟨congrArg Prod.fst hq, congrArg (fun z => fo μ 13 z.2) hq⟩

