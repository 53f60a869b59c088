/-! every call keeps it: changes -/
def StR (g : Nat) (μ : Mu) (x : Int32 × Mu) (y : Int32 × Sv) : Prop := x.1 = y.1 ∧ Iv (g + 28000) x.2 y.2 ∧ x.2 13 = μ 13
theorem Iv.wc {g : Nat} {μ : Mu} {M : Sv} (h : Iv g μ M) : Wc μ := h.1
theorem Iv.p0 {g : Nat} {μ : Mu} {M : Sv} (h : Iv g μ M) : p_X0_prepare μ 0 = μ 0 := pre_ne h.1 (Or.inl (by decide))
theorem Iv.zb {g : Nat} {μ : Mu} {M : Sv} (h : Iv g μ M) : Zb (μ 0) := (h.1.1 0 (by decide)).2
theorem StR.chg {g : Nat} {μ : Mu} {M : Sv} {a b : Int32 × Sv} {x : Int32 × Mu} (h : Iv g μ M) (hx : x = chgF μ a) (hO : OpR (g + 1000) (μ 0) M a b) (hz : Zb a.2) : StR g μ x b := by
  rw [hx]
  exact h.chg (by omega) (hO.mono (by omega)) hz
theorem s_set {g : Nat} {μ : Mu} {M : Sv} {st vl : Int32} (h : Iv g μ M) : StR g μ (p_X6_set μ st vl) (p_X7_set M st vl) := by
  obtain ⟨n, t, d, hR⟩ := h.2.1
  refine .chg (a := p_X3_changeSetting (μ 0) st vl) h ?_ ((r_set hR).mono (by omega)) (zb_set h.zb)
  rw [← h.p0]; rfl
theorem s_line {g : Nat} {μ : Mu} {M : Sv} {a b c lv : Int32} (h : Iv g μ M) : StR g μ (p_X6_line μ a b c lv) (p_X7_line M a b c lv) := by
  obtain ⟨n, t, d, hR⟩ := h.2.1
  refine .chg (a := p_X3_addLine (μ 0) a b c lv) h ?_ ((r_addLine hR).mono (by omega)) (zb_addLine h.zb)
  rw [← h.p0]; rfl
theorem s_timer {g : Nat} {μ : Mu} {M : Sv} {a b c : Int32} (h : Iv g μ M) : StR g μ (p_X6_timer μ a b c) (p_X7_timer M a b c) := by
  obtain ⟨n, t, d, hR⟩ := h.2.1
  refine .chg (a := p_X3_addTimer (μ 0) a b c) h ?_ ((r_addTimer hR).mono (by omega)) (zb_addTimer h.zb)
  rw [← h.p0]; rfl
theorem s_stop {g : Nat} {μ : Mu} {M : Sv} {a : Int32} (h : Iv g μ M) : StR g μ (p_X6_stop μ a) (p_X7_stop M a) := by
  obtain ⟨n, t, d, hR⟩ := h.2.1
  refine .chg (a := p_X3_removeTimer (μ 0) a) h ?_ ((r_stop hR).mono (by omega)) (zb_removeTimer h.zb)
  rw [← h.p0]; rfl
theorem s_raise {g : Nat} {μ : Mu} {M : Sv} {a : Int32} (h : Iv g μ M) : StR g μ (p_X6_raise μ a) (p_X7_raise M a) := by
  obtain ⟨n, t, d, hR⟩ := h.2.1
  refine .chg (a := p_X3_raiseLine (μ 0) a) h ?_ ((r_raise hR).mono (by omega)) (zb_raiseLine h.zb)
  rw [← h.p0]; rfl
theorem s_hold {g : Nat} {μ : Mu} {M : Sv} {a b c : Int32} (h : Iv g μ M) : StR g μ (p_X6_hold μ a b c) (p_X7_hold M a b c) := by
  obtain ⟨n, t, d, hR⟩ := h.2.1
  refine .chg (a := p_X3_holdLine (μ 0) a b c) h ?_ ((r_hold hR).mono (by omega)) (zb_holdLine h.zb)
  rw [← h.p0]; rfl
theorem s_mask {g : Nat} {μ : Mu} {M : Sv} {a b : Int32} (h : Iv g μ M) : StR g μ (p_X6_mask μ a b) (p_X7_mask M a b) := by
  obtain ⟨n, t, d, hR⟩ := h.2.1
  refine .chg (a := p_X3_maskLine (μ 0) a b) h ?_ ((r_mask hR).mono (by omega)) (zb_maskLine h.zb)
  rw [← h.p0]; rfl
theorem s_change {g : Nat} {μ : Mu} {M : Sv} {a b c e : Int32} (h : Iv g μ M) : StR g μ (p_X6_change μ a b c e) (p_X7_change M a b c e) := by
  obtain ⟨n, t, d, hR⟩ := h.2.1
  refine .chg (a := p_X3_changeLine (μ 0) a b c e) h ?_ ((r_change hR).mono (by omega)) (zb_changeLine h.zb)
  rw [← h.p0]; rfl
theorem s_ticks {g : Nat} {μ : Mu} {M : Sv} {a : Int32} (h : Iv g μ M) (hg : g + 28000 < 2 ^ 29) : StR g μ (p_X6_ticks μ a) (p_X7_ticks M a) := by
  obtain ⟨n, t, d, hR⟩ := h.2.1
  refine .chg (a := p_X3_passTicks (μ 0) a) h ?_ (r_ticks hR (by omega)) (ws_ticks (h.1.1 0 (by decide))).2
  rw [← h.p0]; rfl
/-! forecasts -/
theorem Iv.fc {g : Nat} {μ μ' : Mu} {M M' : Sv} (h : Iv g μ M) (h1 : ∀ q, ¬ q = 1 → μ' q = μ q) (hw : Ws (μ' 1)) (hf : FcR M M') : Iv (g + 28000) μ' M' :=
  ((h.trial h1 hw).sideM hf.1 (fun p k p1 p2 _ _ => hf.2 p k p1 p2)).mono (by omega)
theorem Iv.ws1 {g : Nat} {μ : Mu} {M : Sv} (h : Iv g μ M) : Ws (p_X3_copyFrom (μ 1) (μ 0)) := ws_copy (h.1.1 1 (by decide)) (h.1.1 0 (by decide))
theorem ws_tub {S : Sv} {ln : Int32} {mo : Nat} (h : Ws S) : Ws (p_X3_ticksUntilBegin S ln mo).2 := by
  unfold p_X3_ticksUntilBegin
  exact ws_ub _ _ _ h
theorem ws_tui {S : Sv} {mo : Nat} (h : Ws S) : Ws (p_X3_ticksUntilIdle S mo).2 := by
  unfold p_X3_ticksUntilIdle
  exact ws_ui _ _ _ h
theorem s_beginsIn {g : Nat} {μ : Mu} {M : Sv} {ln : Int32} (h : Iv g μ M) (hg : g + 28000 < 2 ^ 29) : StR g μ (p_X6_beginsIn μ ln) (p_X7_beginsIn M ln) := by
  obtain ⟨n, t, d, hR⟩ := h.2.1
  obtain ⟨q1, q2⟩ := r_beginsIn (ln := ln) hR (hR.copy (μ 1)) (by omega)
  unfold StR
  rw [← q1]
  unfold p_X6_beginsIn
  try dsimp only
  by_cases c : p_X3_hasLine (μ 0) ln = 0
  · rw [if_pos c, if_pos c]
    exact ⟨rfl, h.fc (fun _ _ => rfl) (h.1.1 1 (by decide)) q2, rfl⟩
  · rw [if_neg c, if_neg c, fo_at]
    try dsimp only
    exact ⟨rfl, h.fc (fun q hq => by rw [fo_ne _ _ hq, fo_ne _ _ hq]) (by rw [fo_at]; exact ws_tub h.ws1) q2, by rw [fo_ne _ _ (by decide), fo_ne _ _ (by decide)]⟩
theorem s_idleIn {g : Nat} {μ : Mu} {M : Sv} (h : Iv g μ M) (hg : g + 28000 < 2 ^ 29) : StR g μ (p_X6_idleIn μ) (p_X7_idleIn M) := by
  obtain ⟨n, t, d, hR⟩ := h.2.1
  obtain ⟨q1, q2⟩ := r_idleIn (hR.copy (μ 1)) (by omega)
  unfold StR
  rw [← q1]
  unfold p_X6_idleIn
  try dsimp only
  rw [fo_at]
  try dsimp only
  exact ⟨rfl, h.fc (fun q hq => by rw [fo_ne _ _ hq, fo_ne _ _ hq]) (by rw [fo_at]; exact ws_tui h.ws1) q2, by rw [fo_ne _ _ (by decide), fo_ne _ _ (by decide)]⟩
theorem s_missesIn {g : Nat} {μ : Mu} {M : Sv} {tk : Int32} (h : Iv g μ M) (hg : g + 28000 < 2 ^ 29) : StR g μ (p_X6_missesIn μ tk) (p_X7_missesIn M tk) := by
  obtain ⟨n, t, d, hR⟩ := h.2.1
  obtain ⟨q1, q2⟩ := r_missesIn (tk := tk) hR (hR.copy (μ 1)) (by omega)
  unfold StR
  rw [← q1]
  unfold p_X6_missesIn
  try dsimp only
  by_cases c : p_X6_within tk 1 500 = 0
  · rw [if_pos c, if_pos c]
    exact ⟨rfl, h.fc (fun _ _ => rfl) (h.1.1 1 (by decide)) q2, rfl⟩
  · have e0 : ∀ X Y, fo (fo μ 1 X) 1 Y 0 = μ 0 := fun X Y => by rw [fo_ne _ _ (by decide), fo_ne _ _ (by decide)]
    rw [if_neg c, if_neg c, fo_at, fo_at, e0]
    try dsimp only
    exact ⟨rfl, h.fc (fun q hq => by rw [fo_ne _ _ hq, fo_ne _ _ hq]) (by rw [fo_at]; exact ws_ticks h.ws1) q2, by rw [fo_ne _ _ (by decide), fo_ne _ _ (by decide)]⟩
theorem gb_ws {μ0 : Mu} {ln tk : Int32} : ∀ fu j (μ : Mu) v, Ws (μ 0) → Ws (μ 1) → Ws ((q_X6_greatestBar_34 μ0 ln tk fu j μ v).2 1) ∧ ∀ q, ¬ q = 1 → (q_X6_greatestBar_34 μ0 ln tk fu j μ v).2 q = μ q := by
  intro fu
  induction fu with
  | zero => intro j μ v _ h1; exact ⟨h1, fun _ _ => rfl⟩
  | succ fu ih =>
    intro j μ v h0 h1
    have hc : Ws (p_X3_changeSetting (p_X3_copyFrom (μ 1) (μ 0)) 6 v).2 := ⟨wf_set (wf_copy h0.1), zb_set (ws_copy h1 h0).2⟩
    have ht : Ws (p_X3_ticksUntilBegin (p_X3_changeSetting (p_X3_copyFrom (μ 1) (μ 0)) 6 v).2 ln (cn tk)).2 := ws_tub hc
    unfold q_X6_greatestBar_34
    try dsimp only
    rw [fo_at, fo_at]
    generalize (p_X3_ticksUntilBegin (p_X3_changeSetting (p_X3_copyFrom (μ 1) (μ 0)) 6 v).2 ln (cn tk)).1 = x
    generalize (p_X3_ticksUntilBegin (p_X3_changeSetting (p_X3_copyFrom (μ 1) (μ 0)) 6 v).2 ln (cn tk)).2 = T at ht ⊢
    generalize (p_X3_changeSetting (p_X3_copyFrom (μ 1) (μ 0)) 6 v).2 = T1
    generalize p_X3_copyFrom (μ 1) (μ 0) = T0
    have e : ∀ q, ¬ q = 1 → fo (fo (fo μ 1 T0) 1 T1) 1 T q = μ q := fun q hq => by rw [fo_ne _ _ hq, fo_ne _ _ hq, fo_ne _ _ hq]
    split
    · obtain ⟨a, b⟩ := ih (j + 1) (fo (fo (fo μ 1 T0) 1 T1) 1 T) (v + -1) (by rw [e 0 (by decide)]; exact h0) (by rw [fo_at]; exact ht)
      exact ⟨a, fun q hq => (b q hq).trans (e q hq)⟩
    · try dsimp only
      exact ⟨by rw [fo_at]; exact ht, e⟩
theorem s_greatestBar {g : Nat} {μ : Mu} {M : Sv} {ln tk : Int32} (h : Iv g μ M) (hg : g + 28000 < 2 ^ 29) : StR g μ (p_X6_greatestBar μ ln tk) (p_X7_greatestBar M ln tk) := by
  obtain ⟨n, t, d, hR⟩ := h.2.1
  obtain ⟨q1, q2⟩ := r_greatestBar (ln := ln) (tk := tk) hR (by omega)
  refine ⟨q1, ?_⟩
  have key : Ws ((p_X6_greatestBar μ ln tk).2 1) ∧ ∀ q, ¬ q = 1 → (p_X6_greatestBar μ ln tk).2 q = μ q := by
    have w1 : Ws (μ 1) := h.1.1 1 (by decide)
    unfold p_X6_greatestBar
    try dsimp only
    split
    · exact ⟨w1, fun _ _ => rfl⟩
    · split
      · exact ⟨w1, fun _ _ => rfl⟩
      · exact gb_ws _ _ _ _ (h.1.1 0 (by decide)) w1
  exact ⟨h.fc key.2 key.1 q2, key.2 13 (by decide)⟩
/-! texts -/
theorem Iv.side11 {g L : Nat} {μ : Mu} {M M' S' : Sv} (h : Iv g μ M) (hP : PdR L S' M') (h1 : ∀ p k, ¬ p = 6 → ¬ (p = 5 ∧ k = 1) → S' p k = μ 11 p k) (h2 : ∀ p k, ¬ p = 6 → ¬ (p = 0 ∧ k = 7) → M' p k = M p k) (h3 : ∀ j, j < 80 → narrow .char (.int (S' 6 j)) = .int (S' 6 j)) : Iv g (fo μ 11 S') M' := by
  obtain ⟨⟨w1, w2, w3, w4, w5, w6, w7⟩, ⟨n, t, d, a2⟩, -, a4, a5, nx, u, a6, a7, a8, a9, a10, a11⟩ := h
  have m11 : fo μ 11 S' 11 = S' := fo_at _ _ _
  have mo : ∀ q, ¬ q = 11 → fo μ 11 S' q = μ q := fun q hq => fo_ne _ _ hq
  refine ⟨⟨fun r hr => by rw [mo _ (by omega)]; exact w1 r hr, by rw [m11, h1 _ _ (by omega) (by omega)]; exact w2, by rw [m11, h1 _ _ (by omega) (by omega)]; exact w3, by rw [m11]; exact bn_of hP.1 hP.2.2.1 (by decide), by rw [m11]; exact h3, by rw [mo _ (by decide)]; exact w6, by rw [mo _ (by decide)]; exact w7⟩, ⟨n, t, d, by rw [mo _ (by decide)]; exact a2.row fun k _ => h2 _ _ (by omega) (by omega)⟩, ⟨L, by rw [m11]; exact hP⟩, by rw [h2 _ _ (by omega) (by omega)]; exact a4, fun q hq => ?_, nx, u, a6, a7, by rw [m11, h1 _ _ (by omega) (by omega)]; exact a8, by rw [m11, h1 _ _ (by omega) (by omega)]; exact a9, by rw [h2 _ _ (by omega) (by omega)]; exact a10, fun j hj => ?_⟩
  · obtain ⟨c1, c2, c3⟩ := a5 q hq
    rw [m11, h1 _ _ (by decide) (by omega), mo _ (by omega), h2 5 q (by omega) (by omega)]
    refine ⟨c1, c2, fun z => ?_⟩
    obtain ⟨n', t', d', e⟩ := c3 z
    exact ⟨n', t', d', e.row fun k hk => h2 _ _ (by omega) (by omega)⟩
  · rw [mo _ (by omega)]
    obtain ⟨n', t', d', e⟩ := a11 j hj
    exact ⟨n', t', d', e.row fun k hk => h2 _ _ (by omega) (by omega)⟩
theorem s_put {g : Nat} {μ : Mu} {M : Sv} {ch : Int64} (h : Iv g μ M) : StR g μ (p_X6_put μ ch) (p_X7_put M ch) := by
  obtain ⟨L, hP⟩ := h.2.2.1
  obtain ⟨q1, ⟨L', q2⟩, q3, q4, q5⟩ := r_put (ch := ch) hP
  unfold StR p_X6_put
  try dsimp only
  exact ⟨q1, (h.side11 q2 q3 q4 (q5 h.1.2.2.2.2.1)).mono (by omega), fo_ne _ _ (by decide)⟩
theorem s_wipe {g : Nat} {μ : Mu} {M : Sv} (h : Iv g μ M) : StR g μ (p_X6_wipe μ) (p_X7_wipe M) := by
  obtain ⟨L, hP⟩ := h.2.2.1
  obtain ⟨q1, q2⟩ := r_wipe hP
  unfold StR p_X6_wipe
  try dsimp only
  exact ⟨q1, (h.side11 q2 (fun p k _ hk => us_ne _ _ hk) (fun p k _ hk => us_ne _ _ hk) (fun j hj => by unfold p_X2_clear; try dsimp only; rw [us_p (by decide)]; exact h.1.2.2.2.2.1 j hj)).mono (by omega), fo_ne _ _ (by decide)⟩
theorem s_fault {g : Nat} {μ : Mu} {M : Sv} (h : Iv g μ M) : StR g μ (p_X6_fault μ, μ) (p_X7_fault M) := by
  obtain ⟨L, hP⟩ := h.2.2.1
  obtain ⟨q1, q2, -⟩ := fault_c hP
  unfold StR p_X6_fault p_X7_fault
  try dsimp only
  exact ⟨q1.symm, (h.sideM (fun k hk => q2 _ _ (by omega) (by decide)) (fun p k _ _ p7 p0 => q2 p k p0 p7)).mono (by omega), rfl⟩
