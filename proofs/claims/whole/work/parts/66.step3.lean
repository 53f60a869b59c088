/-! save, restore, numbers; what the contracts ask -/
theorem sv_val {M S0 : Sv} {sl : Int32} {c : Nat} (hc : cn sl = c) : ∀ m, (∀ p k, ¬ (p = 4 ∧ c * 280 ≤ k ∧ k < c * 280 + m) → itN (q_X7_save_14 M sl) m S0 p k = S0 p k) ∧ ∀ k, k < m → itN (q_X7_save_14 M sl) m S0 4 (c * 280 + k) = S0 1 k := by
  intro m
  induction m with
  | zero => exact ⟨fun p k _ => rfl, fun k hk => by omega⟩
  | succ m ih =>
    rw [itN_s]
    obtain ⟨i1, i2⟩ := ih
    generalize itN (q_X7_save_14 M sl) m S0 = σ at i1 i2 ⊢
    unfold q_X7_save_14
    try dsimp only
    rw [hc]
    refine ⟨fun p k hk => ?_, fun k hk => ?_⟩
    · rw [us_ne _ _ (by omega)]
      exact i1 p k (by omega)
    · by_cases hkm : k = m
      · rw [hkm, us_at]; exact i1 _ _ (by omega)
      · rw [us_k (by omega)]; exact i2 k (by omega)
theorem rs_val {M S0 : Sv} {sl : Int32} {c : Nat} (hc : cn sl = c) : ∀ m, (∀ p k, ¬ p = 1 → itN (q_X7_restore_30 M sl) m S0 p k = S0 p k) ∧ ∀ k, k < m → itN (q_X7_restore_30 M sl) m S0 1 k = S0 4 (c * 280 + k) := by
  intro m
  induction m with
  | zero => exact ⟨fun p k _ => rfl, fun k hk => by omega⟩
  | succ m ih =>
    rw [itN_s]
    obtain ⟨i1, i2⟩ := ih
    generalize itN (q_X7_restore_30 M sl) m S0 = σ at i1 i2 ⊢
    unfold q_X7_restore_30
    try dsimp only
    rw [hc]
    refine ⟨fun p k hk => ?_, fun k hk => ?_⟩
    · rw [us_p hk]
      exact i1 p k hk
    · by_cases hkm : k = m
      · rw [hkm, us_at]; exact i1 _ _ (by decide)
      · rw [us_k hkm]; exact i2 k (by omega)
theorem s_save {g : Nat} {μ : Mu} {M : Sv} {sl : Int32} (h : Iv g μ M) : StR g μ (p_X6_save μ sl) (p_X7_save M sl) := by
  obtain ⟨hw, ⟨n0, t0, d0, hR⟩, ⟨L, hP⟩, h8, hS, nx, u, hnx, hu, e1, e2, e3, hH⟩ := id (h.mono (show g ≤ g + 28000 by omega))
  obtain ⟨w1, w2, w3, w4, w5, w6, w7⟩ := id hw
  unfold StR p_X6_save p_X7_save
  try dsimp only
  rw [in_w]
  by_cases hsl : p_X6_within sl 0 1 = 0
  · rw [if_pos hsl, if_pos hsl]
    exact ⟨rfl, h.mono (by omega), rfl⟩
  · rw [if_neg hsl, if_neg hsl]
    obtain ⟨c, hc, ec⟩ := within_idx (n := 1) rfl (by decide) hsl
    have hcc : cn sl = c := by rw [ec]; exact cn_nI (by omega)
    rw [hcc]
    obtain ⟨a1, a2⟩ := @sv_val M M sl c hcc 280
    generalize itN (q_X7_save_14 M sl) 280 M = M3 at a1 a2 ⊢
    have hcp : Ws (p_X3_copyFrom (μ (2 + c)) (μ 0)) := ws_copy (w1 _ (by omega)) (w1 _ (by omega))
    have hRc := hR.copy (μ (2 + c))
    generalize p_X3_copyFrom (μ (2 + c)) (μ 0) = C at hcp hRc ⊢
    have p11 : fo μ (2 + c) C 11 = μ 11 := fo_ne _ _ (by omega)
    rw [p11]
    have m11 : fo (fo μ (2 + c) C) 11 (us (μ 11) 2 c 1) 11 = us (μ 11) 2 c 1 := fo_at _ _ _
    have mc : fo (fo μ (2 + c) C) 11 (us (μ 11) 2 c 1) (2 + c) = C := by rw [fo_ne _ _ (by omega), fo_at]
    have mo : ∀ q, ¬ q = 11 → ¬ q = 2 + c → fo (fo μ (2 + c) C) 11 (us (μ 11) 2 c 1) q = μ q := fun q q1 q2 => by rw [fo_ne _ _ q1, fo_ne _ _ q2]
    generalize fo (fo μ (2 + c) C) 11 (us (μ 11) 2 c 1) = F at m11 mc mo ⊢
    have hF : ∀ p k, ¬ p = 2 → F 11 p k = μ 11 p k := fun p k hp => by rw [m11, us_p hp]
    have hM : ∀ p k, ¬ p = 4 → ¬ p = 5 → us M3 5 c 1 p k = M p k := fun p k p4 p5 => by rw [us_p p5, a1 _ _ (by omega)]
    try dsimp only
    refine ⟨by rw [mo 0 (by decide) (by omega), hM _ _ (by decide) (by decide), hR.hs.1], ⟨⟨fun r hr => ?_, by rw [hF _ _ (by decide)]; exact w2, by rw [hF _ _ (by decide)]; exact w3, by rw [hF _ _ (by decide)]; exact w4, fun j hj => by rw [hF _ _ (by decide)]; exact w5 j hj, by rw [mo 12 (by decide) (by omega)]; exact w6, by rw [mo 12 (by decide) (by omega)]; exact w7⟩, ⟨n0, t0, d0, by rw [mo 0 (by decide) (by omega)]; exact hR.row fun k _ => hM _ _ (by decide) (by decide)⟩, ⟨L, ?_⟩, by rw [hM _ _ (by decide) (by decide)]; exact h8, fun q hq => ?_, nx, u, hnx, hu, by rw [hF _ _ (by decide)]; exact e1, by rw [hF _ _ (by decide)]; exact e2, by rw [hM _ _ (by decide) (by decide)]; exact e3, fun j hj => ?_⟩, mo 13 (by decide) (by omega)⟩
    · by_cases rc : r = 2 + c
      · rw [rc, mc]; exact hcp
      · rw [mo _ (by omega) rc]; exact w1 r hr
    · obtain ⟨b1, b2, b3, b4⟩ := hP
      exact ⟨by rw [hF _ _ (by decide)]; exact b1, by rw [hM _ _ (by decide) (by decide)]; exact b2, b3, fun j hj => by rw [hF _ _ (by decide), hM _ _ (by decide) (by decide)]; exact b4 j hj⟩
    · by_cases hqc : q = c
      · rw [hqc, m11, us_at, us_at, mc]
        exact ⟨rfl, z1_1, fun _ => ⟨n0, t0, d0, hRc.row fun k hk => by rw [us_p (by decide), a2 k hk]⟩⟩
      · obtain ⟨c1, c2, c3⟩ := hS q hq
        rw [m11, us_k hqc, us_k hqc, a1 _ _ (by omega), mo _ (by omega) (by omega)]
        refine ⟨c1, c2, fun z => ?_⟩
        obtain ⟨n', t', d', e⟩ := c3 z
        exact ⟨n', t', d', e.row fun k hk => by rw [us_p (by decide), a1 _ _ (by omega)]⟩
    · rw [mo _ (by omega) (by omega)]
      obtain ⟨n', t', d', e⟩ := hH j hj
      exact ⟨n', t', d', e.row fun k hk => hM _ _ (by decide) (by decide)⟩
theorem s_restore {g : Nat} {μ : Mu} {M : Sv} {sl : Int32} (h : Iv g μ M) (hg : g + 28000 < 2 ^ 29) : StR g μ (p_X6_restore μ sl) (p_X7_restore M sl) := by
  have hS := h.2.2.2.2.1
  have hw := h.1
  unfold p_X6_restore p_X7_restore
  try dsimp only
  rw [in_w]
  by_cases hsl : p_X6_within sl 0 1 = 0
  · rw [if_pos hsl, if_pos hsl]
    exact ⟨rfl, h.mono (by omega), rfl⟩
  · rw [if_neg hsl, if_neg hsl]
    obtain ⟨c, hc, ec⟩ := within_idx (n := 1) rfl (by decide) hsl
    have hcc : cn sl = c := by rw [ec]; exact cn_nI (by omega)
    rw [hcc]
    obtain ⟨c1, c2, c3⟩ := hS c (by omega)
    rw [c1]
    by_cases h0 : M 5 c = 0
    · rw [if_pos h0, if_pos h0]
      exact ⟨rfl, h.mono (by omega), rfl⟩
    · rw [if_neg h0, if_neg h0]
      obtain ⟨n, t, d, hR⟩ := c3 (c2.resolve_left h0)
      obtain ⟨a1, a2⟩ := @rs_val M (p_X7_record M) sl c hcc 280
      generalize itN (q_X7_restore_30 M sl) 280 (p_X7_record M) = M5 at a1 a2 ⊢
      have p0 := h.p0
      have pc : p_X0_prepare μ (2 + c) = μ (2 + c) := pre_ne hw (Or.inl (by omega))
      rw [p0, pc, fo_at]
      have hRc : Rl g n t d (p_X3_copyFrom (μ 0) (μ (2 + c))) (M5 1) := (hR.copy (μ 0)).row fun k hk => by rw [a2 k hk, fr_record (by decide) (by decide)]
      have hz : Zb (p_X3_copyFrom (μ 0) (μ (2 + c))) := (ws_copy (hw.1 0 (by decide)) (hw.1 _ (by omega))).2
      generalize p_X3_copyFrom (μ 0) (μ (2 + c)) = C at hRc hz ⊢
      exact StR.chg (a := (C 0 0, C)) (b := (M5 1 7, M5)) h rfl ⟨hRc.hs.1.symm, Or.inr ⟨bn_ge0 hRc.tk (by omega), ⟨n, t, d, hRc.mono (by omega)⟩, a1⟩⟩ hz
/-! numbers: nothing changes -/
theorem n_ofLine {g : Nat} {μ : Mu} {M : Sv} {a b : Int32} (h : Iv g μ M) : p_X6_ofLine μ a b = p_X7_ofLine M a b := by
  obtain ⟨n, t, d, hR⟩ := h.2.1
  exact r_ofLine hR
theorem n_ofNest {g : Nat} {μ : Mu} {M : Sv} {a b : Int32} (h : Iv g μ M) : p_X6_ofNest μ a b = p_X7_ofNest M a b := by
  obtain ⟨n, t, d, hR⟩ := h.2.1
  exact r_ofNest hR
theorem n_ofTimer {g : Nat} {μ : Mu} {M : Sv} {a b : Int32} (h : Iv g μ M) : p_X6_ofTimer μ a b = p_X7_ofTimer M a b := by
  obtain ⟨n, t, d, hR⟩ := h.2.1
  exact r_ofTimer hR
theorem n_count {g : Nat} {μ : Mu} {M : Sv} {a : Int32} (h : Iv g μ M) : p_X6_count μ a = p_X7_count M a := by
  obtain ⟨n, t, d, hR⟩ := h.2.1
  obtain ⟨L, b1, b2, -⟩ := h.2.2.1
  obtain ⟨nx, u, -, -, -, e2, e3, -⟩ := h.2.2.2.2.2
  rw [r_count hR, b2, e3]
  unfold p_X6_count
  rw [b1, e2]
theorem n_bound {g : Nat} {μ : Mu} {M : Sv} {a : Int32} (h : Iv g μ M) : p_X6_bound μ a = p_X7_bound M a := by
  obtain ⟨n, t, d, hR⟩ := h.2.1
  exact r_bound hR
theorem n_load {g : Nat} {μ : Mu} {M : Sv} (h : Iv g μ M) : p_X6_load μ = p_X7_load M := by
  obtain ⟨n, t, d, hR⟩ := h.2.1
  exact r_load hR
/-! what the reference's contracts ask -/
theorem Iv.hu {g : Nat} {μ : Mu} {M : Sv} (h : Iv g μ M) : Bn (M 0 3) 6 := by
  obtain ⟨nx, u, -, hu, -, -, e3, -⟩ := h.2.2.2.2.2
  exact bn_of e3 hu (by decide)
theorem Iv.wm {g : Nat} {μ : Mu} {M : Sv} (h : Iv g μ M) : Wm M := by
  obtain ⟨n, t, d, hR⟩ := h.2.1
  exact hR.wm
theorem Iv.hsg {g : Nat} {μ : Mu} {M : Sv} (h : Iv g μ M) : Bn (M 0 7) 80 := by
  obtain ⟨L, -, b2, b3, -⟩ := h.2.2.1
  exact bn_of b2 b3 (by decide)
theorem Iv.hpz {g : Nat} {μ : Mu} {M : Sv} (h : Iv g μ M) : ∀ q, q < cn (M 1 9) → Bn (M 1 (260 + 3 * q + 1)) 200 ∧ 0 < cn (M 1 (260 + 3 * q + 1)) := by
  obtain ⟨n, t, d, hR⟩ := h.2.1
  intro q hq
  rw [hR.cn9] at hq
  obtain ⟨-, b1, -, -, p, p0, p1, p2⟩ := hR.2.2.2.1 q hq
  rw [b1, p2, cn_nI (by omega)]
  exact ⟨bnI (by omega) (by omega), p0⟩
