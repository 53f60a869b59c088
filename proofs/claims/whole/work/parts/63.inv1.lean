/-! what is recorded -/
theorem r55_val {S S7 S0 : Sv} {c : Nat} (hc : cn (S7 0 3) = c) : ∀ m, (∀ k, ¬ (c * 280 ≤ k ∧ k < c * 280 + m) → itN (q_X7_record_55 S S7) m S0 3 k = S0 3 k) ∧ ∀ k, k < m → itN (q_X7_record_55 S S7) m S0 3 (c * 280 + k) = S0 1 k := by
  intro m
  induction m with
  | zero => exact ⟨fun k _ => rfl, fun k h => by omega⟩
  | succ m ih =>
    rw [itN_s]
    obtain ⟨i1, i2⟩ := ih
    have i3 : ∀ k, itN (q_X7_record_55 S S7) m S0 1 k = S0 1 k := fun k => rec_keep m 1 k (by decide)
    generalize itN (q_X7_record_55 S S7) m S0 = σ at i1 i2 i3 ⊢
    unfold q_X7_record_55
    try dsimp only
    rw [hc]
    refine ⟨fun k hk => ?_, fun k hk => ?_⟩
    · rw [us_k (by omega)]
      exact i1 k (by omega)
    · by_cases hkm : k = m
      · rw [hkm, us_at]
        exact i3 m
      · rw [us_k (by omega)]
        exact i2 k (by omega)
theorem r19_val {S S0 : Sv} : ∀ m, (∀ k, m ≤ k → itN (q_X7_record_19 S) m S0 3 k = S0 3 k) ∧ ∀ k, k < m → itN (q_X7_record_19 S) m S0 3 k = S0 3 (k + 280) := by
  intro m
  induction m with
  | zero => exact ⟨fun k _ => rfl, fun k h => by omega⟩
  | succ m ih =>
    rw [itN_s]
    obtain ⟨i1, i2⟩ := ih
    generalize itN (q_X7_record_19 S) m S0 = σ at i1 i2 ⊢
    unfold q_X7_record_19
    try dsimp only
    refine ⟨fun k hk => ?_, fun k hk => ?_⟩
    · rw [us_k (by omega)]
      exact i1 k (by omega)
    · by_cases hkm : k = m
      · rw [hkm, us_at]
        exact i1 _ (by omega)
      · rw [us_k (by omega)]
        exact i2 k (by omega)
theorem rec_val {S : Sv} {u : Nat} (h8 : S 0 8 = 0) (hu : S 0 3 = nI u) (hu6 : u ≤ 6) :
    (u < 6 → p_X7_record S 0 3 = nI (u + 1) ∧ (∀ k, k < u * 280 → p_X7_record S 3 k = S 3 k) ∧ ∀ k, k < 280 → p_X7_record S 3 (u * 280 + k) = S 1 k) ∧
    (u = 6 → p_X7_record S 0 3 = nI 6 ∧ (∀ k, k < 1400 → p_X7_record S 3 k = S 3 (k + 280)) ∧ ∀ k, k < 280 → p_X7_record S 3 (1400 + k) = S 1 k) := by
  unfold p_X7_record
  try dsimp only
  rw [if_pos h8]
  refine ⟨fun hlt => ?_, fun he => ?_⟩
  · rw [if_neg (show ¬ S 0 3 = 6 from fun z => by rw [hu] at z; have := nI_inj (b := 6) z; omega)]
    have hc : cn (S 0 3) = u := by rw [hu]; exact cn_nI (by omega)
    obtain ⟨a, b⟩ := @r55_val S S S u hc 280
    have c : ∀ p k, ¬ p = 3 → itN (q_X7_record_55 S S) 280 S p k = S p k := fun p k hp => rec_keep 280 p k hp
    refine ⟨by rw [us_at, c _ _ (by decide), hu, nI_1], fun k hk => ?_, fun k hk => ?_⟩
    · rw [us_p (by decide)]; exact a k (by omega)
    · rw [us_p (by decide)]; exact b k hk
  · rw [if_pos (show S 0 3 = 6 by rw [hu, he]; rfl)]
    have hc : cn (us (itN (q_X7_record_19 S) 1400 S) 0 3 5 0 3) = 5 := by rw [us_at]; decide
    obtain ⟨a, b⟩ := @r55_val S (us (itN (q_X7_record_19 S) 1400 S) 0 3 5) (us (itN (q_X7_record_19 S) 1400 S) 0 3 5) 5 hc 280
    obtain ⟨a', b'⟩ := @r19_val S S 1400
    have c' : ∀ p k, ¬ p = 3 → itN (q_X7_record_19 S) 1400 S p k = S p k := fun p k hp => rec1_keep 1400 p k hp
    have c : ∀ p k, ¬ p = 3 → itN (q_X7_record_55 S (us (itN (q_X7_record_19 S) 1400 S) 0 3 5)) 280 (us (itN (q_X7_record_19 S) 1400 S) 0 3 5) p k = us (itN (q_X7_record_19 S) 1400 S) 0 3 5 p k := fun p k hp => rec_keep 280 p k hp
    refine ⟨by rw [us_at, c _ _ (by decide), us_at]; rfl, fun k hk => ?_, fun k hk => ?_⟩
    · rw [us_p (by decide), a k (by omega), us_p (by decide)]
      exact b' k hk
    · rw [us_p (by decide), b k hk, us_p (by decide)]
      exact c' 1 k (by decide)
/-! all of both sides -/
def HsR (g : Nat) (μ : Mu) (M : Sv) : Prop := ∃ nx u, nx ≤ 6 ∧ u ≤ 6 ∧ μ 11 3 1 = nI nx ∧ μ 11 3 2 = nI u ∧ M 0 3 = nI u ∧ ∀ j, j < u → ∃ n t d, Rl g n t d (μ (4 + (nx + 7 - u + j) % 7)) (fun k => M 3 (j * 280 + k))
def SlR (g : Nat) (μ : Mu) (M : Sv) : Prop := ∀ q, q < 2 → μ 11 2 q = M 5 q ∧ Z1 (M 5 q) ∧ (M 5 q = 1 → ∃ n t d, Rl g n t d (μ (2 + q)) (fun k => M 4 (q * 280 + k)))
def Iv (g : Nat) (μ : Mu) (M : Sv) : Prop := Wc μ ∧ (∃ n t d, Rl g n t d (μ 0) (M 1)) ∧ (∃ L, PdR L (μ 11) M) ∧ M 0 8 = 0 ∧ SlR g μ M ∧ HsR g μ M
theorem Iv.mono {g g' : Nat} {μ : Mu} {M : Sv} (h : Iv g μ M) (hg : g ≤ g') : Iv g' μ M := by
  obtain ⟨h1, ⟨n, t, d, h2⟩, h3, h4, h5, nx, u, h6, h7, h8, h9, h10, h11⟩ := h
  refine ⟨h1, ⟨n, t, d, h2.mono hg⟩, h3, h4, fun q hq => ?_, nx, u, h6, h7, h8, h9, h10, fun j hj => ?_⟩
  · obtain ⟨a, b, c⟩ := h5 q hq
    refine ⟨a, b, fun z => ?_⟩
    obtain ⟨n, t, d, e⟩ := c z
    exact ⟨n, t, d, e.mono hg⟩
  · obtain ⟨n, t, d, e⟩ := h11 j hj
    exact ⟨n, t, d, e.mono hg⟩
/-- the reference's parts that count -/
theorem Iv.sideM {g : Nat} {μ : Mu} {M M' : Sv} (h : Iv g μ M) (h1 : ∀ k, k < 280 → M' 1 k = M 1 k) (h2 : ∀ p k, ¬ p = 1 → ¬ p = 2 → ¬ p = 7 → ¬ (p = 0 ∧ (k = 10 ∨ k = 11 ∨ k = 12)) → M' p k = M p k) : Iv g μ M' := by
  obtain ⟨a1, ⟨n, t, d, a2⟩, ⟨L, b1, b2, b3, b4⟩, a4, a5, nx, u, a6, a7, a8, a9, a10, a11⟩ := h
  refine ⟨a1, ⟨n, t, d, a2.row h1⟩, ⟨L, b1, by rw [h2 _ _ (by decide) (by decide) (by decide) (by omega)]; exact b2, b3, fun j hj => by rw [h2 _ _ (by decide) (by decide) (by decide) (by omega)]; exact b4 j hj⟩, by rw [h2 _ _ (by decide) (by decide) (by decide) (by omega)]; exact a4, fun q hq => ?_, nx, u, a6, a7, a8, a9, by rw [h2 _ _ (by decide) (by decide) (by decide) (by omega)]; exact a10, fun j hj => ?_⟩
  · obtain ⟨c1, c2, c3⟩ := a5 q hq
    have e5 : M' 5 q = M 5 q := h2 _ _ (by decide) (by decide) (by decide) (by omega)
    rw [e5]
    refine ⟨c1, c2, fun z => ?_⟩
    obtain ⟨n, t, d, e⟩ := c3 z
    exact ⟨n, t, d, e.row fun k hk => h2 _ _ (by decide) (by decide) (by decide) (by omega)⟩
  · obtain ⟨n, t, d, e⟩ := a11 j hj
    exact ⟨n, t, d, e.row fun k hk => h2 _ _ (by decide) (by decide) (by decide) (by omega)⟩
/-- a forecast: the trial alone is written -/
theorem Iv.trial {g : Nat} {μ μ' : Mu} {M : Sv} (h : Iv g μ M) (h1 : ∀ q, ¬ q = 1 → μ' q = μ q) (hw : Ws (μ' 1)) : Iv g μ' M := by
  obtain ⟨⟨w1, w2, w3, w4, w5, w6, w7⟩, a2, a3, a4, a5, nx, u, a6, a7, a8, a9, a10, a11⟩ := h
  have e0 : μ' 0 = μ 0 := h1 0 (by decide)
  have e11 : μ' 11 = μ 11 := h1 11 (by decide)
  have e12 : μ' 12 = μ 12 := h1 12 (by decide)
  refine ⟨⟨fun r hr => ?_, by rw [e11]; exact w2, by rw [e11]; exact w3, by rw [e11]; exact w4, by rw [e11]; exact w5, by rw [e12]; exact w6, by rw [e12]; exact w7⟩, by rw [e0]; exact a2, by rw [e11]; exact a3, a4, fun q hq => ?_, nx, u, a6, a7, by rw [e11]; exact a8, by rw [e11]; exact a9, a10, fun j hj => ?_⟩
  · by_cases hr1 : r = 1
    · rw [hr1]; exact hw
    · rw [h1 r hr1]; exact w1 r hr
  · rw [e11, h1 (2 + q) (by omega)]; exact a5 q hq
  · rw [h1 _ (by omega)]; exact a11 j hj
/-! a change: both sides -/
def chgF (μ : Mu) (a : Int32 × Sv) : Int32 × Mu := ((p_X0_recordUnlessError ((fo (p_X0_prepare μ) 0 a.2) 11) a.1).1, fo (fo (p_X0_prepare μ) 0 a.2) 11 (p_X0_recordUnlessError ((fo (p_X0_prepare μ) 0 a.2) 11) a.1).2)
theorem rcu_1 {S : Sv} {a : Int32} : (p_X0_recordUnlessError S a).1 = a := rfl
theorem rcu_err {S : Sv} {a : Int32} (h : a < 0) : (p_X0_recordUnlessError S a).2 = S := by
  unfold p_X0_recordUnlessError
  try dsimp only
  rw [if_pos h]
theorem rcu_ok {S : Sv} {a : Int32} {nx u : Nat} (h : 0 ≤ a) (h1 : S 3 1 = nI nx) (h2 : S 3 2 = nI u) (hn : nx ≤ 6) (hu : u ≤ 6) :
    (p_X0_recordUnlessError S a).2 3 1 = nI ((nx + 1) % 7) ∧ (p_X0_recordUnlessError S a).2 3 2 = nI (if u < 6 then u + 1 else 6) ∧ ∀ p k, ¬ (p = 3 ∧ (k = 1 ∨ k = 2)) → (p_X0_recordUnlessError S a).2 p k = S p k := by
  unfold p_X0_recordUnlessError
  try dsimp only
  rw [if_neg (Int32.not_lt.mpr h), us_k (p := 3) (k := 1) (p' := 3) (k' := 2) (by decide), h1, h2]
  refine ⟨?_, ?_, fun p k hp => by rw [us_ne _ _ (by omega), us_ne _ _ (by omega)]⟩
  · rw [us_k (by decide), us_at]
    by_cases hx : nx = 6
    · rw [if_pos (by rw [hx]; decide), hx]; rfl
    · rw [nI_1, if_neg (show ¬ (7 : Int32) ≤ nI (nx + 1) from nI_ge (b := 7) (by omega) (by decide)), Nat.mod_eq_of_lt (by omega)]
  · rw [us_at]
    by_cases hx : u = 6
    · rw [if_pos (by rw [hx]; decide), if_neg (by omega)]; rfl
    · rw [if_neg (show ¬ (6 : Int32) ≤ nI u from nI_ge (b := 6) (by omega) (by decide)), if_pos (by omega), nI_1]
theorem ws_wb {S : Sv} (h : Ws S) : Zb S := h.2
theorem Iv.chg {g g' : Nat} {μ : Mu} {M : Sv} {a b : Int32 × Sv} (h : Iv g μ M) (hg : g ≤ g') (hO : OpR g' (μ 0) M a b) (hz : Zb a.2) : (chgF μ a).1 = b.1 ∧ Iv g' (chgF μ a).2 b.2 ∧ (chgF μ a).2 13 = μ 13 := by
  obtain ⟨hw, ⟨n0, t0, d0, hR⟩, ⟨L, hP⟩, h8, hS, nx, u, hnx, hu, e1, e2, e3, hH⟩ := id (h.mono hg)
  obtain ⟨w1, w2, w3, w4, w5, w6, w7⟩ := id hw
  obtain ⟨o1, o2⟩ := hO
  have hcn : cn (μ 11 3 1) = nx := by rw [e1]; exact cn_nI (by omega)
  have pre : p_X0_prepare μ = fo μ (4 + nx) (p_X3_copyFrom (μ (4 + nx)) (μ 0)) := by
    unfold p_X0_prepare
    try dsimp only
    rw [hcn]
  have hcp : Ws (p_X3_copyFrom (μ (4 + nx)) (μ 0)) := ws_copy (w1 _ (by omega)) (w1 _ (by omega))
  have hRc : Rl g' n0 t0 d0 (p_X3_copyFrom (μ (4 + nx)) (μ 0)) (M 1) := hR.copy _
  unfold chgF
  try dsimp only
  rw [pre]
  generalize p_X3_copyFrom (μ (4 + nx)) (μ 0) = C at hcp hRc ⊢
  have p11 : fo (fo μ (4 + nx) C) 0 a.2 11 = μ 11 := by rw [fo_ne _ _ (by decide), fo_ne _ _ (by omega)]
  rw [p11, rcu_1]
  refine ⟨o1, ?_, by rw [fo_ne _ _ (by decide), fo_ne _ _ (by decide), fo_ne _ _ (by omega)]⟩
  have m0 : ∀ R, fo (fo (fo μ (4 + nx) C) 0 a.2) 11 R 0 = a.2 := fun R => by rw [fo_ne _ _ (by decide), fo_at]
  have mx : ∀ R, fo (fo (fo μ (4 + nx) C) 0 a.2) 11 R (4 + nx) = C := fun R => by rw [fo_ne _ _ (by omega), fo_ne _ _ (by omega), fo_at]
  have mo : ∀ R q, ¬ q = 0 → ¬ q = 11 → ¬ q = 4 + nx → fo (fo (fo μ (4 + nx) C) 0 a.2) 11 R q = μ q := fun R q q1 q2 q3 => by rw [fo_ne _ _ q2, fo_ne _ _ q1, fo_ne _ _ q3]
  have m11 : ∀ R, fo (fo (fo μ (4 + nx) C) 0 a.2) 11 R 11 = R := fun R => fo_at _ _ _
  generalize hμ' : (fun R => fo (fo (fo μ (4 + nx) C) 0 a.2) 11 R) = F
  have hF : ∀ R, fo (fo (fo μ (4 + nx) C) 0 a.2) 11 R = F R := fun R => by rw [← hμ']
  simp only [hF] at m0 mx mo m11 ⊢
  clear hF hμ'
  rcases o2 with ⟨q1, q2, q3⟩ | ⟨q1, ⟨n, t, d, q2⟩, q3⟩
  · rw [rcu_err q1, q3]
    refine ⟨⟨fun r hr => ?_, by rw [m11]; exact w2, by rw [m11]; exact w3, by rw [m11]; exact w4, by rw [m11]; exact w5, by rw [mo _ _ (by decide) (by decide) (by omega)]; exact w6, by rw [mo _ _ (by decide) (by decide) (by omega)]; exact w7⟩, ⟨n0, t0, d0, by rw [m0, q2]; exact hR⟩, ⟨L, by rw [m11]; exact hP⟩, h8, fun q hq => by rw [m11, mo _ _ (by omega) (by omega) (by omega)]; exact hS q hq, nx, u, hnx, hu, by rw [m11]; exact e1, by rw [m11]; exact e2, e3, fun j hj => by rw [mo _ _ (by omega) (by omega) (by omega)]; exact hH j hj⟩
    by_cases r0 : r = 0
    · rw [r0, m0, q2]; exact w1 0 (by omega)
    · by_cases rx : r = 4 + nx
      · rw [rx, mx]; exact hcp
      · rw [mo _ _ r0 (by omega) rx]; exact w1 r hr
  · obtain ⟨v1, v2, v3⟩ := rcu_ok q1 e1 e2 hnx hu
    generalize (p_X0_recordUnlessError (μ 11) a.1).2 = R at v1 v2 v3 ⊢
    have q4 : ∀ p k, ¬ p = 1 → ¬ p = 3 → ¬ (p = 0 ∧ k = 3) → b.2 p k = M p k := fun p k p1 p3 p0 => by rw [q3 p k p1, fr_rec p0 p3]
    obtain ⟨x1, x2⟩ := rec_val h8 e3 hu
    refine ⟨⟨fun r hr => ?_, by rw [m11]; exact bn_of v1 (by omega) (by decide), by rw [m11]; exact bn_of v2 (by split <;> omega) (by decide), by rw [m11, v3 _ _ (by omega)]; exact w4, fun j hj => by rw [m11, v3 _ _ (by omega)]; exact w5 j hj, by rw [mo _ _ (by decide) (by decide) (by omega)]; exact w6, by rw [mo _ _ (by decide) (by decide) (by omega)]; exact w7⟩, ⟨n, t, d, by rw [m0]; exact q2⟩, ⟨L, ?_⟩, by rw [q4 _ _ (by decide) (by decide) (by omega)]; exact h8, fun q hq => ?_, (nx + 1) % 7, (if u < 6 then u + 1 else 6), by omega, by split <;> omega, by rw [m11]; exact v1, by rw [m11]; exact v2, ?_, fun j hj => ?_⟩
    · by_cases r0 : r = 0
      · rw [r0, m0]; exact ⟨q2.wf, hz⟩
      · by_cases rx : r = 4 + nx
        · rw [rx, mx]; exact hcp
        · rw [mo _ _ r0 (by omega) rx]; exact w1 r hr
    · obtain ⟨b1, b2, b3, b4⟩ := hP
      rw [m11]
      exact ⟨by rw [v3 _ _ (by omega)]; exact b1, by rw [q4 _ _ (by decide) (by decide) (by omega)]; exact b2, b3, fun j hj => by rw [v3 _ _ (by omega), q4 _ _ (by decide) (by decide) (by omega)]; exact b4 j hj⟩
    · obtain ⟨c1, c2, c3⟩ := hS q hq
      rw [m11, v3 _ _ (by omega), mo _ _ (by omega) (by omega) (by omega), q4 _ _ (by decide) (by decide) (by omega)]
      refine ⟨c1, c2, fun z => ?_⟩
      obtain ⟨n', t', d', e⟩ := c3 z
      exact ⟨n', t', d', e.row fun k hk => q4 _ _ (by decide) (by decide) (by omega)⟩
    · rw [q3 _ _ (by decide)]
      by_cases hu6 : u < 6
      · rw [if_pos hu6]; exact (x1 hu6).1
      · rw [if_neg hu6]; exact (x2 (by omega)).1
    · by_cases hu6 : u < 6
      · rw [if_pos hu6] at hj ⊢
        obtain ⟨-, y2, y3⟩ := x1 hu6
        by_cases hju : j = u
        · rw [show 4 + ((nx + 1) % 7 + 7 - (u + 1) + j) % 7 = 4 + nx by omega, mx, hju]
          exact ⟨n0, t0, d0, hRc.row fun k hk => by rw [q3 _ _ (by decide), y3 k hk]⟩
        · obtain ⟨n', t', d', e⟩ := hH j (by omega)
          rw [show 4 + ((nx + 1) % 7 + 7 - (u + 1) + j) % 7 = 4 + (nx + 7 - u + j) % 7 by omega, mo _ _ (by omega) (by omega) (by omega)]
          exact ⟨n', t', d', e.row fun k hk => by rw [q3 _ _ (by decide), y2 _ (by omega)]⟩
      · rw [if_neg hu6] at hj ⊢
        have hu6' : u = 6 := by omega
        obtain ⟨-, y2, y3⟩ := x2 hu6'
        by_cases hju : j = 5
        · rw [show 4 + ((nx + 1) % 7 + 7 - 6 + j) % 7 = 4 + nx by omega, mx, hju]
          exact ⟨n0, t0, d0, hRc.row fun k hk => by rw [q3 _ _ (by decide), y3 k hk]⟩
        · obtain ⟨n', t', d', e⟩ := hH (j + 1) (by omega)
          rw [show 4 + ((nx + 1) % 7 + 7 - 6 + j) % 7 = 4 + (nx + 7 - u + (j + 1)) % 7 by omega, mo _ _ (by omega) (by omega) (by omega)]
          exact ⟨n', t', d', e.row fun k hk => by rw [q3 _ _ (by decide), y2 _ (by omega), show j * 280 + k + 280 = (j + 1) * 280 + k by omega]⟩
