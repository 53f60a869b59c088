/-! carryOut, undo, save, restore -/
theorem zb_tk {S : Sv} {tk : Int32} (h : Zb S) : Zb (p_X3_passTicks S tk).2 := by
  have key : ∀ m, Zb (itN (q_X3_passTicks_16 S tk) m S) := by
    intro m
    induction m with
    | zero => exact h
    | succ m ih =>
      rw [itN_s]
      exact zb_pass ih
  unfold p_X3_passTicks
  try dsimp only
  split
  · exact h
  · exact key _
theorem zb_obey {μ : Mu} {sa en : Nat} (h : Zb (μ 0)) : Zb ((p_X6_obey μ sa en).2 0) := by
  have h1 := fun a => zb_raiseLine (ln := a) h
  have h2 := fun a b c => zb_holdLine (ln := a) (dv := b) (up := c) h
  have h3 := fun a b => zb_maskLine (ln := a) (i := b) h
  have h4 := fun a => zb_tk (tk := a) h
  have key : ∃ T, (p_X6_obey μ sa en).2 = fo μ 0 T ∧ Zb T := by
    unfold p_X6_obey
    try dsimp only
    generalize p_X3_raiseLine (μ 0) = f1 at h1 ⊢
    generalize p_X3_holdLine (μ 0) = f2 at h2 ⊢
    generalize p_X3_maskLine (μ 0) = f3 at h3 ⊢
    generalize p_X3_passTicks (μ 0) = f4 at h4 ⊢
    repeat' (first | refine iteR (P := fun z : Int32 × Mu => ∃ T, z.2 = fo μ 0 T ∧ Zb T) ?_ ?_ | exact ⟨_, rfl, h1 _⟩ | exact ⟨_, rfl, h2 _ _ _⟩ | exact ⟨_, rfl, h3 _ _⟩ | exact ⟨_, rfl, h4 _⟩)
  obtain ⟨T, e, w⟩ := key
  rw [e, fo_at]
  exact w
theorem zb_co {μ0 : Mu} : ∀ fu j (μ : Mu) v5 v6, Zb (μ 0) → Zb ((q_X6_carryOut_32 μ0 fu j μ v5 v6).2 0) := by
  intro fu
  induction fu with
  | zero =>
    intro j μ v5 v6 h
    unfold q_X6_carryOut_32
    try dsimp only
    rw [fo_ne _ _ (by decide), fo_ne _ _ (by decide)]
    exact h
  | succ fu ih =>
    intro j μ v5 v6 h
    unfold q_X6_carryOut_32
    try dsimp only
    split
    · exact ih _ _ _ _ h
    · split
      · exact ih _ _ _ _ (zb_obey h)
      · try dsimp only
        rw [fo_ne _ _ (by decide), fo_ne _ _ (by decide)]
        exact zb_obey h
theorem zb_carryOut {g : Nat} {μ : Mu} {M : Sv} (h : Iv g μ M) : Zb ((p_X6_carryOut μ).2 0) := by
  unfold p_X6_carryOut
  try dsimp only
  split
  · exact zb_co _ _ _ _ _ (by rw [h.p0]; exact h.zb)
  · exact h.zb
theorem rcu_cl {S : Sv} {v : Int32} (p k : Nat) : (p_X0_recordUnlessError (p_X2_clear S).2 v).2 p k = if p = 5 ∧ k = 1 then 0 else (p_X0_recordUnlessError S v).2 p k := by
  unfold p_X0_recordUnlessError p_X2_clear
  try dsimp only
  by_cases c : v < 0
  · rw [if_pos c, if_pos c]
    rfl
  · rw [if_neg c, if_neg c]
    simp only [us_p (show (3 : Nat) ≠ 5 by decide), us_k (show (2 : Nat) ≠ 1 by decide)]
    by_cases h : p = 5 ∧ k = 1
    · obtain ⟨rfl, rfl⟩ := h
      rw [if_pos (show (5 : Nat) = 5 ∧ (1 : Nat) = 1 from ⟨rfl, rfl⟩), us_p (by decide), us_p (by decide), us_at]
    · rw [if_neg h]
      unfold us
      simp only [if_neg h]
theorem s_carryOut {g : Nat} {μ : Mu} {M : Sv} (h : Iv g μ M) (hg : g + 28000 < 2 ^ 29) : StR g μ (p_X6_carryOut μ) (p_X7_carryOut M) := by
  obtain ⟨n, t, d, hR⟩ := h.2.1
  obtain ⟨L, hP⟩ := h.2.2.1
  have hz := zb_carryOut h
  rcases r_carryOut hP hR hg h.1 h.2.2.2.1 with ⟨-, Y, hY, hC⟩ | ⟨-, q1, q2, q3⟩
  · have hIY : Iv g μ Y := h.sideM (fun k hk => hY _ _ (by omega) (by decide)) (fun p k _ _ p7 p0 => hY p k p0 p7)
    generalize p_X6_carryOut μ = a at hC hz ⊢
    generalize p_X7_carryOut M = b at hC ⊢
    obtain ⟨j, j1, j2, j3, ⟨n', t', d', j4⟩, j5, j6, j7⟩ := hC
    have p11 : p_X0_prepare μ 11 = μ 11 := pre_ne h.1 (Or.inr (by decide))
    have p13 : p_X0_prepare μ 13 = μ 13 := pre_ne h.1 (Or.inr (by decide))
    rw [p11] at j5
    have hb1 : (fun p k => if p = 1 then b.2 1 k else p_X7_record Y p k : Sv) 1 = b.2 1 := funext fun k => if_pos rfl
    have hO : OpR (g + 27000) (μ 0) Y (nI j, a.2 0) (nI j, fun p k => if p = 1 then b.2 1 k else p_X7_record Y p k) :=
      ⟨rfl, Or.inr ⟨nI_pos' (by omega), ⟨n', t', d', by show Rl _ n' t' d' (a.2 0) ((fun p k => if p = 1 then b.2 1 k else p_X7_record Y p k : Sv) 1); rw [hb1]; exact j4⟩, fun p k hp => if_neg hp⟩⟩
    obtain ⟨-, c2, -⟩ := hIY.chg (by omega) hO hz
    have m11 : (chgF μ (nI j, a.2 0)).2 11 = (p_X0_recordUnlessError (μ 11) (nI j)).2 := by
      unfold chgF
      try dsimp only
      rw [fo_at, fo_ne _ _ (by decide), p11]
    have key := c2.side11 (L := 0) (S' := a.2 11) (M' := b.2) ?_ ?_ ?_ ?_
    · refine ⟨j2.trans j3.symm, ?_, (j6 13 (by decide) (by decide)).trans p13⟩
      have e : fo (chgF μ (nI j, a.2 0)).2 11 (a.2 11) = a.2 := funext fun q => by
        by_cases q11 : q = 11
        · rw [q11, fo_at]
        · rw [fo_ne _ _ q11]
          unfold chgF
          try dsimp only
          rw [fo_ne _ _ q11]
          by_cases q0 : q = 0
          · rw [q0, fo_at]
          · rw [fo_ne _ _ q0, j6 q q0 q11]
      rw [e] at key
      exact key.mono (by omega)
    · refine ⟨by rw [j5, rcu_cl, if_pos ⟨rfl, rfl⟩]; rfl, by rw [j7 _ _ (by decide), us_at]; rfl, by omega, fun j hj => by omega⟩
    · intro p k _ hk
      rw [j5, rcu_cl, if_neg hk, m11]
    · intro p k _ hk
      show b.2 p k = if p = 1 then b.2 1 k else p_X7_record Y p k
      by_cases p1 : p = 1
      · rw [if_pos p1, p1]
      · rw [if_neg p1, j7 p k p1, us_ne _ _ hk]
        by_cases p8 : p = 0 ∧ k = 8
        · obtain ⟨rfl, rfl⟩ := p8
          rw [us_at, fr_rec (by decide) (by decide), hY _ _ (by decide) (by decide), h.2.2.2.1]
        · exact us_ne _ _ p8
    · intro j' hj'
      have e6 : a.2 11 6 j' = μ 11 6 j' := by
        rw [j5, rcu_cl, if_neg (by omega)]
        unfold p_X0_recordUnlessError
        try dsimp only
        split
        · rfl
        · rw [us_p (by decide), us_p (by decide)]
      rw [e6]
      exact h.1.2.2.2.2.1 j' hj'
  · unfold StR
    rw [q1, q2]
    exact ⟨rfl, (h.sideM (fun k hk => q3 _ _ (by omega) (by decide)) (fun p k _ _ p7 p0 => q3 p k p0 p7)).mono (by omega), rfl⟩
/-! undo -/
theorem ud_val {M S0 : Sv} {u : Nat} (hu : cn (M 0 3) = u) : ∀ m, (∀ k, k < m → itN (q_X7_undo_22 M) m S0 1 k = S0 3 ((u - 1) * 280 + k)) := by
  intro m
  induction m with
  | zero => intro k hk; omega
  | succ m ih =>
    rw [itN_s]
    have i3 : ∀ k, itN (q_X7_undo_22 M) m S0 3 k = S0 3 k := fun k => ud_keep m 3 k (by decide)
    generalize itN (q_X7_undo_22 M) m S0 = σ at ih i3 ⊢
    unfold q_X7_undo_22
    try dsimp only
    rw [hu]
    intro k hk
    by_cases hkm : k = m
    · rw [hkm, us_at]; exact i3 _
    · rw [us_k hkm]; exact ih k (by omega)
theorem s_undo {g : Nat} {μ : Mu} {M : Sv} (h : Iv g μ M) : StR g μ (p_X6_undo μ) (p_X7_undo M) := by
  obtain ⟨hw, ⟨n0, t0, d0, hR⟩, ⟨L, hP⟩, h8, hS, nx, u, hnx, hu, e1, e2, e3, hH⟩ := id (h.mono (show g ≤ g + 28000 by omega))
  obtain ⟨w1, w2, w3, w4, w5, w6, w7⟩ := id hw
  unfold StR p_X6_undo p_X0_takeBack p_X7_undo
  try dsimp only
  by_cases hu0 : u = 0
  · have z1 : μ 11 3 2 = 0 := by rw [e2, hu0]; rfl
    have z2 : M 0 3 = 0 := by rw [e3, hu0]; rfl
    rw [if_pos z1, if_pos z2]
    exact ⟨rfl, h.mono (by omega), rfl⟩
  · have z1 : ¬ μ 11 3 2 = 0 := by rw [e2]; exact nI_ne0 (by omega) (by omega)
    have z2 : ¬ M 0 3 = 0 := by rw [e3]; exact nI_ne0 (by omega) (by omega)
    have eu : nI u - 1 = nI (u - 1) := isb (a := u) (b := 1) rfl rfl (by omega)
    have ex : (if nI nx ≤ 0 then (7 : Int32) - 1 else nI nx - 1) = nI ((nx + 6) % 7) := by
      by_cases hx : nx = 0
      · rw [hx, if_pos (by decide)]; rfl
      · rw [if_neg (nI_nle (by omega) (by omega)), show nI nx - 1 = nI (nx - 1) from isb (a := nx) (b := 1) rfl rfl (by omega)]
        congr 1
        omega
    rw [if_neg z1, if_neg z2]
    simp only [fo_at, us_k (show (1 : Nat) ≠ 2 by decide), e1, e2, e3, eu, ex, fo_ne _ _ (show (0 : Nat) ≠ 11 by decide), fo_ne _ _ (show (11 : Nat) ≠ 0 by decide), us_at]
    have hc : cn (nI ((nx + 6) % 7)) = (nx + 6) % 7 := cn_nI (by omega)
    have hcu : cn (M 0 3) = u := by rw [e3]; exact cn_nI (by omega)
    rw [hc]
    have mm : ∀ P Q : Sv, fo (fo μ 11 P) 11 Q (4 + (nx + 6) % 7) = μ (4 + (nx + 6) % 7) := fun P Q => by rw [fo_ne _ _ (by omega), fo_ne _ _ (by omega)]
    rw [mm, us_k (show (2 : Nat) ≠ 1 by decide), us_at]
    have hud := @ud_val M (us M 0 3 (nI (u - 1))) u hcu 280
    have huk : ∀ p k, ¬ p = 1 → itN (q_X7_undo_22 M) 280 (us M 0 3 (nI (u - 1))) p k = us M 0 3 (nI (u - 1)) p k := fun p k hp => ud_keep 280 p k hp
    generalize itN (q_X7_undo_22 M) 280 (us M 0 3 (nI (u - 1))) = M3 at hud huk ⊢
    have hM : ∀ p k, ¬ p = 1 → ¬ (p = 0 ∧ k = 3) → M3 p k = M p k := fun p k p1 p0 => by rw [huk p k p1, us_ne _ _ p0]
    obtain ⟨n1, t1, d1, hb⟩ := hH (u - 1) (by omega)
    rw [show 4 + (nx + 7 - u + (u - 1)) % 7 = 4 + (nx + 6) % 7 by omega] at hb
    have hcp : Ws (p_X3_copyFrom (μ 0) (μ (4 + (nx + 6) % 7))) := ws_copy (w1 _ (by omega)) (w1 _ (by omega))
    have hbc := hb.copy (μ 0)
    generalize p_X3_copyFrom (μ 0) (μ (4 + (nx + 6) % 7)) = C at hcp hbc ⊢
    have hP' : ∀ p k, ¬ (p = 3 ∧ (k = 1 ∨ k = 2)) → us (us (μ 11) 3 2 (nI (u - 1))) 3 1 (nI ((nx + 6) % 7)) p k = μ 11 p k := fun p k hk => by rw [us_ne _ _ (by omega), us_ne _ _ (by omega)]
    have hP1 : us (us (μ 11) 3 2 (nI (u - 1))) 3 1 (nI ((nx + 6) % 7)) 3 1 = nI ((nx + 6) % 7) := us_at _ _ _ _
    have hP2 : us (us (μ 11) 3 2 (nI (u - 1))) 3 1 (nI ((nx + 6) % 7)) 3 2 = nI (u - 1) := by rw [us_k (by decide), us_at]
    generalize us (us (μ 11) 3 2 (nI (u - 1))) 3 1 (nI ((nx + 6) % 7)) = P at hP' hP1 hP2 ⊢
    have m0 : ∀ Q, fo (fo (fo μ 11 Q) 11 P) 0 C 0 = C := fun Q => fo_at _ _ _
    have m11 : ∀ Q, fo (fo (fo μ 11 Q) 11 P) 0 C 11 = P := fun Q => by rw [fo_ne _ _ (by decide), fo_at]
    have mo : ∀ Q q, ¬ q = 0 → ¬ q = 11 → fo (fo (fo μ 11 Q) 11 P) 0 C q = μ q := fun Q q q0 q1 => by rw [fo_ne _ _ q0, fo_ne _ _ q1, fo_ne _ _ q1]
    refine ⟨by rw [huk _ _ (by decide), us_at], ⟨⟨fun r hr => ?_, by rw [m11]; exact bn_of hP1 (by omega) (by decide), by rw [m11]; exact bn_of hP2 (by omega) (by decide), by rw [m11, hP' _ _ (by omega)]; exact w4, fun j hj => by rw [m11, hP' _ _ (by omega)]; exact w5 j hj, by rw [mo _ _ (by decide) (by decide)]; exact w6, by rw [mo _ _ (by decide) (by decide)]; exact w7⟩, ⟨n1, t1, d1, by rw [m0]; exact hbc.row fun k hk => by rw [hud k hk, us_p (by decide)]⟩, ⟨L, ?_⟩, by rw [hM _ _ (by decide) (by decide)]; exact h8, fun q hq => ?_, (nx + 6) % 7, u - 1, by omega, by omega, by rw [m11]; exact hP1, by rw [m11]; exact hP2, by rw [huk _ _ (by decide), us_at], fun j hj => ?_⟩, mo _ _ (by decide) (by decide)⟩
    · by_cases r0 : r = 0
      · rw [r0, m0]; exact hcp
      · rw [mo _ _ r0 (by omega)]; exact w1 r hr
    · obtain ⟨b1, b2, b3, b4⟩ := hP
      rw [m11]
      exact ⟨by rw [hP' _ _ (by omega)]; exact b1, by rw [hM _ _ (by decide) (by decide)]; exact b2, b3, fun j hj => by rw [hP' _ _ (by omega), hM _ _ (by decide) (by omega)]; exact b4 j hj⟩
    · obtain ⟨c1, c2, c3⟩ := hS q hq
      rw [m11, hP' _ _ (by omega), mo _ _ (by omega) (by omega), hM 5 q (by decide) (by omega)]
      refine ⟨c1, c2, fun z => ?_⟩
      obtain ⟨n', t', d', e⟩ := c3 z
      exact ⟨n', t', d', e.row fun k hk => hM _ _ (by decide) (by omega)⟩
    · obtain ⟨n', t', d', e⟩ := hH j (by omega)
      rw [show 4 + ((nx + 6) % 7 + 7 - (u - 1) + j) % 7 = 4 + (nx + 7 - u + j) % 7 by omega, mo _ _ (by omega) (by omega)]
      exact ⟨n', t', d', e.row fun k hk => hM _ _ (by decide) (by omega)⟩
