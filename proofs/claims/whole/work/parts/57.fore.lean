/-! forecasts, both sides -/
def Nj (x : Int32) : Prop := x = (-6) ∨ ∃ j, j < 601 ∧ x = nI j
theorem r_ub {g0 n t i : Nat} {S0 M0 : Sv} {ln x1 : Int32} {mo mo' : Nat} (hln : ln = nI i) (hi : i < n) : ∀ fu j g d (S M : Sv), Rl g n t d S (M 1) → g + 2 * fu < 2 ^ 29 → j + fu ≤ 600 → M 1 (20 + 16 * i + 10) = x1 →
    (q_X3_ticksUntilBegin_2 S0 ln mo fu j S).1 = (q_X7_beginsWithin_11 M0 i mo' x1 fu j M).1 ∧ Nj (q_X3_ticksUntilBegin_2 S0 ln mo fu j S).1 := by
  intro fu
  induction fu with
  | zero => intro j g d S M _ _ _ _; exact ⟨rfl, Or.inl rfl⟩
  | succ fu ih =>
    intro j g d S M h hg hj hx
    have hn := h.n12
    obtain ⟨d', h1, h2, h3⟩ := r_pass h (by omega)
    obtain ⟨⟨-, -, -, -, -, -, -, -, -, -, w10, -⟩, -⟩ := h.2.1 i hi
    obtain ⟨⟨-, -, -, -, -, -, -, -, -, -, v10, -⟩, -, -, -, -, -, -, -, i11⟩ := h1.2.1 i hi
    obtain ⟨-, -, -, -, -, -, -, -, o11⟩ := h.2.1 i hi
    have h3i := h3 i hi
    unfold q_X3_ticksUntilBegin_2 q_X7_beginsWithin_11 p_X7_of
    try dsimp only
    rw [v10, h3i, hln]
    by_cases c : (p_X3_passTick S).1 = nI i
    · rw [if_pos c, if_pos c, ← w10, hx, if_neg]
      · exact ⟨rfl, Or.inr ⟨j, by omega, rfl⟩⟩
      · rw [← hx, w10]
        obtain ⟨b, hb, eb⟩ := bn_to o11
        rw [eb, nI_1]
        exact nI_ge (by omega) (by omega)
    · rw [if_neg c, if_neg c, ← w10, hx, if_pos (Int32.le_refl x1)]
      have := ih (j + 1) (g + 2) d' (p_X3_passTick S).2 (p_X7_pass M) h1 (by omega) (by omega) (by rw [v10, h3i, if_neg c, ← w10, hx])
      rw [hln] at this
      exact this
theorem r_begins {g n t d i mo : Nat} {S M : Sv} {ln : Int32} (h : Rl g n t d S (M 1)) (hln : ln = nI i) (hi : i < n) (hm : mo ≤ 600) (hg : g + 1200 < 2 ^ 29) : (p_X3_ticksUntilBegin S ln mo).1 = (p_X7_beginsWithin M i mo).1 ∧ Nj (p_X3_ticksUntilBegin S ln mo).1 := by
  unfold p_X3_ticksUntilBegin p_X7_beginsWithin p_X7_of
  exact r_ub (g0 := 0) hln hi mo 0 g d S M h (by omega) (by omega) rfl
/-- the reference comes back to what it was -/
def FcR (M M' : Sv) : Prop := (∀ k, k < 280 → M' 1 k = M 1 k) ∧ ∀ p k, ¬ p = 1 → ¬ p = 2 → M' p k = M p k
theorem fc_rf {M : Sv} : FcR M M := ⟨fun _ _ => rfl, fun _ _ _ _ => rfl⟩
theorem kpr1 {M : Sv} : p_X7_keep M 1 = M 1 := funext fun k => fr_keep (by decide)
theorem Rl.kept {g n t d : Nat} {S M : Sv} (h : Rl g n t d S (M 1)) : Rl g n t d S (p_X7_keep M 1) := by rw [kpr1]; exact h
theorem fc_back {M M' : Sv} (h : ∀ p k, ¬ p = 1 → M' p k = p_X7_keep M p k) : FcR M (p_X7_comeBack M') :=
  ⟨fun k hk => by rw [comeBack_row hk, h 2 k (by decide), keep_row hk], fun p k h1 h2 => by rw [fr_comeBack h1, h p k h1, fr_keep h2]⟩
theorem r_beginsIn {g n t d : Nat} {S S' M : Sv} {ln : Int32} (h : Rl g n t d S (M 1)) (h' : Rl g n t d S' (M 1)) (hg : g + 1200 < 2 ^ 29) :
    (if p_X3_hasLine S ln = 0 then (-1) else (p_X3_ticksUntilBegin S' ln 600).1) = (p_X7_beginsIn M ln).1 ∧ FcR M (p_X7_beginsIn M ln).2 := by
  unfold p_X7_beginsIn
  try dsimp only
  rw [hasLine_eq h]
  by_cases h1 : p_X3_hasLine S ln = 0
  · rw [if_pos h1, if_pos h1]
    exact ⟨rfl, fc_rf⟩
  · rw [if_neg h1, if_neg h1]
    obtain ⟨i, hi, ei, hci⟩ := hasLine_ne h h1
    rw [hci]
    try dsimp only
    exact ⟨(r_begins (mo := 600) h'.kept ei hi (Nat.le_refl _) hg).1, fc_back fun p k hp => fr_beginsWithin h'.kept.wm hp⟩
theorem r_ui {n t : Nat} {S0 M0 : Sv} : ∀ fu j g d (S M : Sv), Rl g n t d S (M 1) → g + 2 * fu < 2 ^ 29 → j + fu = 600 →
    (q_X3_ticksUntilIdle_2 S0 600 fu j S).1 = (q_X7_idleIn_6 M0 fu j M).1 ∧ ∃ M', (q_X7_idleIn_6 M0 fu j M).2 = p_X7_comeBack M' ∧ ∀ p k, ¬ p = 1 → M' p k = M p k := by
  intro fu
  induction fu with
  | zero =>
    intro j g d S M h _ hj
    unfold q_X3_ticksUntilIdle_2 q_X7_idleIn_6
    try dsimp only
    rw [h.hs.2.2.2.1, show j = 600 by omega]
    exact ⟨rfl, M, rfl, fun _ _ _ => rfl⟩
  | succ fu ih =>
    intro j g d S M h hg hj
    have hd := h.d8
    unfold q_X3_ticksUntilIdle_2 q_X7_idleIn_6
    try dsimp only
    rw [h.hs.2.2.2.1]
    by_cases c : S 0 7 = 0
    · rw [if_pos c, if_pos (by rw [c]; exact Int32.le_refl 0), if_pos c]
      exact ⟨rfl, M, rfl, fun _ _ _ => rfl⟩
    · have hc : ¬ S 0 7 ≤ 0 := by
        rw [h.ed]
        rw [h.ed] at c
        have hd0 : 0 < d := Nat.pos_of_ne_zero fun z => c (by rw [z]; exact nI_0)
        exact nI_nle hd0 (by omega)
      rw [if_neg c, if_neg hc]
      obtain ⟨d', h1, -⟩ := r_pass h (by omega)
      obtain ⟨q1, M', q2, q3⟩ := ih (j + 1) (g + 2) d' _ _ h1 (by omega) (by omega)
      exact ⟨q1, M', q2, fun p k hp => (q3 p k hp).trans (h.passP hp)⟩
theorem r_idleIn {g n t d : Nat} {S' M : Sv} (h' : Rl g n t d S' (M 1)) (hg : g + 1200 < 2 ^ 29) : (p_X3_ticksUntilIdle S' 600).1 = (p_X7_idleIn M).1 ∧ FcR M (p_X7_idleIn M).2 := by
  unfold p_X3_ticksUntilIdle p_X7_idleIn
  try dsimp only
  obtain ⟨q1, M', q2, q3⟩ := r_ui (S0 := S') (M0 := M) 600 0 g d S' _ h'.kept (by omega) (by omega)
  exact ⟨q1, by rw [q2]; exact fc_back q3⟩
theorem r_missesIn {g n t d : Nat} {S S' M : Sv} {tk : Int32} (h : Rl g n t d S (M 1)) (h' : Rl g n t d S' (M 1)) (hg : g + 1200 < 2 ^ 29) :
    (if p_X6_within tk 1 500 = 0 then (-2) else p_X3_missesOfAll (p_X3_passTicks S' tk).2 - p_X3_missesOfAll S) = (p_X7_missesIn M tk).1 ∧ FcR M (p_X7_missesIn M tk).2 := by
  unfold p_X7_missesIn p_X3_passTicks
  try dsimp only
  rw [in_w]
  by_cases h1 : p_X6_within tk 1 500 = 0
  · rw [if_pos h1, if_pos h1]
    exact ⟨rfl, fc_rf⟩
  · rw [if_neg h1, if_neg h1, if_neg h1]
    obtain ⟨-, hb⟩ := wB (a := tk) (b := 1) (d := 500) (n := 500) rfl rfl (by decide) rfl h1
    obtain ⟨d', q1, q2⟩ := r_ticks_it (f := q_X3_passTicks_16 S' tk) (f' := q_X7_missesIn_25 M tk) h'.kept (fun _ _ => rfl) (fun _ _ => rfl) (cn tk) (by omega)
    refine ⟨?_, fc_back q2⟩
    show p_X3_missesOfAll (itN (q_X3_passTicks_16 S' tk) (cn tk) S') - _ = _
    rw [r_misses q1, r_misses h.kept]
/-- a setting is set, both rows -/
theorem r_set1 {g n t d k : Nat} {S M : Sv} {v : Int32} (h : Rl g n t d S (M 1)) (hk : k < 7) (hv : vLst k ≤ v ∧ v ≤ vMst k) : Rl g n t d (us S 1 k v) (us M 1 k v 1) := by
  obtain ⟨s7, s8, s9, s10, s11, s12, s13⟩ := h.hs
  refine h.hd (Nat.le_refl _) (fun p q _ hp => us_p hp) (fun q hq => us_k (by omega)) ⟨?_, h.n12, ?_, h.t6, ?_, h.d8, ?_, fun q hq => ?_, fun q hq => ?_, ?_, ?_, ?_, ?_, ?_, ?_, ?_⟩
  · rw [us_p (by omega)]; exact h.en
  · rw [us_p (by omega)]; exact h.et
  · rw [us_p (by omega)]; exact h.ed
  · rw [us_p (by omega)]; exact h.tk
  · by_cases hqk : q = k
    · rw [hqk, us_at, us_at]
    · rw [us_k hqk, us_k hqk]; exact h.st q hq
  · by_cases hqk : q = k
    · rw [hqk, us_at]; exact hv
    · rw [us_k hqk]; exact h.rg q hq
  · rw [us_k (by omega), us_p (by omega), s7]
  · rw [us_k (by omega), us_p (by omega), s8]
  · rw [us_k (by omega), us_p (by omega), s9]
  · rw [us_k (by omega), us_p (by omega), s10]
  · rw [us_k (by omega), us_p (by omega), s11]
  · rw [us_k (by omega), us_p (by omega), s12]
  · rw [us_k (by omega), us_p (by omega), s13]
theorem bar_set {S : Sv} {b : Nat} (hb : b ≤ 31) : p_X3_changeSetting S 6 (nI b) = (S 1 6, us S 1 6 (nI b)) := by
  unfold p_X3_changeSetting
  try dsimp only
  rw [if_neg (by decide), cl_6, within_pos (b := vLst 6) (d := vMst 6) (nI_pos' (by omega)) (nI_le (b := 31) hb (by decide)), if_neg (by decide)]
/-- the search of the greatest bar: both loops -/
theorem r_gb {g n t d i : Nat} {S M : Sv} {ln tk : Int32} {μ0 : Mu} {M0 : Sv} (h : Rl g n t d S (M 1)) (hln : ln = nI i) (hi : i < n) (htk : cn tk ≤ 600) (hg : g + 1200 < 2 ^ 29) : ∀ fu j (μ : Mu) (M6 : Sv), fu ≤ 32 → μ 0 = S → (∀ k, k < 280 → M6 1 k = M 1 k ∧ M6 2 k = M 1 k) → (∀ p k, ¬ p = 1 → ¬ p = 2 → M6 p k = M p k) →
    (q_X6_greatestBar_34 μ0 ln tk fu j μ (nI (fu - 1))).1 = (q_X7_greatestBar_34 M0 ln tk fu j M6 1 (nI fu)).1 ∧ FcR M (q_X7_greatestBar_34 M0 ln tk fu j M6 1 (nI fu)).2 := by
  intro fu
  induction fu with
  | zero =>
    intro j μ M6 _ h0 h1 h2
    unfold q_X6_greatestBar_34 q_X7_greatestBar_34
    try dsimp only
    rw [if_neg (by decide)]
    exact ⟨rfl, fun k hk => (h1 k hk).1, h2⟩
  | succ fu ih =>
    intro j μ M6 hf h0 h1 h2
    have hn := h.n12
    have hci : cn ln = i := by rw [hln]; exact cn_nI (by omega)
    unfold q_X6_greatestBar_34 q_X7_greatestBar_34
    try dsimp only
    rw [if_neg (show ¬ (1 : Int32) = 0 by decide), Nat.add_sub_cancel, pk_m1, fo_at, hci, h0, bar_set (by omega)]
    try dsimp only
    rw [fo_at]
    have hR : Rl g n t d (us (p_X3_copyFrom (μ 1) S) 1 6 (nI fu)) (us M6 1 6 (nI fu) 1) := r_set1 ((h.copy (μ 1)).row fun k hk => (h1 k hk).1) (by omega) ⟨nI_pos' (by omega), nI_le (b := 31) (by omega) (by decide)⟩
    obtain ⟨q1, q2⟩ := r_begins hR hln hi htk hg
    have hfr : ∀ p k, ¬ p = 1 → (p_X7_beginsWithin (us M6 1 6 (nI fu)) i (cn tk)).2 p k = M6 p k := fun p k hp => by rw [fr_beginsWithin hR.wm hp, us_p hp]
    rw [← q1]
    generalize (p_X7_beginsWithin (us M6 1 6 (nI fu)) i (cn tk)).2 = M16 at hfr ⊢
    have hb1 : ∀ k, k < 280 → p_X7_comeBack M16 1 k = M 1 k ∧ p_X7_comeBack M16 2 k = M 1 k := fun k hk => ⟨by rw [comeBack_row hk, hfr 2 k (by decide)]; exact (h1 k hk).2, by rw [fr_comeBack (by decide), hfr 2 k (by decide)]; exact (h1 k hk).2⟩
    have hb2 : ∀ p k, ¬ p = 1 → ¬ p = 2 → p_X7_comeBack M16 p k = M p k := fun p k p1 p2 => by rw [fr_comeBack p1, hfr p k p1]; exact h2 p k p1 p2
    generalize p_X7_comeBack M16 = M7 at hb1 hb2 ⊢
    generalize (p_X3_ticksUntilBegin (us (p_X3_copyFrom (μ 1) S) 1 6 (nI fu)) ln (cn tk)).1 = x at q2 ⊢
    rcases q2 with q2 | ⟨a, ha, q2⟩
    · rw [if_pos q2, if_neg (by rw [q2]; decide)]
      cases fu with
      | zero =>
        unfold q_X6_greatestBar_34 q_X7_greatestBar_34
        try dsimp only
        rw [if_neg (by decide)]
        exact ⟨rfl, fun k hk => (hb1 k hk).1, hb2⟩
      | succ fu =>
        rw [pk_m1]
        exact ih (j + 1) _ M7 (by omega) (by rw [fo_ne _ _ (by decide), fo_ne _ _ (by decide), fo_ne _ _ (by decide)]; exact h0) hb1 hb2
    · rw [if_neg (by rw [q2]; exact nI_n6 (by omega)), if_pos (by rw [q2]; exact nI_pos' (by omega))]
      cases fu with
      | zero =>
        unfold q_X7_greatestBar_34
        try dsimp only
        rw [if_pos rfl]
        exact ⟨rfl, fun k hk => (hb1 k hk).1, hb2⟩
      | succ fu =>
        unfold q_X7_greatestBar_34
        try dsimp only
        rw [if_pos rfl, if_pos rfl]
        exact ⟨rfl, fun k hk => (hb1 k hk).1, hb2⟩
theorem r_greatestBar {g n t d : Nat} {M : Sv} {μ : Mu} {ln tk : Int32} (h : Rl g n t d (μ 0) (M 1)) (hg : g + 1200 < 2 ^ 29) : (p_X6_greatestBar μ ln tk).1 = (p_X7_greatestBar M ln tk).1 ∧ FcR M (p_X7_greatestBar M ln tk).2 := by
  unfold p_X6_greatestBar p_X7_greatestBar
  try dsimp only
  rw [hasLine_eq h, in_w]
  by_cases h1 : p_X3_hasLine (μ 0) ln = 0
  · rw [if_pos h1, if_pos h1]
    exact ⟨rfl, fc_rf⟩
  · rw [if_neg h1, if_neg h1]
    obtain ⟨i, hi, ei, hci⟩ := hasLine_ne h h1
    by_cases h2 : p_X6_within tk 1 200 = 0
    · rw [if_pos h2, if_pos h2]
      exact ⟨rfl, fc_rf⟩
    · rw [if_neg h2, if_neg h2]
      obtain ⟨-, hb⟩ := wB (a := tk) (b := 1) (d := 200) (n := 200) rfl rfl (by decide) rfl h2
      exact r_gb h ei hi (by omega) hg 32 0 μ (p_X7_keep M) (Nat.le_refl _) rfl (fun k hk => ⟨fr_keep (by decide), keep_row hk⟩) (fun p k _ p2 => fr_keep p2)
