/-! stop, ticks: both sides -/
theorem cs_f {S : Sv} {i k2 : Nat} (h : ¬ k2 = i) : ∀ f, f < 3 → p_X5_copyFromS S i k2 (16 + i) f = S (16 + k2) f := by
  intro f hf
  unfold p_X5_copyFromS
  try dsimp only
  match f, hf with
  | 0, _ => simp (disch := omega) only [us_at, us_p, us_k]
  | 1, _ => simp (disch := omega) only [us_at, us_p, us_k]
  | 2, _ => simp (disch := omega) only [us_at, us_p, us_k]
theorem rm_val {S : Sv} {tm : Int32} {c : Nat} (hc : cn tm = c) : ∀ m, (∀ p k, ¬ (16 + c ≤ p ∧ p < 16 + c + m) → itN (q_X3_removeTimer_12 S tm) m S p k = S p k) ∧ ∀ q, c ≤ q → q < c + m → ∀ f, f < 3 → itN (q_X3_removeTimer_12 S tm) m S (16 + q) f = S (16 + (q + 1)) f := by
  intro m
  induction m with
  | zero => exact ⟨fun p k _ => rfl, fun q h1 h2 => by omega⟩
  | succ m ih =>
    rw [itN_s]
    obtain ⟨i1, i2⟩ := ih
    generalize itN (q_X3_removeTimer_12 S tm) m S = σ at i1 i2 ⊢
    unfold q_X3_removeTimer_12
    try dsimp only
    rw [hc]
    refine ⟨fun p k hp => ?_, fun q h1 h2 f hf => ?_⟩
    · rw [fr_copyS (by omega)]
      exact i1 p k (by omega)
    · by_cases hq : q = c + m
      · rw [hq, cs_f (by omega) f hf]
        exact i1 _ _ (by omega)
      · rw [fr_copyS (by omega)]
        exact i2 q h1 (by omega) f hf
theorem st_val {M S4 : Sv} {tm : Int32} {c : Nat} (hc : cn tm = c) : ∀ m, (∀ k, ¬ (260 + 3 * c ≤ k ∧ k < 260 + 3 * c + m) → itN (q_X7_stop_42 M tm) m S4 1 k = S4 1 k) ∧ ∀ k, 260 + 3 * c ≤ k → k < 260 + 3 * c + m → itN (q_X7_stop_42 M tm) m S4 1 k = S4 1 (k + 3) := by
  intro m
  induction m with
  | zero => exact ⟨fun k _ => rfl, fun k h1 h2 => by omega⟩
  | succ m ih =>
    rw [itN_s]
    obtain ⟨i1, i2⟩ := ih
    generalize itN (q_X7_stop_42 M tm) m S4 = σ at i1 i2 ⊢
    unfold q_X7_stop_42
    try dsimp only
    rw [hc]
    refine ⟨fun k hk => ?_, fun k h1 h2 => ?_⟩
    · rw [us_k (by omega)]
      exact i1 k (by omega)
    · by_cases hq : k = 260 + 3 * c + m
      · rw [hq, us_at]
        exact i1 _ (by omega)
      · rw [us_k hq]
        exact i2 k h1 (by omega)
theorem st_out {M S4 : Sv} {tm : Int32} : ∀ m p k, ¬ p = 1 → itN (q_X7_stop_42 M tm) m S4 p k = S4 p k := fun m p k h => st_keep m p k (Or.inl h)
theorem r_stop {g n t d : Nat} {S M : Sv} {tm : Int32} (h : Rl g n t d S (M 1)) : OpR g S M (p_X3_removeTimer S tm) (p_X7_stop M tm) := by
  have hn := h.n12
  have ht := h.t6
  have hd := h.d8
  unfold p_X3_removeTimer p_X7_stop p_X3_hasTimer
  try dsimp only
  rw [in_w, h.tt, h.et]
  by_cases h1 : p_X6_within tm 0 (nI t - 1) = 0
  · rw [if_pos h1, if_pos h1]
    exact .err rfl rfl (by decide)
  · rw [if_neg h1, if_neg h1]
    obtain ⟨c, hc, ec⟩ := within_lt (n := t) rfl (by omega) h1
    have hcc : cn tm = c := by rw [ec]; exact cn_nI (by omega)
    have hct : cn (nI t) = t := cn_nI (by omega)
    rw [hct, hcc]
    obtain ⟨a, b⟩ := @rm_val S tm c hcc (t - 1 - c)
    obtain ⟨a', b'⟩ := @st_val M (us (p_X7_record M) 1 9 (p_X7_record M 1 9 - 1)) tm c hcc (3 * (t - 1 - c))
    have o' := @st_out M (us (p_X7_record M) 1 9 (p_X7_record M 1 9 - 1)) tm (3 * (t - 1 - c))
    generalize itN (q_X3_removeTimer_12 S tm) (t - 1 - c) S = S3 at a b ⊢
    generalize itN (q_X7_stop_42 M tm) (3 * (t - 1 - c)) (us (p_X7_record M) 1 9 (p_X7_record M 1 9 - 1)) = M5 at a' b' o' ⊢
    have e5 : S3 0 5 = nI t := by rw [a _ _ (by omega), h.et]
    have et1 : nI t - 1 = nI (t - 1) := isb (a := t) (b := 1) rfl rfl (by omega)
    have e9 : M5 1 9 = nI (t - 1) := by rw [a' _ (by omega), us_at, rec1, h.tt, et1]
    have hT0 : ∀ k, ¬ 260 ≤ k → ¬ k = 9 → M5 1 k = M 1 k := fun k q1 q2 => by rw [a' _ (by omega), us_k q2, rec1]
    have hS0 : ∀ p k, ¬ (16 ≤ p ∧ p < 16 + t) → ¬ (p = 0 ∧ k = 5) → us S3 0 5 (S3 0 5 - 1) p k = S p k := fun p k q1 q2 => by rw [us_ne _ _ q2, a _ _ (by omega)]
    rw [us_at, e5, et1, e9]
    rw [e5, et1] at hS0
    obtain ⟨s7, s8, s9, s10, s11, s12, s13⟩ := h.hs
    obtain ⟨a1, a2, a3, a4, a5, a6⟩ := id h
    refine .ok (n := n) (t := t - 1) (d := d) rfl rfl rfl (nI_pos' (by omega)) ⟨⟨?_, hn, us_at _ _ _ _, by omega, ?_, hd, ?_, fun k hk => ?_, fun k hk => ?_, ?_, ?_, ?_, ?_, ?_, ?_, ?_⟩, fun j hj => ⟨(a2 j hj).1.same (fun k => hS0 _ _ (by omega) (by omega)) (fun f hf => hT0 _ (by omega) (by omega)), (a2 j hj).2.same (fun k => hS0 _ _ (by omega) (by omega))⟩, fun j h1 h2 f hf => ?_, fun j hj => ?_, fun k hk => (a5 k hk).same (fun f => hS0 _ _ (by omega) (by omega)) (fun f hf => hT0 _ (by omega) (by omega)) (fun j hj _ => hS0 _ _ (by omega) (by omega)), fun j hj => ?_⟩ (fun p q hp => by rw [o' _ _ hp, us_p hp])
    · rw [hS0 _ _ (by omega) (by omega)]; exact h.en
    · rw [hS0 _ _ (by omega) (by omega)]; exact h.ed
    · rw [hS0 _ _ (by omega) (by omega)]; exact h.tk
    · rw [hS0 _ _ (by omega) (by omega), hT0 _ (by omega) (by omega)]; exact h.st k hk
    · rw [hS0 _ _ (by omega) (by omega)]; exact h.rg k hk
    · rw [hS0 _ _ (by omega) (by omega), hT0 _ (by omega) (by omega), s7]
    · rw [hS0 _ _ (by omega) (by omega), hT0 _ (by omega) (by omega), s8]
    · rw [us_at, e9]
    · rw [hS0 _ _ (by omega) (by omega), hT0 _ (by omega) (by omega), s10]
    · rw [hS0 _ _ (by omega) (by omega), hT0 _ (by omega) (by omega), s11]
    · rw [hS0 _ _ (by omega) (by omega), hT0 _ (by omega) (by omega), s12]
    · rw [hS0 _ _ (by omega) (by omega), hT0 _ (by omega) (by omega), s13]
    · rw [hT0 _ (by omega) (by omega)]; exact a3 j h1 h2 f hf
    · by_cases hjc : j < c
      · exact (a4 j (by omega)).same (fun k => by rw [us_p (by omega), a _ _ (by omega)]) (fun f hf => by rw [a' _ (by omega), us_k (by omega), rec1])
      · obtain ⟨u0, u1, u2, u3, u4⟩ := a4 (j + 1) (by omega)
        have v : ∀ f, f < 3 → us S3 0 5 (nI (t - 1)) (16 + j) f = S (16 + (j + 1)) f := fun f hf => by rw [us_p (by omega)]; exact b j (by omega) (by omega) f hf
        have v' : ∀ f, f < 3 → M5 1 (260 + 3 * j + f) = M 1 (260 + 3 * (j + 1) + f) := fun f hf => by
          rw [b' _ (by omega) (by omega), us_k (by omega), rec1, show 260 + 3 * j + f + 3 = 260 + 3 * (j + 1) + f by omega]
        unfold TmR
        rw [v 0 (by omega), v 1 (by omega), v 2 (by omega), v' 1 (by omega), v' 2 (by omega), show M5 1 (260 + 3 * j) = M 1 (260 + 3 * (j + 1)) from v' 0 (by omega)]
        exact ⟨u0, u1, u2, u3, u4⟩
    · rcases a6 j hj with q | ⟨k, k1, k2, k3⟩
      · exact Or.inl ((hS0 _ _ (by omega) (by omega)).trans q)
      · exact Or.inr ⟨k, k1, (hS0 _ _ (by omega) (by omega)).trans k2, (hS0 _ _ (by omega) (by omega)).trans k3⟩
/-! what the contracts ask of a state -/
theorem Rl.wf {g n t d : Nat} {S : Sv} {T : Nat → Int32} (h : Rl g n t d S T) : Wf S := by
  have hn := h.n12
  have ht := h.t6
  have hd := h.d8
  refine ⟨bn_of h.en hn (by decide), bn_of h.et ht (by decide), bn_of h.ed hd (by decide), fun q hq => ?_, fun q hq => ?_⟩
  · rw [h.cn5] at hq
    obtain ⟨-, -, -, ⟨i, hi, e⟩, -⟩ := h.2.2.2.1 q hq
    exact bn_of e (by omega) (by decide)
  · rw [h.cn7] at hq
    obtain ⟨-, -, -, -, ⟨i, hi, e, -⟩, -⟩ := h.2.2.2.2.1 q hq
    exact bn_of e (by omega) (by decide)
theorem Rl.wm {g n t d : Nat} {S M : Sv} (h : Rl g n t d S (M 1)) : Wm M := by
  have hn := h.n12
  have ht := h.t6
  have hd := h.d8
  refine ⟨bn_of h.tn hn (by decide), bn_of h.tt ht (by decide), fun q hq => ?_, ⟨bn_of h.td hd (by decide), fun q hq => ?_⟩, ?_⟩
  · rw [h.cn9] at hq
    obtain ⟨e0, -, -, ⟨i, hi, e⟩, -⟩ := h.2.2.2.1 q hq
    exact bn_of (e0.trans e) (by omega) (by decide)
  · rw [h.cn10] at hq
    obtain ⟨e0, -, -, -, ⟨i, hi, e, -⟩, -⟩ := h.2.2.2.2.1 q hq
    exact bn_of (e0.trans e) (by omega) (by decide)
  · rw [h.st 3 (by omega)]
    exact (h.rg 3 (by omega)).2
theorem Rl.passP {g n t d p k : Nat} {S M : Sv} (h : Rl g n t d S (M 1)) (hp : ¬ p = 1) : p_X7_pass M p k = M p k := by
  have w := h.wm
  have hn := h.n12
  have ht := h.t6
  exact fr_passP hp (by rw [h.cn9]; exact ht) w.2.2.1 (by rw [h.cn8]; exact hn)
theorem r_ticks_it {g n t d : Nat} {S M : Sv} {f : Nat → Sv → Sv} {f' : Nat → Sv → Sv} (h : Rl g n t d S (M 1)) (hf : ∀ j σ, f j σ = (p_X3_passTick σ).2) (hf' : ∀ j σ, f' j σ = p_X7_pass σ) : ∀ m, g + 2 * m < 2 ^ 29 → ∃ d', Rl (g + 2 * m) n t d' (itN f m S) (itN f' m M 1) ∧ ∀ p k, ¬ p = 1 → itN f' m M p k = M p k := by
  intro m
  induction m with
  | zero => intro _; exact ⟨d, h, fun _ _ _ => rfl⟩
  | succ m ih =>
    intro hg
    obtain ⟨d1, h1, h2⟩ := ih (by omega)
    rw [itN_s, itN_s, hf, hf']
    obtain ⟨d2, h3, -⟩ := r_pass h1 (by omega)
    exact ⟨d2, by rw [show g + 2 * (m + 1) = g + 2 * m + 2 by omega]; exact h3, fun p k hp => (h1.passP hp).trans (h2 p k hp)⟩
theorem r_ticks {g n t d : Nat} {S M : Sv} {tk : Int32} (h : Rl g n t d S (M 1)) (hg : g + 1000 < 2 ^ 29) : OpR (g + 1000) S M (p_X3_passTicks S tk) (p_X7_ticks M tk) := by
  unfold p_X3_passTicks p_X7_ticks
  try dsimp only
  rw [in_w]
  by_cases h1 : p_X6_within tk 1 500 = 0
  · rw [if_pos h1, if_pos h1]
    exact .err rfl rfl (by decide)
  · rw [if_neg h1, if_neg h1]
    obtain ⟨-, hb⟩ := wB (a := tk) (b := 1) (d := 500) (n := 500) rfl rfl (by decide) rfl h1
    have h' : Rl g n t d S (p_X7_record M 1) := by rw [rec1]; exact h
    obtain ⟨d', q1, q2⟩ := r_ticks_it (f := q_X3_passTicks_16 S tk) (f' := q_X7_ticks_20 M tk) h' (fun _ _ => rfl) (fun _ _ => rfl) (cn tk) (by omega)
    exact .ok (n := n) (t := t) (d := d') rfl rfl q1.hs.1.symm (bn_ge0 q1.tk (by omega)) (q1.mono (by omega)) q2
