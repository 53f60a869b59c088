/-! numbers, both sides -/
theorem cl_0 : cn 0 = 0 := by decide
theorem cl_1 : cn 1 = 1 := by decide
theorem cl_2 : cn 2 = 2 := by decide
theorem cl_3 : cn 3 = 3 := by decide
theorem cl_4 : cn 4 = 4 := by decide
theorem cl_5 : cn 5 = 5 := by decide
theorem cl_6 : cn 6 = 6 := by decide
theorem cl_7 : cn 7 = 7 := by decide
theorem cl_8 : cn 8 = 8 := by decide
theorem cl_9 : cn 9 = 9 := by decide
theorem cl_10 : cn 10 = 10 := by decide
theorem cl_11 : cn 11 = 11 := by decide
theorem cl_12 : cn 12 = 12 := by decide
theorem cl_13 : cn 13 = 13 := by decide
theorem cl_14 : cn 14 = 14 := by decide
/-- outside a range -/
theorem within_no {x a b : Int32} {n m : Nat} (ha : a = nI n) (hb : b = nI m) (hn : n < 2 ^ 31) (hm : m < 2 ^ 31) (h : ∀ k, n ≤ k → k ≤ m → ¬ x = nI k) : p_X6_within x a b = 0 := by
  refine Classical.byContradiction fun q => ?_
  obtain ⟨h1, h2⟩ := within_ne q
  rw [ha] at h1
  rw [hb] at h2
  have h0 : (0 : Int32) ≤ x := Int32.le_trans (nI_pos' hn) h1
  obtain ⟨k, hk, e⟩ := nI_of2 (M := nI m) (n := m) (nI_toInt hm) (Int32.not_lt.mpr h0) h2
  rw [e] at h1
  exact h k ((nI_leI hn (by omega)).mp h1) hk e
theorem ofLine_out {S M : Sv} {i : Nat} {wh : Int32} (h : ∀ k, k ≤ 16 → ¬ wh = nI k) : p_X1_number S i wh (S 1 0) (S 1 1) = (-2) := by
  unfold p_X1_number
  try dsimp only
  rw [if_neg (show ¬ wh = 0 from h 0 (by omega)), if_neg (show ¬ wh = 1 from h 1 (by omega)), if_neg (show ¬ wh = 2 from h 2 (by omega)), if_neg (show ¬ wh = 3 from h 3 (by omega)), if_neg (show ¬ wh = 4 from h 4 (by omega)), if_neg (show ¬ wh = 5 from h 5 (by omega)), if_neg (show ¬ wh = 6 from h 6 (by omega)), if_neg (show ¬ wh = 7 from h 7 (by omega)), if_neg (show ¬ wh = 8 from h 8 (by omega)), if_neg (show ¬ wh = 9 from h 9 (by omega)), if_neg (show ¬ wh = 10 from h 10 (by omega)), if_neg (show ¬ wh = 11 from h 11 (by omega)), if_neg (show ¬ wh = 12 from h 12 (by omega)), if_neg (show ¬ wh = 13 from h 13 (by omega)), if_neg (show ¬ wh = 14 from h 14 (by omega)), if_neg (show ¬ wh = 15 from h 15 (by omega)), if_neg (show ¬ wh = 16 from h 16 (by omega))]
set_option maxHeartbeats 4000000 in
theorem r_ofLine {g n t d : Nat} {S M : Sv} {ln wh : Int32} (h : Rl g n t d S (M 1)) : p_X3_numberOfLine S ln wh = p_X7_ofLine M ln wh := by
  unfold p_X3_numberOfLine p_X7_ofLine
  try dsimp only
  rw [hasLine_eq h, in_w, in_w]
  by_cases h1 : p_X3_hasLine S ln = 0
  · rw [if_pos h1, if_pos h1]
  · rw [if_neg h1, if_neg h1]
    obtain ⟨i, hi, ei, hci⟩ := hasLine_ne h h1
    have hp := r_place h hi
    rw [hci, ei, hp, r_present h hi]
    by_cases hk : ∃ k, k ≤ 16 ∧ wh = nI k
    · obtain ⟨⟨r0, r1, r2, r3, r4, r5, r6, r7, r8, r9, r10, r11, r12, r13, r14⟩, i0, i1, i1p, i3, i4, i5, i8, i11⟩ := h.2.1 i hi
      have r0' : M 1 (20 + 16 * i) = S (3 + i) 0 := r0
      have z6 : (if S (3 + i) 5 = 0 then (-6 : Int32) else if S (3 + i) 5 = 0 then 0 else S (3 + i) 6) = if S (3 + i) 5 = 0 then (-6) else S (3 + i) 6 := by
        split <;> rfl
      have z5 : (if (if S (3 + i) 5 = 1 then (1 : Int32) else 0) = 0 then (-6 : Int32) else if S (3 + i) 5 = 0 then 0 else S (3 + i) 6) = if S (3 + i) 5 = 0 then (-6) else S (3 + i) 6 := by
        rw [i5.c]; exact z6
      obtain ⟨k, hk, e⟩ := hk
      unfold p_X1_number p_X7_waits p_X7_of
      try dsimp only
      rw [i3.d, i4.d, i5.d, r5, r6, z5]
      clear z5 z6
      match k, hk, e with
      | 0, _, e => subst e; simp [nI_0, p_X6_within, cl_0, r0']
      | 1, _, e => rw [show nI 1 = (1 : Int32) from rfl] at e; subst e; simp [p_X6_within, cl_1, r1]
      | 2, _, e => rw [show nI 2 = (2 : Int32) from rfl] at e; subst e; simp [p_X6_within, cl_2, r2]
      | 3, _, e => rw [show nI 3 = (3 : Int32) from rfl] at e; subst e; simp [p_X6_within, cl_3, r3]
      | 4, _, e => rw [show nI 4 = (4 : Int32) from rfl] at e; subst e; simp [p_X6_within, cl_4, r4]
      | 5, _, e => rw [show nI 5 = (5 : Int32) from rfl] at e; subst e; simp [p_X6_within, cl_5, r5]
      | 6, _, e => rw [show nI 6 = (6 : Int32) from rfl] at e; subst e; simp
      | 7, _, e => rw [show nI 7 = (7 : Int32) from rfl] at e; subst e; simp
      | 8, _, e => rw [show nI 8 = (8 : Int32) from rfl] at e; subst e; simp
      | 9, _, e => rw [show nI 9 = (9 : Int32) from rfl] at e; subst e; simp [p_X6_within, cl_7, r7]
      | 10, _, e => rw [show nI 10 = (10 : Int32) from rfl] at e; subst e; simp [p_X6_within, cl_8, r8]
      | 11, _, e => rw [show nI 11 = (11 : Int32) from rfl] at e; subst e; simp [p_X6_within, cl_9, r9]
      | 12, _, e => rw [show nI 12 = (12 : Int32) from rfl] at e; subst e; simp [p_X6_within, cl_10, r10]
      | 13, _, e => rw [show nI 13 = (13 : Int32) from rfl] at e; subst e; simp [p_X6_within, cl_11, r11]
      | 14, _, e => rw [show nI 14 = (14 : Int32) from rfl] at e; subst e; simp [p_X6_within, cl_12, r12]
      | 15, _, e => rw [show nI 15 = (15 : Int32) from rfl] at e; subst e; simp [p_X6_within, cl_13, r13]
      | 16, _, e => rw [show nI 16 = (16 : Int32) from rfl] at e; subst e; simp [p_X6_within, cl_14, r14]
      | k + 17, hk, _ => exact absurd hk (by omega)
    · have hno : ∀ k, k ≤ 16 → ¬ wh = nI k := fun k q e => hk ⟨k, q, e⟩
      rw [ofLine_out (M := M) hno, if_neg (show ¬ wh = 6 from hno 6 (by omega)), if_neg (show ¬ wh = 7 from hno 7 (by omega)), if_neg (show ¬ wh = 8 from hno 8 (by omega)), within_no (a := 0) (b := 5) (n := 0) (m := 5) rfl rfl (by decide) (by decide) (fun k _ q => hno k (by omega)), within_no (a := 9) (b := 16) (n := 9) (m := 16) rfl rfl (by decide) (by decide) (fun k _ q => hno k (by omega)), if_pos rfl, if_pos rfl]
theorem r_ofNest {g n t d : Nat} {S M : Sv} {pl wh : Int32} (h : Rl g n t d S (M 1)) : p_X3_numberOfPlace S pl wh = p_X7_ofNest M pl wh := by
  have hd := h.d8
  unfold p_X3_numberOfPlace p_X7_ofNest
  try dsimp only
  rw [in_w, in_w, h.ed, h.td]
  by_cases h1 : p_X6_within pl 0 (nI d - 1) = 0
  · rw [if_pos h1, if_pos h1]
  · rw [if_neg h1, if_neg h1]
    obtain ⟨k, hk, ek⟩ := within_lt (n := d) rfl (by omega) h1
    have hck : cn pl = k := by rw [ek]; exact cn_nI (by omega)
    rw [hck]
    obtain ⟨b0, b1, b2, b3, -⟩ := h.2.2.2.2.1 k hk
    have b0' : M 1 (220 + 4 * k + 0) = S (23 + k) 0 := b0
    unfold p_X4_number
    by_cases hw : ∃ j, j ≤ 3 ∧ wh = nI j
    · obtain ⟨j, hj, e⟩ := hw
      match j, hj, e with
      | 0, _, e => subst e; simp [nI_0, p_X6_within, cl_0, b0]
      | 1, _, e => rw [show nI 1 = (1 : Int32) from rfl] at e; subst e; simp [p_X6_within, cl_1, b1]
      | 2, _, e => rw [show nI 2 = (2 : Int32) from rfl] at e; subst e; simp [p_X6_within, cl_2, b2]
      | 3, _, e => rw [show nI 3 = (3 : Int32) from rfl] at e; subst e; simp [p_X6_within, cl_3, b3]
      | j + 4, hj, _ => exact absurd hj (by omega)
    · have hno : ∀ k, k ≤ 3 → ¬ wh = nI k := fun k q e => hw ⟨k, q, e⟩
      rw [if_neg (show ¬ wh = 0 from hno 0 (by omega)), if_neg (show ¬ wh = 1 from hno 1 (by omega)), if_neg (show ¬ wh = 2 from hno 2 (by omega)), if_neg (show ¬ wh = 3 from hno 3 (by omega)), within_no (a := 0) (b := 3) (n := 0) (m := 3) rfl rfl (by decide) (by decide) (fun k _ q => hno k (by omega)), if_pos rfl]
theorem r_ofTimer {g n t d : Nat} {S M : Sv} {tm wh : Int32} (h : Rl g n t d S (M 1)) : p_X3_numberOfTimer S tm wh = p_X7_ofTimer M tm wh := by
  have ht := h.t6
  unfold p_X3_numberOfTimer p_X7_ofTimer p_X3_hasTimer
  try dsimp only
  rw [in_w, in_w, h.et, h.tt]
  by_cases h1 : p_X6_within tm 0 (nI t - 1) = 0
  · rw [if_pos h1, if_pos h1]
  · rw [if_neg h1, if_neg h1]
    obtain ⟨k, hk, ek⟩ := within_lt (n := t) rfl (by omega) h1
    have hck : cn tm = k := by rw [ek]; exact cn_nI (by omega)
    rw [hck]
    obtain ⟨b0, b1, b2, -⟩ := h.2.2.2.1 k hk
    unfold p_X5_number
    by_cases hw : ∃ j, j ≤ 2 ∧ wh = nI j
    · obtain ⟨j, hj, e⟩ := hw
      match j, hj, e with
      | 0, _, e => subst e; simp [nI_0, p_X6_within, cl_0, b0]
      | 1, _, e => rw [show nI 1 = (1 : Int32) from rfl] at e; subst e; simp [p_X6_within, cl_1, b1]
      | 2, _, e => rw [show nI 2 = (2 : Int32) from rfl] at e; subst e; simp [p_X6_within, cl_2, b2]
      | j + 3, hj, _ => exact absurd hj (by omega)
    · have hno : ∀ k, k ≤ 2 → ¬ wh = nI k := fun k q e => hw ⟨k, q, e⟩
      rw [if_neg (show ¬ wh = 0 from hno 0 (by omega)), if_neg (show ¬ wh = 1 from hno 1 (by omega)), if_neg (show ¬ wh = 2 from hno 2 (by omega)), within_no (a := 0) (b := 2) (n := 0) (m := 2) rfl rfl (by decide) (by decide) (fun k _ q => hno k (by omega)), if_pos rfl]
/-! sums over lines -/
theorem itN_congr {α : Type} {f f' : Nat → α → α} {a : α} : ∀ m, (∀ j, j < m → ∀ σ, f j σ = f' j σ) → itN f m a = itN f' m a := by
  intro m
  induction m with
  | zero => intro _; rfl
  | succ m ih =>
    intro h
    rw [itN_s, itN_s, ih (fun j hj => h j (by omega)), h m (by omega)]
theorem r_misses {g n t d : Nat} {S M : Sv} (h : Rl g n t d S (M 1)) : p_X3_missesOfAll S = p_X7_misses M := by
  unfold p_X3_missesOfAll p_X7_misses
  try dsimp only
  rw [h.cn3, h.cn8]
  refine itN_congr n fun j hj σ => ?_
  obtain ⟨⟨-, -, -, -, -, -, -, -, -, -, -, -, -, -, r14⟩, -⟩ := h.2.1 j hj
  unfold q_X3_missesOfAll_4 q_X7_misses_4 p_X7_of
  try dsimp only
  rw [r14]
theorem r_waiting {g n t d : Nat} {S M : Sv} (h : Rl g n t d S (M 1)) : p_X3_waitingLines S = p_X7_waiting M := by
  unfold p_X3_waitingLines p_X7_waiting
  try dsimp only
  rw [h.cn3, h.cn8]
  refine itN_congr n fun j hj σ => ?_
  obtain ⟨⟨-, -, -, -, -, r5, -⟩, -, -, -, -, -, i5, -⟩ := h.2.1 j hj
  unfold q_X3_waitingLines_4 q_X7_waiting_4 p_X7_waits p_X7_of
  try dsimp only
  rw [r5, i5.c]
  rcases i5 with z | z
  · rw [if_pos z, if_pos z, Int32.or_zero]
  · rw [if_neg (by rw [z]; decide), if_neg (by rw [z]; decide)]
theorem all_out {S : Sv} {wh : Int32} (h : ∀ k, k ≤ 9 → ¬ wh = nI k) (h2 : p_X6_within wh 12 18 = 0) : p_X3_numberOfAll S wh = (-2) := by
  unfold p_X3_numberOfAll
  try dsimp only
  rw [if_neg (show ¬ wh = 0 from h 0 (by omega)), if_neg (show ¬ wh = 1 from h 1 (by omega)), if_neg (show ¬ wh = 2 from h 2 (by omega)), if_neg (show ¬ wh = 3 from h 3 (by omega)), if_neg (show ¬ wh = 4 from h 4 (by omega)), if_neg (show ¬ wh = 5 from h 5 (by omega)), if_neg (show ¬ wh = 6 from h 6 (by omega)), if_neg (show ¬ wh = 7 from h 7 (by omega)), if_neg (show ¬ wh = 8 from h 8 (by omega)), if_neg (show ¬ wh = 9 from h 9 (by omega))]
  by_cases h1 : wh < 12
  · rw [if_pos h1]
  · rw [if_neg h1]
    have h3 : ¬ wh ≤ 18 := fun q => by
      rw [within_pos (Int32.not_lt.mp h1) q] at h2
      exact absurd h2 (by decide)
    have h4 : (7 : Int32) ≤ wh - 12 := by
      obtain ⟨k, hk, e⟩ := nI_of (x := wh) (fun z => h1 (Int32.lt_of_lt_of_le z (by decide)))
      have hk12 : 12 ≤ k := Nat.le_of_not_lt fun z => h1 (by rw [e]; exact nI_lt (b := 12) z (by decide))
      have hk18 : 18 < k := Nat.lt_of_not_le fun z => h3 (by rw [e]; exact nI_le (b := 18) z (by decide))
      rw [isb e (lI 12) hk12]
      exact nI_le (a := 7) (by omega) (by omega)
    rw [if_pos h4]
/-- the counts of a server alone: all but the pad's length and what can be undone -/
theorem r_count {g n t d : Nat} {S M : Sv} {wh : Int32} (h : Rl g n t d S (M 1)) : p_X7_count M wh = if wh = 10 then M 0 7 else if wh = 11 then M 0 3 else p_X3_numberOfAll S wh := by
  obtain ⟨s7, s8, s9, s10, s11, s12, s13⟩ := h.hs
  unfold p_X7_count
  try dsimp only
  rw [in_w, s7, s8, s9, s10, s11, s12, s13, ← r_waiting h, (r_found h).1, ← r_misses h]
  by_cases hk : ∃ k, k ≤ 18 ∧ wh = nI k
  · obtain ⟨k, hk, e⟩ := hk
    have hst : ∀ j, j < 7 → M 1 j = S 1 j := h.st
    unfold p_X3_numberOfAll
    try dsimp only
    match k, hk, e with
    | 0, _, e => rw [show nI 0 = (0 : Int32) from rfl] at e; subst e; simp [p_X6_within]
    | 1, _, e => rw [show nI 1 = (1 : Int32) from rfl] at e; subst e; simp [p_X6_within]
    | 2, _, e => rw [show nI 2 = (2 : Int32) from rfl] at e; subst e; simp [p_X6_within]
    | 3, _, e => rw [show nI 3 = (3 : Int32) from rfl] at e; subst e; simp [p_X6_within]
    | 4, _, e => rw [show nI 4 = (4 : Int32) from rfl] at e; subst e; simp [p_X6_within]
    | 5, _, e => rw [show nI 5 = (5 : Int32) from rfl] at e; subst e; simp [p_X6_within]
    | 6, _, e => rw [show nI 6 = (6 : Int32) from rfl] at e; subst e; simp [p_X6_within]
    | 7, _, e => rw [show nI 7 = (7 : Int32) from rfl] at e; subst e; simp [p_X6_within]
    | 8, _, e => rw [show nI 8 = (8 : Int32) from rfl] at e; subst e; simp [p_X6_within]
    | 9, _, e => rw [show nI 9 = (9 : Int32) from rfl] at e; subst e; simp [p_X6_within]
    | 10, _, e => rw [show nI 10 = (10 : Int32) from rfl] at e; subst e; simp [p_X6_within]
    | 11, _, e => rw [show nI 11 = (11 : Int32) from rfl] at e; subst e; simp [p_X6_within]
    | 12, _, e => rw [show nI 12 = (12 : Int32) from rfl] at e; subst e; simp [p_X6_within, cl_0, hst]
    | 13, _, e => rw [show nI 13 = (13 : Int32) from rfl] at e; subst e; simp [p_X6_within, cl_1, hst]
    | 14, _, e => rw [show nI 14 = (14 : Int32) from rfl] at e; subst e; simp [p_X6_within, cl_2, hst]
    | 15, _, e => rw [show nI 15 = (15 : Int32) from rfl] at e; subst e; simp [p_X6_within, cl_3, hst]
    | 16, _, e => rw [show nI 16 = (16 : Int32) from rfl] at e; subst e; simp [p_X6_within, cl_4, hst]
    | 17, _, e => rw [show nI 17 = (17 : Int32) from rfl] at e; subst e; simp [p_X6_within, cl_5, hst]
    | 18, _, e => rw [show nI 18 = (18 : Int32) from rfl] at e; subst e; simp [p_X6_within, cl_6, hst]
    | k + 19, hk, _ => exact absurd hk (by omega)
  · have hno : ∀ k, k ≤ 18 → ¬ wh = nI k := fun k q e => hk ⟨k, q, e⟩
    have hw := within_no (x := wh) (a := 12) (b := 18) (n := 12) (m := 18) rfl rfl (by decide) (by decide) (fun k _ q => hno k (by omega))
    rw [all_out (fun k q => hno k (by omega)) hw, hw, if_pos rfl]
    rw [if_neg (show ¬ wh = 0 from hno 0 (by omega)), if_neg (show ¬ wh = 1 from hno 1 (by omega)), if_neg (show ¬ wh = 2 from hno 2 (by omega)), if_neg (show ¬ wh = 3 from hno 3 (by omega)), if_neg (show ¬ wh = 4 from hno 4 (by omega)), if_neg (show ¬ wh = 5 from hno 5 (by omega)), if_neg (show ¬ wh = 6 from hno 6 (by omega)), if_neg (show ¬ wh = 7 from hno 7 (by omega)), if_neg (show ¬ wh = 8 from hno 8 (by omega)), if_neg (show ¬ wh = 9 from hno 9 (by omega)), if_neg (show ¬ wh = 10 from hno 10 (by omega)), if_neg (show ¬ wh = 11 from hno 11 (by omega))]
