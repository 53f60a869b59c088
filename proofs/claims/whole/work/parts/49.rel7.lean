/-! the service on top, both sides; waits; a tick -/
theorem book0 {S : Sv} {li wh : Nat} {v : Int32} : p_X7_book S li wh v 0 = us S 1 (20 + 16 * li + wh) v := by
  unfold p_X7_book
  try dsimp only
  rw [if_pos rfl]
theorem book1 {S : Sv} {li wh : Nat} {v : Int32} : p_X7_book S li wh v 1 = us S 1 (20 + 16 * li + wh) (S 1 (20 + 16 * li + wh) + v) := by
  unfold p_X7_book
  try dsimp only
  rw [if_neg (by decide)]
def ms (S15 : Sv) : Sv :=
  (if (S15 1 10) ≤ 0 then S15 else (let S18 : Sv := us S15 1 (220 + 4 * (cn (S15 1 10)) - 4 + 2) ((S15 1 (220 + 4 * (cn (S15 1 10)) - 4 + 2)) - 1); (let S19 : Sv := us S18 1 11 ((S18 1 11) + 1); (if (S19 1 (220 + 4 * (cn (S15 1 10)) - 4 + 2)) = 0 then (let S21 : Sv := p_X7_end S19 (cn (S15 1 (220 + 4 * (cn (S15 1 10)) - 4))); S21) else S19))))
theorem ms_c {M : Sv} {e : Nat} (h : M 1 10 = nI (e + 1)) (he : e < 8) : ms M = (if M 1 (220 + 4 * e + 2) - 1 = 0 then p_X7_end (us (us M 1 (220 + 4 * e + 2) (M 1 (220 + 4 * e + 2) - 1)) 1 11 (M 1 11 + 1)) (cn (M 1 (220 + 4 * e))) else us (us M 1 (220 + 4 * e + 2) (M 1 (220 + 4 * e + 2) - 1)) 1 11 (M 1 11 + 1)) := by
  have hc : cn (M 1 10) = e + 1 := by rw [h]; exact cn_nI (by omega)
  unfold ms
  rw [if_neg (by rw [h]; exact nI_nle (by omega) (by omega)), hc, show 220 + 4 * (e + 1) - 4 = 220 + 4 * e by omega]
  try dsimp only
  simp (disch := omega) only [us_at, us_k]
theorem sv_c {S : Sv} {e : Nat} (h : S 0 7 = nI (e + 1)) (he : e < 8) : p_X3_serveTop S = (if 0 < S (23 + e) 2 - 1 then us (us S 0 8 (S 0 8 + 1)) (23 + e) 2 (S (23 + e) 2 - 1) else p_X1_leaveNest (us (us (us S 0 8 (S 0 8 + 1)) (23 + e) 2 (S (23 + e) 2 - 1)) 0 7 (S 0 7 - 1)) (cn (S (23 + e) 0))) := by
  have hc : cn (S 0 7) - 1 = e := by rw [h, cn_nI (by omega)]; omega
  unfold p_X3_serveTop
  rw [if_neg (by rw [h]; exact nI_ne0 (by omega) (by omega)), hc]
  try dsimp only
  simp (disch := omega) only [us_at, us_p, us_k]
theorem leave_c {B : Sv} {i : Nat} : p_X1_leaveNest B i = (if B (3 + i) 3 = 0 then us (us B (3 + i) 7 (-6)) (3 + i) 12 (B (3 + i) 12 + 1) else p_X1_followDevices (us (us (us B (3 + i) 7 (-6)) (3 + i) 12 (B (3 + i) 12 + 1)) (3 + i) 8 (B (3 + i) 8 &&& (B (3 + i) 8 - 1))) i) := by
  unfold p_X1_leaveNest
  try dsimp only
  simp (disch := omega) only [us_k]
theorem end_c {B : Sv} {i : Nat} : p_X7_end B i = (if B 1 (20 + 16 * i + 3) = 1 then p_X7_look (us (us (us B 1 10 (B 1 10 - 1)) 1 (20 + 16 * i + 11) (B 1 (20 + 16 * i + 11) + 1)) 1 (20 + 16 * i + 7) (B 1 (20 + 16 * i + 7) &&& (B 1 (20 + 16 * i + 7) - 1))) i else us (us B 1 10 (B 1 10 - 1)) 1 (20 + 16 * i + 11) (B 1 (20 + 16 * i + 11) + 1)) := by
  unfold p_X7_end p_X7_of
  try dsimp only
  simp (disch := omega) only [book0, book1, us_k]
theorem r_serve {g n t d : Nat} {S M : Sv} (h : Rl g n t d S (M 1)) : ∃ d', Rl g n t d' (p_X3_serveTop S) (ms M 1) := by
  have hn := h.n12
  have hd := h.d8
  cases d with
  | zero =>
    refine ⟨0, ?_⟩
    have e1 : p_X3_serveTop S = S := by
      unfold p_X3_serveTop
      rw [if_pos (show S 0 7 = 0 from h.ed)]
    have e2 : ms M = M := by
      unfold ms
      rw [if_pos (by rw [h.td]; exact Int32.le_refl 0)]
    rw [e1, e2]
    exact h
  | succ e =>
    obtain ⟨b0, b1, b2, b3, ⟨i, hi, i2, i3⟩, b5⟩ := h.2.2.2.2.1 e (by omega)
    have hci : cn (nI i) = i := cn_nI (by omega)
    rw [ms_c h.td (by omega), sv_c h.ed (by omega), b2, b0, i2, hci]
    rcases lt_dec b5 with ⟨c1, c2⟩ | ⟨c1, c2⟩
    · rw [if_pos c1, if_neg c2]
      exact ⟨e + 1, r_tick1 h (fun p k q1 q2 => by rw [us_ne _ _ q2, us_ne _ _ q1]) (fun k q1 q2 => by rw [us_k q1, us_k q2]) (by rw [us_p (by omega), us_at]) (by rw [us_at]) (by rw [us_at]) (by rw [us_k (by omega), us_at, b2]) c1⟩
    · rw [if_neg c1, if_pos c2, leave_c, end_c]
      have hx : Rl g n t e (us (us (us (us (us S 0 8 (S 0 8 + 1)) (23 + e) 2 (S (23 + e) 2 - 1)) 0 7 (S 0 7 - 1)) (3 + i) 7 (-6)) (3 + i) 12 (S (3 + i) 12 + 1))
          (us (us (us (us M 1 (220 + 4 * e + 2) (S (23 + e) 2 - 1)) 1 11 (M 1 11 + 1)) 1 10 (M 1 10 - 1)) 1 (20 + 16 * i + 11) (M 1 (20 + 16 * i + 11) + 1) 1) := by
        refine r_leave h hi i2 (fun p k q1 q2 q3 => ?_) (fun k q1 q2 q3 => ?_) ?_ ?_ ?_ ?_ ?_ ?_ ?_
        · rw [us_ne _ _ (by omega), us_ne _ _ (by omega), us_ne _ _ (by omega), us_ne _ _ (by omega), us_ne _ _ (by omega)]
        · rw [us_k (by omega), us_k (by omega), us_k (by omega), us_k (by omega)]
        · simp (disch := omega) only [us_at, us_p, us_k]
        · simp (disch := omega) only [us_at, us_p, us_k]
        · simp (disch := omega) only [us_at, us_p, us_k]
        · simp (disch := omega) only [us_at, us_p, us_k]
        · simp (disch := omega) only [us_at, us_p, us_k]
        · simp (disch := omega) only [us_at, us_p, us_k]
        · simp (disch := omega) only [us_at, us_p, us_k]
      obtain ⟨⟨r0, r1, r2, r3, r4, r5, r6, r7, r8, r9, r10, r11, -⟩, i0, i1, i1p, il, -, -, i8, -⟩ := h.2.1 i hi
      have y3 : us (us M 1 (220 + 4 * e + 2) (S (23 + e) 2 - 1)) 1 11 (M 1 11 + 1) 1 (20 + 16 * i + 3) = S (3 + i) 3 := by rw [us_k (by omega), us_k (by omega), r3]
      have y7 : us (us M 1 (220 + 4 * e + 2) (S (23 + e) 2 - 1)) 1 11 (M 1 11 + 1) 1 (20 + 16 * i + 7) = S (3 + i) 8 := by rw [us_k (by omega), us_k (by omega), r7]
      have y10 : us (us M 1 (220 + 4 * e + 2) (S (23 + e) 2 - 1)) 1 11 (M 1 11 + 1) 1 10 = M 1 10 := by rw [us_k (by omega), us_k (by omega)]
      have y11 : us (us M 1 (220 + 4 * e + 2) (S (23 + e) 2 - 1)) 1 11 (M 1 11 + 1) 1 (20 + 16 * i + 11) = M 1 (20 + 16 * i + 11) := by rw [us_k (by omega), us_k (by omega)]
      have x3 : us (us (us S 0 8 (S 0 8 + 1)) (23 + e) 2 (S (23 + e) 2 - 1)) 0 7 (S 0 7 - 1) (3 + i) 3 = S (3 + i) 3 := by rw [us_p (by omega), us_k (by omega), us_p (by omega)]
      have x8 : us (us (us S 0 8 (S 0 8 + 1)) (23 + e) 2 (S (23 + e) 2 - 1)) 0 7 (S 0 7 - 1) (3 + i) 8 = S (3 + i) 8 := by rw [us_p (by omega), us_k (by omega), us_p (by omega)]
      have x12 : us (us (us S 0 8 (S 0 8 + 1)) (23 + e) 2 (S (23 + e) 2 - 1)) 0 7 (S 0 7 - 1) (3 + i) 12 = S (3 + i) 12 := by rw [us_p (by omega), us_k (by omega), us_p (by omega)]
      rw [y3, y7, y10, y11, x3, x8, x12]
      rcases il with z | z
      · rw [if_pos z, if_neg (by rw [z]; decide)]
        exact ⟨e, hx⟩
      · rw [if_neg (by rw [z]; decide), if_pos z]
        exact ⟨e, r_follow (r_devs hx hi (bn_and i8)) hi⟩
/-! waits grow -/
theorem r_grow1 {g n t d j : Nat} {S M M0 S0 : Sv} (h : Rl g n t d S (M 1)) (hj : j < n) : Rl g n t d (q_X3_growWaits_2 S0 j S) (q_X7_pass_232 M0 j M 1) := by
  have key : LnR (q_X3_growWaits_2 S0 j S) (q_X7_pass_232 M0 j M 1) j ∧ LnI g (q_X3_growWaits_2 S0 j S) j ∧ (q_X3_growWaits_2 S0 j S) (3 + j) 7 = S (3 + j) 7 := by
    obtain ⟨⟨r0, r1, r2, r3, r4, r5, r6, r7, r8, r9, r10, r11, r12, r13, r14⟩, i0, i1, i1p, i3, i4, i5, i8, i11⟩ := h.2.1 j hj
    have r0' : M 1 (20 + 16 * j) = S (3 + j) 0 := r0
    unfold LnR LnI q_X3_growWaits_2 q_X7_pass_232 p_X7_waits p_X7_of
    simp only [book1]
    rcases i5 with h5 | h5 <;>
      simp (disch := omega) [us_at, us_p, us_k, r0', r1, r2, r3, r4, r5, r6, r7, r8, r9, r10, r11, r12, r13, r14, i0, i1, i1p, i3, i4, h5, i8, i11, z1_0, z1_1]
  refine h.line hj (fun p k hp => ?_) (fun k hk => ?_) key.2.2 key.1 key.2.1
  · unfold q_X3_growWaits_2
    try dsimp only
    split
    · rfl
    · exact us_p hp
  · unfold q_X7_pass_232
    exact fr_book (by omega)
theorem r_grow {g n t d : Nat} {S M M0 S0 : Sv} (h : Rl g n t d S (M 1)) : ∀ m, m ≤ n → Rl g n t d (itN (q_X3_growWaits_2 S0) m S) (itN (q_X7_pass_232 M0) m M 1) := by
  intro m
  induction m with
  | zero => intro _; exact h
  | succ m ih =>
    intro hm
    rw [itN_s, itN_s]
    exact r_grow1 (ih (by omega)) (by omega)
/-! timers -/
theorem r_time1 {g n t d j : Nat} {S M S0 M0 : Sv} (h : Rl g n t d S (M 1)) (hj : j < t) (e1 : S0 (16 + j) 0 = S (16 + j) 0) (e2 : M0 1 (260 + 3 * j) = S (16 + j) 0) : Rl g n t d (q_X3_raiseByTimers_2 S0 j S) (q_X7_pass_4 M0 j M 1) ∧
    (∀ q, q < 6 → q_X3_raiseByTimers_2 S0 j S (16 + q) 0 = S (16 + q) 0) ∧ ∀ p k, ¬ p = 1 → q_X7_pass_4 M0 j M p k = M p k := by
  have hn := h.n12
  have ht := h.t6
  have hd := h.d8
  obtain ⟨b0, b1, b2, ⟨i, hi, b3⟩, b4⟩ := h.2.2.2.1 j hj
  have hci : cn (nI i) = i := cn_nI (by omega)
  unfold q_X3_raiseByTimers_2 q_X7_pass_4
  try dsimp only
  rw [e1, e2, b3, hci, b2, h.hs.1]
  by_cases hc : S 0 0 < S (16 + j) 2
  · rw [if_pos hc, if_pos hc]
    exact ⟨h, fun _ _ => rfl, fun _ _ _ => rfl⟩
  · rw [if_neg hc, if_neg hc]
    obtain ⟨-, hE⟩ := r_edge h hi (kp := if S 1 5 = 1 then 1 else 0) rfl
    have hfr : ∀ p k, ¬ p = 3 + i → (p_X1_takeEdge S i (if S 1 5 = 1 then 1 else 0)).2 p k = S p k := fun p k hp => fr_takeEdge hp
    have hfm : ∀ p k, ¬ (p = 1 ∧ 20 + 16 * i ≤ k ∧ k < 36 + 16 * i) → (p_X7_edge M i).2 p k = M p k := fun p k hk => fr_edge hk
    generalize (p_X1_takeEdge S i (if S 1 5 = 1 then 1 else 0)).2 = S1 at hE hfr ⊢
    generalize (p_X7_edge M i).2 = M1 at hE hfm ⊢
    obtain ⟨q0, q1, q2, q3, q4⟩ := hE.2.2.2.1 j hj
    refine ⟨?_, fun q hq => ?_, fun p k hp => ?_⟩
    · obtain ⟨a1, a2, a3, a4, a5, a6⟩ := id hE
      have hS : ∀ p k, ¬ (p = 16 + j ∧ k = 2) → us S1 (16 + j) 2 (S1 (16 + j) 2 + S1 (16 + j) 1) p k = S1 p k := fun p k => us_ne _ _
      have hT : ∀ k, ¬ k = 260 + 3 * j + 2 → us M1 1 (260 + 3 * j + 2) (M1 1 (260 + 3 * j + 2) + M1 1 (260 + 3 * j + 1)) 1 k = M1 1 k := fun k => us_k
      refine ⟨a1.same (fun k => hS _ _ (by omega)) (fun k => hS _ _ (by omega)) (fun k hk => hT _ (by omega)), fun j2 hj2 => ⟨(a2 j2 hj2).1.same (fun k => hS _ _ (by omega)) (fun f hf => hT _ (by omega)), (a2 j2 hj2).2.same (fun k => hS _ _ (by omega))⟩, fun j2 h1 h2 f hf => ?_, fun j2 hj2 => ?_, fun k hk => (a5 k hk).same (fun f => hS _ _ (by omega)) (fun f hf => hT _ (by omega)) (fun j _ _ => hS _ _ (by omega)), fun j2 hj2 => ?_⟩
      · rw [hT _ (by omega)]; exact a3 j2 h1 h2 f hf
      · by_cases hjj : j2 = j
        · rw [hjj]
          refine ⟨?_, ?_, ?_, ?_, ?_⟩
          · rw [hS _ _ (by omega), hT _ (by omega)]; exact q0
          · rw [hS _ _ (by omega), hT _ (by omega)]; exact q1
          · rw [us_at, us_at, q2, q1]
          · rw [hS _ _ (by omega)]; exact q3
          · rw [hS _ _ (by omega)]; exact q4
        · exact (a4 j2 hj2).same (fun k => hS _ _ (by omega)) (fun f hf => hT _ (by omega))
      · rcases a6 j2 hj2 with q | ⟨k, k1, k2, k3⟩
        · exact Or.inl ((hS _ _ (by omega)).trans q)
        · exact Or.inr ⟨k, k1, (hS _ _ (by omega)).trans k2, (hS _ _ (by omega)).trans k3⟩
    · rw [us_k (by omega)]
      exact hfr _ _ (by omega)
    · rw [us_p hp]
      exact hfm _ _ (by omega)
theorem r_time {g n t d : Nat} {S M : Sv} (h : Rl g n t d S (M 1)) : ∀ m, m ≤ t → Rl g n t d (itN (q_X3_raiseByTimers_2 S) m S) (itN (q_X7_pass_4 M) m M 1) ∧ (∀ q, q < 6 → itN (q_X3_raiseByTimers_2 S) m S (16 + q) 0 = S (16 + q) 0) ∧ ∀ p k, ¬ p = 1 → itN (q_X7_pass_4 M) m M p k = M p k := by
  have ht := h.t6
  intro m
  induction m with
  | zero => intro _; exact ⟨h, fun _ _ => rfl, fun _ _ _ => rfl⟩
  | succ m ih =>
    intro hm
    obtain ⟨h1, h2, h3⟩ := ih (by omega)
    rw [itN_s, itN_s]
    obtain ⟨g1, g2, g3⟩ := r_time1 (S0 := S) (M0 := M) h1 (j := m) (by omega) (h2 m (by omega)).symm ((h.2.2.2.1 m (by omega)).1.trans (h2 m (by omega)).symm)
    exact ⟨g1, fun q hq => (g2 q hq).trans (h2 q hq), fun p k hp => (g3 p k hp).trans (h3 p k hp)⟩
