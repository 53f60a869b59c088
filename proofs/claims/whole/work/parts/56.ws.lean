/-! booleans stay booleans in a server; a server copied -/
def Zb (S : Sv) : Prop := ∀ i, i < 12 → Z1 (S (3 + i) 3) ∧ Z1 (S (3 + i) 4) ∧ Z1 (S (3 + i) 5)
theorem ws_of {S : Sv} (h1 : Wf S) (h2 : Zb S) : Ws S := ⟨h1, h2⟩
theorem zb_us {S : Sv} {p k : Nat} {v : Int32} (h : Zb S) (hk : (¬ k = 3 ∧ ¬ k = 4 ∧ ¬ k = 5) ∨ p < 3 ∨ 15 ≤ p) : Zb (us S p k v) := by
  intro i hi
  obtain ⟨a, b, c⟩ := h i hi
  rw [us_ne _ _ (by omega), us_ne _ _ (by omega), us_ne _ _ (by omega)]
  exact ⟨a, b, c⟩
theorem zb_v {S : Sv} {p k : Nat} {v : Int32} (h : Zb S) (hv : Z1 v) : Zb (us S p k v) := by
  intro i hi
  obtain ⟨a, b, c⟩ := h i hi
  unfold us
  refine ⟨?_, ?_, ?_⟩ <;> split <;> assumption
theorem z1_ite {c : Prop} {h : Decidable c} {a b : Int32} (ha : Z1 a) (hb : Z1 b) : Z1 (@ite _ c h a b) := by split <;> assumption
theorem zb_ite {c : Prop} {h : Decidable c} {a b : Sv} (ha : Zb a) (hb : Zb b) : Zb (@ite _ c h a b) := by split <;> assumption
theorem zb_follow {S : Sv} {i : Nat} (h : Zb S) : Zb (p_X1_followDevices S i) := by
  unfold p_X1_followDevices
  try dsimp only
  exact zb_v (zb_ite h (zb_ite (zb_us h (Or.inl (by omega))) h)) (z1_ite z1_0 (z1_ite z1_1 z1_0))
theorem zb_take {S : Sv} {i : Nat} {b : Int32} (h : Zb S) : Zb (p_X1_takeEdge S i b).2 := by
  have h1 : Zb (us S (3 + i) 9 (S (3 + i) 9 + 1)) := zb_us h (Or.inl (by omega))
  unfold p_X1_takeEdge
  try dsimp only
  repeat' split
  all_goals first | exact zb_us (zb_v h1 z1_1) (Or.inl (by omega)) | exact zb_us h1 (Or.inl (by omega))
theorem zb_leave {S : Sv} {i : Nat} (h : Zb S) : Zb (p_X1_leaveNest S i) := by
  have h1 : ∀ v, Zb (us (us S (3 + i) 7 (-6)) (3 + i) 12 v) := fun v => zb_us (zb_us h (Or.inl (by omega))) (Or.inl (by omega))
  unfold p_X1_leaveNest
  try dsimp only
  exact zb_ite (h1 _) (zb_follow (zb_us (h1 _) (Or.inl (by omega))))
theorem zb_enter {S : Sv} {i : Nat} {pl : Int32} (h : Zb S) : Zb (p_X1_enterNest S i pl) := by
  have h1 : ∀ v w, Zb (us (us (us (us S (3 + i) 7 pl) (3 + i) 5 0) (3 + i) 11 v) (3 + i) 14 w) := fun v w => zb_us (zb_us (zb_v (zb_us h (Or.inl (by omega))) z1_0) (Or.inl (by omega))) (Or.inl (by omega))
  unfold p_X1_enterNest
  try dsimp only
  repeat' split
  all_goals first | exact h1 _ _ | exact zb_us (h1 _ _) (Or.inl (by omega)) | exact zb_us (zb_us (h1 _ _) (Or.inl (by omega))) (Or.inl (by omega))
theorem zb_raise {S0 S : Sv} (h : Zb S) : ∀ m, Zb (itN (q_X3_raiseByTimers_2 S0) m S) := by
  intro m
  induction m with
  | zero => exact h
  | succ m ih =>
    rw [itN_s]
    generalize itN (q_X3_raiseByTimers_2 S0) m S = σ at ih ⊢
    unfold q_X3_raiseByTimers_2
    try dsimp only
    exact zb_ite ih (zb_us (zb_take ih) (Or.inr (Or.inr (by omega))))
theorem zb_grow {S0 S : Sv} (h : Zb S) : ∀ m, Zb (itN (q_X3_growWaits_2 S0) m S) := by
  intro m
  induction m with
  | zero => exact h
  | succ m ih =>
    rw [itN_s]
    generalize itN (q_X3_growWaits_2 S0) m S = σ at ih ⊢
    unfold q_X3_growWaits_2
    try dsimp only
    exact zb_ite ih (zb_us ih (Or.inl (by omega)))
theorem zb_begin {S : Sv} (h : Zb S) : Zb (p_X3_beginFoundLine S).2 := by
  have h8 : Zb (if S 0 7 ≤ 0 then S else us S 0 10 (S 0 10 + 1)) := zb_ite h (zb_us h (Or.inl (by omega)))
  unfold p_X3_beginFoundLine
  try dsimp only
  split
  · exact h
  · split
    · exact h
    · try dsimp only
      generalize (if S 0 7 ≤ 0 then S else us S 0 10 (S 0 10 + 1)) = S8 at h8 ⊢
      have hq : ∀ q a b c e, Zb (us (us (us (us S8 (23 + q) 0 a) (23 + q) 1 b) (23 + q) 2 c) (23 + q) 3 e) := fun q a b c e => zb_us (zb_us (zb_us (zb_us h8 (Or.inr (Or.inr (by omega)))) (Or.inr (Or.inr (by omega)))) (Or.inr (Or.inr (by omega)))) (Or.inr (Or.inr (by omega)))
      exact zb_ite (zb_us (zb_enter (hq _ _ _ _ _)) (Or.inl (by omega))) (zb_us (zb_us (zb_enter (hq _ _ _ _ _)) (Or.inl (by omega))) (Or.inl (by omega)))
theorem zb_serve {S : Sv} (h : Zb S) : Zb (p_X3_serveTop S) := by
  have h3 : ∀ q v, Zb (us (us S 0 8 (S 0 8 + 1)) (23 + q) 2 v) := fun q v => zb_us (zb_us h (Or.inl (by omega))) (Or.inl (by omega))
  unfold p_X3_serveTop
  try dsimp only
  exact zb_ite h (zb_ite (h3 _ _) (zb_leave (zb_us (h3 _ _) (Or.inl (by omega)))))
theorem zb_pass {S : Sv} (h : Zb S) : Zb (p_X3_passTick S).2 := by
  unfold p_X3_passTick p_X3_raiseByTimers
  try dsimp only
  refine zb_us ?_ (Or.inl (by omega))
  unfold p_X3_growWaits
  exact zb_grow (zb_serve (zb_begin (zb_raise h _))) _
theorem ws_pass {S : Sv} (h : Ws S) : Ws (p_X3_passTick S).2 := ⟨wf_pass h.1, zb_pass h.2⟩
theorem ws_it {S : Sv} {tk : Int32} (h : Ws S) : ∀ m, Ws (itN (q_X3_passTicks_16 S tk) m S) := by
  intro m
  induction m with
  | zero => exact h
  | succ m ih =>
    rw [itN_s]
    exact ws_pass ih
theorem ws_ticks {S : Sv} {tk : Int32} (h : Ws S) : Ws (p_X3_passTicks S tk).2 := by
  unfold p_X3_passTicks
  try dsimp only
  split
  · exact h
  · exact ws_it h _
theorem ws_ub {S0 : Sv} {ln : Int32} {mo : Nat} : ∀ fu j S, Ws S → Ws (q_X3_ticksUntilBegin_2 S0 ln mo fu j S).2 := by
  intro fu
  induction fu with
  | zero => intro j S h; exact h
  | succ fu ih =>
    intro j S h
    unfold q_X3_ticksUntilBegin_2
    try dsimp only
    split
    · exact ws_pass h
    · exact ih _ _ (ws_pass h)
theorem ws_ui {S0 : Sv} {mo : Nat} : ∀ fu j S, Ws S → Ws (q_X3_ticksUntilIdle_2 S0 mo fu j S).2 := by
  intro fu
  induction fu with
  | zero => intro j S h; exact h
  | succ fu ih =>
    intro j S h
    unfold q_X3_ticksUntilIdle_2
    try dsimp only
    split
    · exact h
    · exact ih _ _ (ws_pass h)
/-! changes keep booleans -/
theorem zb_set {S : Sv} {a b : Int32} (h : Zb S) : Zb (p_X3_changeSetting S a b).2 := by
  unfold p_X3_changeSetting
  try dsimp only
  repeat' split
  all_goals first | exact h | exact zb_us h (Or.inr (Or.inl (by omega)))
theorem zb_shape {S : Sv} {i : Nat} {a b d : Int32} (h : Zb S) : Zb (p_X1_shape S i a b d) := by
  unfold p_X1_shape
  exact zb_us (zb_us (zb_us h (Or.inl (by omega))) (Or.inl (by omega))) (Or.inl (by omega))
theorem zb_new {S : Sv} {i : Nat} {b : Int32} (h : Zb S) (hb : Z1 b) : Zb (p_X1_becomeNew S i b) := by
  unfold p_X1_becomeNew
  try dsimp only
  exact zb_us (zb_us (zb_us (zb_us (zb_us (zb_us (zb_us (zb_us (zb_us (zb_us (zb_v (zb_v (zb_v h hb) z1_0) z1_0) (Or.inl (by omega))) (Or.inl (by omega))) (Or.inl (by omega))) (Or.inl (by omega))) (Or.inl (by omega))) (Or.inl (by omega))) (Or.inl (by omega))) (Or.inl (by omega))) (Or.inl (by omega))) (Or.inl (by omega))
theorem zb_addLine {S : Sv} {a b d lv : Int32} (h : Zb S) : Zb (p_X3_addLine S a b d lv).2 := by
  unfold p_X3_addLine
  try dsimp only
  repeat' split
  all_goals first | exact h | exact zb_us (zb_shape (zb_new h (z1_ite z1_1 z1_0))) (Or.inr (Or.inl (by omega))) | exact zb_us (zb_shape (zb_new h z1_1)) (Or.inr (Or.inl (by omega))) | exact zb_us (zb_shape (zb_new h z1_0)) (Or.inr (Or.inl (by omega)))
theorem zb_changeLine {S : Sv} {ln a b d : Int32} (h : Zb S) : Zb (p_X3_changeLine S ln a b d).2 := by
  unfold p_X3_changeLine
  try dsimp only
  repeat' split
  all_goals first | exact h | exact zb_shape h
theorem zb_addTimer {S : Sv} {ln a b : Int32} (h : Zb S) : Zb (p_X3_addTimer S ln a b).2 := by
  unfold p_X3_addTimer
  try dsimp only
  repeat' split
  all_goals first | exact h | exact zb_us (zb_us (zb_us (zb_us h (Or.inr (Or.inr (by omega)))) (Or.inr (Or.inr (by omega)))) (Or.inr (Or.inr (by omega)))) (Or.inr (Or.inl (by omega)))
theorem zb_rm {S : Sv} {tm : Int32} (h : Zb S) : ∀ m, Zb (itN (q_X3_removeTimer_12 S tm) m S) := by
  intro m i hi
  obtain ⟨a, b, c⟩ := h i hi
  rw [rm_keep _ _ _ (by omega), rm_keep _ _ _ (by omega), rm_keep _ _ _ (by omega)]
  exact ⟨a, b, c⟩
theorem zb_removeTimer {S : Sv} {tm : Int32} (h : Zb S) : Zb (p_X3_removeTimer S tm).2 := by
  unfold p_X3_removeTimer
  try dsimp only
  split
  · exact h
  · exact zb_us (zb_rm h _) (Or.inr (Or.inl (by omega)))
theorem zb_raiseLine {S : Sv} {ln : Int32} (h : Zb S) : Zb (p_X3_raiseLine S ln).2 := by
  unfold p_X3_raiseLine
  try dsimp only
  repeat' split
  all_goals first | exact h | exact zb_take h
theorem zb_move {S : Sv} {i d : Nat} {up : Int32} (h : Zb S) : Zb (p_X1_moveDevice S i d up) := by
  unfold p_X1_moveDevice
  exact zb_follow (zb_us h (Or.inl (by omega)))
theorem zb_holdLine {S : Sv} {ln dv up : Int32} (h : Zb S) : Zb (p_X3_holdLine S ln dv up).2 := by
  unfold p_X3_holdLine
  try dsimp only
  repeat' split
  all_goals first | exact h | exact zb_move h
theorem zb_maskLine {S : Sv} {ln i : Int32} (h : Zb S) : Zb (p_X3_maskLine S ln i).2 := by
  unfold p_X3_maskLine
  try dsimp only
  repeat' split
  all_goals first | exact h | exact zb_v h z1_1 | exact zb_v h z1_0 | exact zb_v h (z1_ite z1_1 z1_0)
/-! a server copied says the same -/
theorem Rl.copyS {g n t d : Nat} {S S' : Sv} {T : Nat → Int32} (h : Rl g n t d S T) (hS : ∀ p k, InC S p k → S' p k = S p k) : Rl g n t d S' T := by
  have hn := h.n12
  have c3 := h.cn3
  have c5 := h.cn5
  have c7 := h.cn7
  have e0 : ∀ k, (k = 0 ∨ k = 3 ∨ k = 5 ∨ k = 7 ∨ k = 8 ∨ k = 9 ∨ k = 10) → S' 0 k = S 0 k := fun k hk => hS 0 k (Or.inl ⟨rfl, hk⟩)
  have e1 : ∀ k, k < 7 → S' 1 k = S 1 k := fun k hk => hS 1 k (Or.inr (Or.inl ⟨rfl, hk⟩))
  have eL : ∀ i, i < n → ∀ k, k < 16 → S' (3 + i) k = S (3 + i) k := fun i hi k hk => hS _ _ (Or.inr (Or.inr (Or.inl ⟨by omega, by omega, hk⟩)))
  have eT : ∀ j, j < t → ∀ k, k < 3 → S' (16 + j) k = S (16 + j) k := fun i hi k hk => hS _ _ (Or.inr (Or.inr (Or.inr (Or.inl ⟨by omega, by omega, hk⟩))))
  have eN : ∀ j, j < d → ∀ k, k < 4 → S' (23 + j) k = S (23 + j) k := fun i hi k hk => hS _ _ (Or.inr (Or.inr (Or.inr (Or.inr ⟨by omega, by omega, hk⟩))))
  obtain ⟨⟨b1, b2, b3, b4, b5, b6, b7, b8, b9, s7, s8, s9, s10, s11, s12, s13⟩, a2, a3, a4, a5, a6⟩ := h
  refine ⟨⟨?_, b2, ?_, b4, ?_, b6, ?_, fun k hk => ?_, fun k hk => ?_, ?_, ?_, ?_, ?_, ?_, ?_, ?_⟩, fun i hi => ?_, a3, fun j hj => ?_, fun k hk => ?_, fun i hi => ?_⟩
  · rw [e0 3 (by omega)]; exact b1
  · rw [e0 5 (by omega)]; exact b3
  · rw [e0 7 (by omega)]; exact b5
  · rw [e0 0 (by omega)]; exact b7
  · rw [e1 k hk]; exact b8 k hk
  · rw [e1 k hk]; exact b9 k hk
  · rw [e0 0 (by omega)]; exact s7
  · rw [e0 3 (by omega)]; exact s8
  · rw [e0 5 (by omega)]; exact s9
  · rw [e0 7 (by omega)]; exact s10
  · rw [e0 8 (by omega)]; exact s11
  · rw [e0 9 (by omega)]; exact s12
  · rw [e0 10 (by omega)]; exact s13
  · have hL := eL i hi
    unfold LnR LnI
    rw [hL 0 (by omega), hL 1 (by omega), hL 2 (by omega), hL 3 (by omega), hL 4 (by omega), hL 5 (by omega), hL 6 (by omega), hL 8 (by omega), hL 9 (by omega), hL 10 (by omega), hL 11 (by omega), hL 12 (by omega), hL 13 (by omega), hL 14 (by omega), hL 15 (by omega)]
    exact a2 i hi
  · have hT := eT j hj
    unfold TmR
    rw [hT 0 (by omega), hT 1 (by omega), hT 2 (by omega)]
    exact a4 j hj
  · have hN := eN k hk
    obtain ⟨q0, q1, q2, q3, ⟨i, i1, i2, i3⟩, q5⟩ := a5 k hk
    unfold NsR
    rw [hN 0 (by omega), hN 1 (by omega), hN 2 (by omega), hN 3 (by omega)]
    exact ⟨q0, q1, q2, q3, ⟨i, i1, i2, by rw [eL i i1 7 (by omega)]; exact i3⟩, q5⟩
  · unfold PlI
    rw [eL i hi 7 (by omega)]
    rcases a6 i hi with q | ⟨k, k1, k2, k3⟩
    · exact Or.inl q
    · exact Or.inr ⟨k, k1, k2, by rw [eN k k1 0 (by omega)]; exact k3⟩
theorem Rl.copy {g n t d : Nat} {S : Sv} {T : Nat → Int32} (h : Rl g n t d S T) (S0 : Sv) : Rl g n t d (p_X3_copyFrom S0 S) T :=
  h.copyS fun p k hk => copy_in (by rw [h.cn3]; exact h.n12) (by rw [h.cn5]; exact h.t6) (by rw [h.cn7]; exact h.d8) hk
theorem Rl.row {g n t d : Nat} {S : Sv} {T T' : Nat → Int32} (h : Rl g n t d S T) (hT : ∀ k, k < 280 → T' k = T k) : Rl g n t d S T' := by
  have hn := h.n12
  have ht := h.t6
  have hd := h.d8
  obtain ⟨a1, a2, a3, a4, a5, a6⟩ := h
  exact ⟨a1.same (fun _ => rfl) (fun _ => rfl) (fun k hk => hT k (by omega)), fun i hi => ⟨(a2 i hi).1.same (fun _ => rfl) (fun f hf => hT _ (by omega)), (a2 i hi).2⟩, fun i h1 h2 f hf => by rw [hT _ (by omega)]; exact a3 i h1 h2 f hf, fun j hj => (a4 j hj).same (fun _ => rfl) (fun f hf => hT _ (by omega)), fun k hk => (a5 k hk).same (fun _ => rfl) (fun f hf => hT _ (by omega)) (fun _ _ _ => rfl), a6⟩
