/-! a tick, both sides -/
theorem te_11 {S : Sv} {i p : Nat} {b : Int32} : (p_X1_takeEdge S i b).2 p 11 = S p 11 := by
  unfold p_X1_takeEdge
  try dsimp only
  repeat' split
  all_goals simp [us]
theorem lv_11 {S : Sv} {i p : Nat} : p_X1_leaveNest S i p 11 = S p 11 := by
  unfold p_X1_leaveNest p_X1_followDevices
  try dsimp only
  repeat' split
  all_goals simp [us]
theorem rt_11 {S0 S : Sv} : ∀ m p, itN (q_X3_raiseByTimers_2 S0) m S p 11 = S p 11 := by
  intro m
  induction m with
  | zero => intro p; rfl
  | succ m ih =>
    intro p
    rw [itN_s]
    have ih := ih p
    generalize itN (q_X3_raiseByTimers_2 S0) m S = σ at ih ⊢
    unfold q_X3_raiseByTimers_2
    try dsimp only
    split
    · exact ih
    · rw [us_k (by omega), te_11]
      exact ih
theorem sv_11 {S : Sv} {p : Nat} : p_X3_serveTop S p 11 = S p 11 := by
  unfold p_X3_serveTop
  try dsimp only
  split
  · rfl
  · split
    · rw [us_k (by omega), us_k (by omega)]
    · rw [lv_11, us_k (by omega), us_k (by omega), us_k (by omega)]
def mbg (c : Nat) (S1 : Sv) : Sv :=
  let x4 : Int32 := p_X7_found S1
  let v7 : Int32 := (if x4 < 0 then 0 else (if (S1 1 3) ≤ (S1 1 10) then 0 else 1))
  (if v7 = 0 then S1 else (if (S1 1 10) = 0 then (let S11 : Sv := p_X7_begin S1 (cn x4); S11) else (let x12 : Int32 := p_X7_present S1 (cn x4); (if x12 < ((S1 1 (220 + 4 * c - 3)) + (S1 1 2)) then S1 else (let S14 : Sv := p_X7_begin S1 (cn x4); S14)))))
theorem pass_eq {M : Sv} : p_X7_pass M = (let S24 : Sv := itN (q_X7_pass_232 M) (cn (M 1 8)) (ms (mbg (cn (M 1 10)) (itN (q_X7_pass_4 M) (cn (M 1 9)) M))); us S24 1 7 ((S24 1 7) + 1)) := rfl
theorem r_bstep {g n t d : Nat} {S M : Sv} (h : Rl g n t d S (M 1)) (hg : g < 2 ^ 30) : ∃ d', Rl (g + 1) n t d' (p_X3_beginFoundLine S).2 (mbg d M 1) ∧
    (((p_X3_beginFoundLine S).1 = (-6) ∧ (p_X3_beginFoundLine S).2 = S) ∨ ∃ i, i < n ∧ (p_X3_beginFoundLine S).1 = nI i ∧ (p_X3_beginFoundLine S).2 = cb S i d (p_X1_presentRank S i (S 1 0) (S 1 1))) := by
  have hn := h.n12
  have hd := h.d8
  obtain ⟨hF, hf⟩ := r_found h
  have keep : Rl (g + 1) n t d S (M 1) := h.mono (by omega)
  rcases hf with hf | ⟨i, hi, hf, h5, h7⟩
  · have e1 : p_X3_beginFoundLine S = ((-6), S) := by
      unfold p_X3_beginFoundLine
      try dsimp only
      rw [if_pos hf]
    have e2 : mbg d M = M := by
      unfold mbg
      try dsimp only
      rw [hF, hf, if_pos (show (-6 : Int32) < 0 by decide), if_pos rfl]
    rw [e1, e2]
    exact ⟨d, keep, Or.inl ⟨rfl, rfl⟩⟩
  · have hpr := r_present h hi
    have hci : cn (nI i) = i := cn_nI (by omega)
    have hed := h.ed
    have htd := h.td
    have e3 : M 1 3 = S 1 3 := h.st 3 (by omega)
    have e2 : M 1 2 = S 1 2 := h.st 2 (by omega)
    have g3 := h.rg 3 (by omega)
    have no : p_X3_nestTakes S (p_X1_presentRank S i (S 1 0) (S 1 1)) = 0 → p_X3_beginFoundLine S = ((-6), S) := fun q => by
      unfold p_X3_beginFoundLine
      try dsimp only
      rw [hf, if_neg (nI_n6 (by omega)), hci, if_pos q]
    have yes : ¬ p_X3_nestTakes S (p_X1_presentRank S i (S 1 0) (S 1 1)) = 0 → p_X3_beginFoundLine S = (nI i, cb S i d (p_X1_presentRank S i (S 1 0) (S 1 1))) := fun q => cb_eq hf (by omega) h.cn7 q
    cases d with
    | zero =>
      have hnt : ¬ p_X3_nestTakes S (p_X1_presentRank S i (S 1 0) (S 1 1)) = 0 := by
        unfold p_X3_nestTakes
        rw [if_pos (show S 0 7 = 0 from hed)]
        decide
      have hm : mbg 0 M = p_X7_begin M i := by
        unfold mbg
        try dsimp only
        rw [hF, hf, if_neg (nI_pos (by omega)), e3, htd, if_neg (show ¬ S 1 3 ≤ nI 0 from fun q => by
          have := Int32.le_trans g3.1 q
          exact absurd this (by decide)), if_neg (show ¬ (1 : Int32) = 0 by decide), if_pos nI_0, hci]
      rw [yes hnt, hm]
      exact ⟨1, r_begin h hg hi (by omega) h5 h7, Or.inr ⟨i, hi, rfl, rfl⟩⟩
    | succ e =>
      have hn0 : ¬ S 0 7 = 0 := by rw [hed]; exact nI_ne0 (by omega) (by omega)
      have hce : cn (S 0 7) - 1 = e := by rw [h.cn7]; omega
      obtain ⟨b0, b1, -⟩ := h.2.2.2.2.1 e (by omega)
      by_cases hc : S 1 3 ≤ S 0 7
      · have q : p_X3_nestTakes S (p_X1_presentRank S i (S 1 0) (S 1 1)) = 0 := by
          unfold p_X3_nestTakes
          try dsimp only
          rw [if_neg hn0, if_pos hc, if_pos rfl]
        have hm : mbg (e + 1) M = M := by
          unfold mbg
          try dsimp only
          rw [hF, hf, if_neg (nI_pos (by omega)), e3, htd, ← hed, if_pos hc, if_pos rfl]
        rw [no q, hm]
        exact ⟨e + 1, keep, Or.inl ⟨rfl, rfl⟩⟩
      · have h8 : ¬ (8 : Int32) ≤ S 0 7 := fun z => hc (Int32.le_trans g3.2 z)
        have hd7 : e + 1 < 8 := Nat.lt_of_not_le fun z => h8 (by rw [hed]; exact nI_le z (by omega))
        by_cases hr : p_X1_presentRank S i (S 1 0) (S 1 1) < S (23 + e) 1 + S 1 2
        · have q : p_X3_nestTakes S (p_X1_presentRank S i (S 1 0) (S 1 1)) = 0 := by
            unfold p_X3_nestTakes
            try dsimp only
            rw [if_neg hn0, if_neg hc, if_neg h8, if_neg (show ¬ (1 : Int32) = 0 by decide), hce, if_pos hr]
          have hm : mbg (e + 1) M = M := by
            unfold mbg
            try dsimp only
            rw [hF, hf, if_neg (nI_pos (by omega)), e3, htd, ← hed, if_neg hc, if_neg (show ¬ (1 : Int32) = 0 by decide), if_neg hn0, hci, hpr, show 220 + 4 * (e + 1) - 3 = 220 + 4 * e + 1 by omega, b1, e2, if_pos hr]
          rw [no q, hm]
          exact ⟨e + 1, keep, Or.inl ⟨rfl, rfl⟩⟩
        · have q : ¬ p_X3_nestTakes S (p_X1_presentRank S i (S 1 0) (S 1 1)) = 0 := by
            unfold p_X3_nestTakes
            try dsimp only
            rw [if_neg hn0, if_neg hc, if_neg h8, if_neg (show ¬ (1 : Int32) = 0 by decide), hce, if_neg hr]
            decide
          have hm : mbg (e + 1) M = p_X7_begin M i := by
            unfold mbg
            try dsimp only
            rw [hF, hf, if_neg (nI_pos (by omega)), e3, htd, ← hed, if_neg hc, if_neg (show ¬ (1 : Int32) = 0 by decide), if_neg hn0, hci, hpr, show 220 + 4 * (e + 1) - 3 = 220 + 4 * e + 1 by omega, b1, e2, if_neg hr]
          rw [yes q, hm]
          exact ⟨e + 2, r_begin h hg hi hd7 h5 h7, Or.inr ⟨i, hi, rfl, rfl⟩⟩
/-- who began -/
def Bg (n : Nat) (S S' : Sv) (x : Int32) : Prop := (x = (-6) ∨ ∃ i, i < n ∧ x = nI i) ∧ ∀ i, i < n → S' (3 + i) 11 = (if x = nI i then S (3 + i) 11 + 1 else S (3 + i) 11)
theorem r_pass {g n t d : Nat} {S M : Sv} (h : Rl g n t d S (M 1)) (hg : g < 2 ^ 29) : ∃ d', Rl (g + 2) n t d' (p_X3_passTick S).2 (p_X7_pass M 1) ∧ Bg n S (p_X3_passTick S).2 (p_X3_passTick S).1 := by
  have hn := h.n12
  have ht := h.t6
  obtain ⟨q1, -, q3⟩ := r_time h t (Nat.le_refl _)
  have h11 : ∀ p, itN (q_X3_raiseByTimers_2 S) t S p 11 = S p 11 := fun p => rt_11 t p
  rw [pass_eq]
  unfold p_X3_passTick p_X3_raiseByTimers
  try dsimp only
  rw [h.cn5, h.cn8, h.cn9, h.cn10]
  generalize itN (q_X3_raiseByTimers_2 S) t S = S1 at q1 h11 ⊢
  generalize itN (q_X7_pass_4 M) t M = M1 at q1 ⊢
  obtain ⟨d1, w1, w2⟩ := r_bstep q1 (by omega)
  have hB : Bg n S (p_X3_beginFoundLine S1).2 (p_X3_beginFoundLine S1).1 := by
    rcases w2 with ⟨u1, u2⟩ | ⟨i, hi, u1, u2⟩
    · rw [u1, u2]
      exact ⟨Or.inl rfl, fun j hj => by rw [if_neg (n6_nI (by omega)), h11]⟩
    · rw [u1, u2]
      refine ⟨Or.inr ⟨i, hi, rfl⟩, fun j hj => ?_⟩
      obtain ⟨c0, c1, c2, c3, c4, c5, c7, c8, c9, c10, c11, -⟩ := @cb_l S1 i d (p_X1_presentRank S1 i (S1 1 0) (S1 1 1)) (by omega)
      by_cases hji : j = i
      · rw [hji, if_pos rfl, c11, h11]
      · rw [if_neg (fun z => hji (nI_inj z).symm)]
        have hd := q1.d8
        by_cases h23 : 3 + j = 23 + d
        · omega
        · rw [cb_o (by omega) (by omega) h23, h11]
  generalize (p_X3_beginFoundLine S1).2 = S2 at w1 hB ⊢
  generalize (p_X3_beginFoundLine S1).1 = x at hB ⊢
  generalize mbg d M1 = M2 at w1 ⊢
  obtain ⟨d2, w3⟩ := r_serve w1
  have hB2 : Bg n S (p_X3_serveTop S2) x := ⟨hB.1, fun j hj => by rw [sv_11]; exact hB.2 j hj⟩
  generalize p_X3_serveTop S2 = S3 at w3 hB2 ⊢
  generalize ms M2 = M3 at w3 ⊢
  have w4 := r_grow (S0 := S3) (M0 := M) w3 n (Nat.le_refl _)
  have hB3 : Bg n S (p_X3_growWaits S3) x := ⟨hB.1, fun j hj => by unfold p_X3_growWaits; rw [gw_keep _ _ _ (by omega)]; exact hB2.2 j hj⟩
  have eG : p_X3_growWaits S3 = itN (q_X3_growWaits_2 S3) n S3 := by unfold p_X3_growWaits; rw [w3.cn3]
  rw [← eG] at w4
  generalize p_X3_growWaits S3 = S4 at w4 hB3 ⊢
  generalize itN (q_X7_pass_232 M) n M3 = M4 at w4 ⊢
  refine ⟨d2, ?_, ⟨hB3.1, fun j hj => by rw [us_p (by omega)]; exact hB3.2 j hj⟩⟩
  obtain ⟨s7, s8, s9, s10, s11, s12, s13⟩ := w4.hs
  refine w4.hd (by omega) (fun p k hp _ => us_p hp) (fun k hk => us_k (by omega)) ⟨?_, hn, ?_, ht, ?_, w4.d8, ?_, fun k hk => ?_, fun k hk => ?_, ?_, ?_, ?_, ?_, ?_, ?_, ?_⟩
  · rw [us_k (by omega)]; exact w4.en
  · rw [us_k (by omega)]; exact w4.et
  · rw [us_k (by omega)]; exact w4.ed
  · rw [us_at]; exact bn_suc w4.tk (by omega)
  · rw [us_k (by omega), us_p (by omega)]; exact w4.st k hk
  · rw [us_p (by omega)]; exact w4.rg k hk
  · rw [us_at, us_at, s7]
  · rw [us_k (by omega), us_k (by omega), s8]
  · rw [us_k (by omega), us_k (by omega), s9]
  · rw [us_k (by omega), us_k (by omega), s10]
  · rw [us_k (by omega), us_k (by omega), s11]
  · rw [us_k (by omega), us_k (by omega), s12]
  · rw [us_k (by omega), us_k (by omega), s13]
