/-! line, timer, stop, ticks: both sides -/
theorem TmR.more {n n' : Nat} {S : Sv} {T : Nat → Int32} {j : Nat} (h : TmR n S T j) (hn : n ≤ n') : TmR n' S T j := by
  obtain ⟨a1, a2, a3, ⟨i, i1, i2⟩, a5⟩ := h
  exact ⟨a1, a2, a3, ⟨i, by omega, i2⟩, a5⟩
theorem NsR.more {n n' : Nat} {S : Sv} {T : Nat → Int32} {j : Nat} (h : NsR n S T j) (hn : n ≤ n') : NsR n' S T j := by
  obtain ⟨a1, a2, a3, a4, ⟨i, i1, i2⟩, a5⟩ := h
  exact ⟨a1, a2, a3, a4, ⟨i, by omega, i2⟩, a5⟩
theorem r_addLine {g n t d : Nat} {S M : Sv} {a b c lv : Int32} (h : Rl g n t d S (M 1)) : OpR g S M (p_X3_addLine S a b c lv) (p_X7_line M a b c lv) := by
  have hn := h.n12
  have ht := h.t6
  have hd := h.d8
  unfold p_X3_addLine p_X7_line
  try dsimp only
  rw [shape_eq, in_w]
  by_cases h1 : p_X3_isShape a b c = 0
  · rw [if_pos h1, if_pos h1]
    exact .err rfl rfl (by decide)
  · rw [if_neg h1, if_neg h1]
    obtain ⟨g1, g2, g3⟩ := shape_ne h1
    by_cases h2 : p_X6_within lv 0 1 = 0
    · rw [if_pos h2, if_pos h2]
      exact .err rfl rfl (by decide)
    · rw [if_neg h2, if_neg h2]
      have hz := z1_of h2
      rw [h.cn3, h.cn8, h.tn]
      by_cases h3 : n = 12
      · rw [if_neg (show ¬ S 0 3 < 12 by rw [h.en, h3]; decide), if_pos (by rw [h3]; rfl)]
        exact .err rfl rfl (by decide)
      · rw [if_pos (show S 0 3 < 12 by rw [h.en]; exact nI_lt (b := 12) (by omega) (by decide)), if_neg (show ¬ nI n = 12 from fun z => h3 (nI_inj (b := 12) z)), hz.c]
        have f3 : ∀ v, us (p_X1_shape (p_X1_becomeNew S n lv) n a b c) 0 3 v 0 3 = v := fun v => us_at _ _ _ _
        have e3 : p_X1_shape (p_X1_becomeNew S n lv) n a b c 0 3 = nI n := by rw [fr_shape (by omega), fr_becomeNew (by omega), h.en]
        have e8 : us (us (us (us (p_X7_record M) 1 (20 + 16 * n + 0) a) 1 (20 + 16 * n + 1) b) 1 (20 + 16 * n + 2) c) 1 (20 + 16 * n + 3) lv 1 8 = nI n := by rw [us_k (by omega), us_k (by omega), us_k (by omega), us_k (by omega), rec1, h.tn]
        rw [us_at, us_at, e3, e8]
        have hS : ∀ p k, ¬ p = 3 + n → ¬ (p = 0 ∧ k = 3) → us (p_X1_shape (p_X1_becomeNew S n lv) n a b c) 0 3 (nI n + 1) p k = S p k := fun p k q1 q2 => by rw [us_ne _ _ q2, fr_shape q1, fr_becomeNew q1]
        have hT : ∀ k, ¬ (20 + 16 * n ≤ k ∧ k < 24 + 16 * n) → ¬ k = 8 → us (us (us (us (us (p_X7_record M) 1 (20 + 16 * n + 0) a) 1 (20 + 16 * n + 1) b) 1 (20 + 16 * n + 2) c) 1 (20 + 16 * n + 3) lv) 1 8 (nI n + 1) 1 k = M 1 k := fun k q1 q2 => by
          rw [us_k q2, us_k (by omega), us_k (by omega), us_k (by omega), us_k (by omega), rec1]
        have hL : ∀ k, us (p_X1_shape (p_X1_becomeNew S n lv) n a b c) 0 3 (nI n + 1) (3 + n) k = p_X1_shape (p_X1_becomeNew S n lv) n a b c (3 + n) k := fun k => us_p (by omega)
        have l7 : p_X1_shape (p_X1_becomeNew S n lv) n a b c (3 + n) 7 = (-6) := by simp [p_X1_shape, p_X1_becomeNew, us]
        obtain ⟨s7, s8, s9, s10, s11, s12, s13⟩ := h.hs
        obtain ⟨a1, a2, a3, a4, a5, a6⟩ := id h
        refine .ok (n := n + 1) (t := t) (d := d) rfl rfl rfl (by rw [nI_1, nI_pred]; exact nI_pos' (by omega)) ⟨⟨?_, by omega, ?_, ht, ?_, hd, ?_, fun k hk => ?_, fun k hk => ?_, ?_, ?_, ?_, ?_, ?_, ?_, ?_⟩, fun j hj => ?_, fun j h1 h2 f hf => ?_, fun j hj => ?_, fun k hk => ?_, fun j hj => ?_⟩ (fun p q hp => by rw [us_p hp, us_p hp, us_p hp, us_p hp, us_p hp])
        · rw [us_at, nI_1]
        · rw [hS _ _ (by omega) (by omega)]; exact h.et
        · rw [hS _ _ (by omega) (by omega)]; exact h.ed
        · rw [hS _ _ (by omega) (by omega)]; exact h.tk
        · rw [hS _ _ (by omega) (by omega), hT _ (by omega) (by omega)]; exact h.st k hk
        · rw [hS _ _ (by omega) (by omega)]; exact h.rg k hk
        · rw [hS _ _ (by omega) (by omega), hT _ (by omega) (by omega), s7]
        · rw [us_at, us_at]
        · rw [hS _ _ (by omega) (by omega), hT _ (by omega) (by omega), s9]
        · rw [hS _ _ (by omega) (by omega), hT _ (by omega) (by omega), s10]
        · rw [hS _ _ (by omega) (by omega), hT _ (by omega) (by omega), s11]
        · rw [hS _ _ (by omega) (by omega), hT _ (by omega) (by omega), s12]
        · rw [hS _ _ (by omega) (by omega), hT _ (by omega) (by omega), s13]
        · by_cases hjn : j = n
          · subst hjn
            have z : ∀ f, 4 ≤ f → f < 16 → us (us (us (us (us (p_X7_record M) 1 (20 + 16 * j + 0) a) 1 (20 + 16 * j + 1) b) 1 (20 + 16 * j + 2) c) 1 (20 + 16 * j + 3) lv) 1 8 (nI j + 1) 1 (20 + 16 * j + f) = 0 := fun f f1 f2 => by
              rw [hT _ (by omega) (by omega)]
              exact a3 j (Nat.le_refl _) (by omega) f f2
            unfold LnR LnI
            simp only [hL]
            rw [z 4 (by omega) (by omega), z 5 (by omega) (by omega), z 6 (by omega) (by omega), z 7 (by omega) (by omega), z 8 (by omega) (by omega), z 9 (by omega) (by omega), z 10 (by omega) (by omega), z 11 (by omega) (by omega), z 12 (by omega) (by omega), z 13 (by omega) (by omega), z 14 (by omega) (by omega)]
            unfold p_X1_shape p_X1_becomeNew
            simp (disch := omega) only [us_at, us_k]
            refine ⟨⟨?_, ?_, ?_, ?_, ?_, ?_, ?_, ?_, ?_, ?_, ?_, ?_, ?_, ?_, ?_⟩, g1, g2, g3, hz, z1_0, z1_0, bn_z, bn_z⟩ <;> first | trivial | rfl
          · exact ⟨(a2 j (by omega)).1.same (fun k => hS _ _ (by omega) (by omega)) (fun f hf => hT _ (by omega) (by omega)), (a2 j (by omega)).2.same (fun k => hS _ _ (by omega) (by omega))⟩
        · rw [hT _ (by omega) (by omega)]; exact a3 j (by omega) h2 f hf
        · exact ((a4 j hj).same (fun k => hS _ _ (by omega) (by omega)) (fun f hf => hT _ (by omega) (by omega))).more (by omega)
        · exact ((a5 k hk).same (fun f => hS _ _ (by omega) (by omega)) (fun f hf => hT _ (by omega) (by omega)) (fun j hj _ => hS _ _ (by omega) (by omega))).more (by omega)
        · by_cases hjn : j = n
          · subst hjn
            exact Or.inl ((hL 7).trans l7)
          · rcases a6 j (by omega) with q | ⟨k, k1, k2, k3⟩
            · exact Or.inl ((hS _ _ (by omega) (by omega)).trans q)
            · exact Or.inr ⟨k, k1, (hS _ _ (by omega) (by omega)).trans k2, (hS _ _ (by omega) (by omega)).trans k3⟩
theorem r_addTimer {g n t d : Nat} {S M : Sv} {ln pe fi : Int32} (h : Rl g n t d S (M 1)) : OpR g S M (p_X3_addTimer S ln pe fi) (p_X7_timer M ln pe fi) := by
  have hn := h.n12
  have ht := h.t6
  have hd := h.d8
  unfold p_X3_addTimer p_X7_timer
  try dsimp only
  rw [hasLine_eq h, in_w, in_w, h.hs.1]
  by_cases h1 : p_X3_hasLine S ln = 0
  · rw [if_pos h1, if_pos h1]
    exact .err rfl rfl (by decide)
  · rw [if_neg h1, if_neg h1]
    obtain ⟨i, hi, ei, hci⟩ := hasLine_ne h h1
    rw [hci]
    by_cases h2 : p_X6_within pe 1 200 = 0
    · rw [if_pos h2, if_pos h2]
      exact .err rfl rfl (by decide)
    · rw [if_neg h2, if_neg h2]
      by_cases h3 : p_X6_within fi (S 0 0) (S 0 0 + 500) = 0
      · rw [if_pos h3, if_pos h3]
        exact .err rfl rfl (by decide)
      · rw [if_neg h3, if_neg h3, h.cn5, h.cn9, h.tt]
        by_cases h4 : t = 6
        · rw [if_neg (show ¬ S 0 5 < 6 by rw [h.et, h4]; decide), if_pos (by rw [h4]; rfl)]
          exact .err rfl rfl (by decide)
        · rw [if_pos (show S 0 5 < 6 by rw [h.et]; exact nI_lt (b := 6) (by omega) (by decide)), if_neg (show ¬ nI t = 6 from fun z => h4 (nI_inj (b := 6) z))]
          obtain ⟨⟨r0, r1, r2, r3, -⟩, -, -, -, i3, -⟩ := h.2.1 i hi
          have e3 : p_X7_of M i 3 = S (3 + i) 3 := r3
          rw [e3]
          rcases i3 with z | z
          · rw [if_pos z, if_neg (show ¬ S (3 + i) 3 = 1 by rw [z]; decide)]
            have e5 : us (us (us S (16 + t) 0 ln) (16 + t) 1 pe) (16 + t) 2 fi 0 5 = nI t := by rw [us_p (by omega), us_p (by omega), us_p (by omega), h.et]
            have e9 : us (us (us (p_X7_record M) 1 (260 + 3 * t) ln) 1 (260 + 3 * t + 1) pe) 1 (260 + 3 * t + 2) fi 1 9 = nI t := by rw [us_k (by omega), us_k (by omega), us_k (by omega), rec1, h.tt]
            rw [us_at, us_at, e5, e9]
            have hS : ∀ p k, ¬ p = 16 + t → ¬ (p = 0 ∧ k = 5) → us (us (us (us S (16 + t) 0 ln) (16 + t) 1 pe) (16 + t) 2 fi) 0 5 (nI t + 1) p k = S p k := fun p k q1 q2 => by rw [us_ne _ _ q2, us_p q1, us_p q1, us_p q1]
            have hT : ∀ k, ¬ (260 + 3 * t ≤ k ∧ k < 263 + 3 * t) → ¬ k = 9 → us (us (us (us (p_X7_record M) 1 (260 + 3 * t) ln) 1 (260 + 3 * t + 1) pe) 1 (260 + 3 * t + 2) fi) 1 9 (nI t + 1) 1 k = M 1 k := fun k q1 q2 => by
              rw [us_k q2, us_k (by omega), us_k (by omega), us_k (by omega), rec1]
            obtain ⟨s7, s8, s9, s10, s11, s12, s13⟩ := h.hs
            obtain ⟨a1, a2, a3, a4, a5, a6⟩ := id h
            refine .ok (n := n) (t := t + 1) (d := d) rfl rfl rfl (by rw [nI_1, nI_pred]; exact nI_pos' (by omega)) ⟨⟨?_, hn, ?_, by omega, ?_, hd, ?_, fun k hk => ?_, fun k hk => ?_, ?_, ?_, ?_, ?_, ?_, ?_, ?_⟩, fun j hj => ⟨(a2 j hj).1.same (fun k => hS _ _ (by omega) (by omega)) (fun f hf => hT _ (by omega) (by omega)), (a2 j hj).2.same (fun k => hS _ _ (by omega) (by omega))⟩, fun j h1 h2 f hf => ?_, fun j hj => ?_, fun k hk => (a5 k hk).same (fun f => hS _ _ (by omega) (by omega)) (fun f hf => hT _ (by omega) (by omega)) (fun j hj _ => hS _ _ (by omega) (by omega)), fun j hj => ?_⟩ (fun p q hp => by rw [us_p hp, us_p hp, us_p hp, us_p hp])
            · rw [hS _ _ (by omega) (by omega)]; exact h.en
            · rw [us_at, nI_1]
            · rw [hS _ _ (by omega) (by omega)]; exact h.ed
            · rw [hS _ _ (by omega) (by omega)]; exact h.tk
            · rw [hS _ _ (by omega) (by omega), hT _ (by omega) (by omega)]; exact h.st k hk
            · rw [hS _ _ (by omega) (by omega)]; exact h.rg k hk
            · rw [hS _ _ (by omega) (by omega), hT _ (by omega) (by omega), s7]
            · rw [hS _ _ (by omega) (by omega), hT _ (by omega) (by omega), s8]
            · rw [us_at, us_at]
            · rw [hS _ _ (by omega) (by omega), hT _ (by omega) (by omega), s10]
            · rw [hS _ _ (by omega) (by omega), hT _ (by omega) (by omega), s11]
            · rw [hS _ _ (by omega) (by omega), hT _ (by omega) (by omega), s12]
            · rw [hS _ _ (by omega) (by omega), hT _ (by omega) (by omega), s13]
            · rw [hT _ (by omega) (by omega)]; exact a3 j h1 h2 f hf
            · by_cases hjt : j = t
              · subst hjt
                obtain ⟨q1, q2⟩ := within_ne h2
                have q0 : (0 : Int32) ≤ pe := Int32.le_trans (by decide) q1
                obtain ⟨k, hk, e⟩ := nI_of2 (M := 200) (n := 200) (by decide) (Int32.not_lt.mpr q0) q2
                have hk0 : 0 < k := Nat.pos_of_ne_zero fun z => by
                  rw [e, z] at q1
                  exact absurd q1 (by decide)
                unfold TmR
                simp (disch := omega) only [us_at, us_p, us_k]
                exact ⟨trivial, trivial, trivial, ⟨i, hi, ei⟩, k, hk0, hk, e⟩
              · exact (a4 j (by omega)).same (fun k => hS _ _ (by omega) (by omega)) (fun f hf => hT _ (by omega) (by omega))
            · rcases a6 j hj with q | ⟨k, k1, k2, k3⟩
              · exact Or.inl ((hS _ _ (by omega) (by omega)).trans q)
              · exact Or.inr ⟨k, k1, (hS _ _ (by omega) (by omega)).trans k2, (hS _ _ (by omega) (by omega)).trans k3⟩
          · rw [if_neg (show ¬ S (3 + i) 3 = 0 by rw [z]; decide), if_pos z]
            exact .err rfl rfl (by decide)
