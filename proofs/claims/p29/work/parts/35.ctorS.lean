/-! class Server's constructor, class Pad's -/
theorem updV_at (f : Nat → Value) (k : Nat) (v : Value) : updV f k v k = v := by simp [updV]
def SVf (E : mE) (r : Nat) (d : Nat → Value) (a b c : Nat) (q : Nat) : Nat → Value := fun k => if q = 0 then d k else if q = 1 then .int (vFst k) else if q = 2 then (if k < a then .ref (ea E r (3 + k)) else .null) else if q = 15 then (if k < b then .ref (ea E r (16 + k)) else .null) else if q = 22 then (if k < c then .ref (ea E r (23 + k)) else .null) else .int 0
def VSr (V : Vs) (E : mE) (r : Nat) (d : Nat → Value) (a b c : Nat) : Vs := fun r' q' => if r' = r then SVf E r d a b c q' else V r' q'
def LSr (L : Nat → Nat → Prop) (r m : Nat) : Nat → Nat → Prop := fun r' q' => L r' q' ∨ (r' = r ∧ 1 ≤ q' ∧ q' < m)
theorem dfl1 (k : Nat) : defaultValue (tyX1 k) = .int 0 := by unfold tyX1; split <;> rfl
theorem dfl5 (k : Nat) : defaultValue (tyX5 k) = .int 0 := by unfold tyX5; split <;> rfl
theorem dfl4 (k : Nat) : defaultValue (tyX4 k) = .int 0 := by unfold tyX4; split <;> rfl
theorem st1 {V : Vs} {E : mE} {r : Nat} {d : Nat → Value} {L : Nat → Nat → Prop} {b c j : Nat} (hj : j < 12) : ∀ r' q', LSr L r (3 + (j + 1)) r' q' → (LSr L r (3 + j) r' q' ∨ (r' = r ∧ q' = 3 + j)) ∧ VSr V E r d (j + 1) b c r' q' = vs (vs (VSr V E r d j b c) r (3 + j) (fun k => defaultValue (tyX1 k))) r 2 (updV ((vs (VSr V E r d j b c) r (3 + j) (fun k => defaultValue (tyX1 k))) r 2) j (.ref (ea E r (3 + j)))) r' q' := by
  intro r' q' h
  refine ⟨?_, ?_⟩
  · rcases h with h | ⟨h1, h2, h3⟩
    · exact Or.inl (Or.inl h)
    · by_cases hq : q' = 3 + j
      · exact Or.inr ⟨h1, hq⟩
      · exact Or.inl (Or.inr ⟨h1, h2, by omega⟩)
  · by_cases hr : r' = r
    · subst hr
      by_cases h2 : q' = 2
      · subst h2
        rw [vs_at, vs_ne _ _ (by omega)]
        funext k
        by_cases hk : k = j
        · subst hk
          rw [updV_at]
          simp [VSr, SVf]
        · simp only [updV, if_neg hk, VSr, SVf, if_true]
          by_cases hkj : k < j
          · simp [hkj, Nat.lt_succ_of_lt hkj]
          · have : ¬ k < j + 1 := by omega
            simp [hkj, this]
      · rw [vs_ne _ _ (by omega)]
        by_cases h3 : q' = 3 + j
        · subst h3
          rw [vs_at]
          funext k
          rw [dfl1]
          simp only [VSr, SVf, if_true]
          rw [if_neg (by omega), if_neg (by omega), if_neg (by omega), if_neg (by omega), if_neg (by omega)]
        · rw [vs_ne _ _ (by omega)]
          simp only [VSr, if_true]
          funext k
          unfold SVf
          simp only [h2, if_false]
    · rw [vs_ne _ _ (by omega), vs_ne _ _ (by omega)]
      simp only [VSr, if_neg hr]
theorem st2 {V : Vs} {E : mE} {r : Nat} {d : Nat → Value} {L : Nat → Nat → Prop} {a c j : Nat} (hj : j < 6) : ∀ r' q', LSr L r (16 + (j + 1)) r' q' → (LSr L r (16 + j) r' q' ∨ (r' = r ∧ q' = 16 + j)) ∧ VSr V E r d a (j + 1) c r' q' = vs (vs (VSr V E r d a j c) r (16 + j) (fun k => defaultValue (tyX5 k))) r 15 (updV ((vs (VSr V E r d a j c) r (16 + j) (fun k => defaultValue (tyX5 k))) r 15) j (.ref (ea E r (16 + j)))) r' q' := by
  intro r' q' h
  refine ⟨?_, ?_⟩
  · rcases h with h | ⟨h1, h2, h3⟩
    · exact Or.inl (Or.inl h)
    · by_cases hq : q' = 16 + j
      · exact Or.inr ⟨h1, hq⟩
      · exact Or.inl (Or.inr ⟨h1, h2, by omega⟩)
  · by_cases hr : r' = r
    · subst hr
      by_cases h2 : q' = 15
      · subst h2
        rw [vs_at, vs_ne _ _ (by omega)]
        funext k
        by_cases hk : k = j
        · subst hk
          rw [updV_at]
          simp [VSr, SVf]
        · simp only [updV, if_neg hk, VSr, SVf, if_true]
          by_cases hkj : k < j
          · simp [hkj, Nat.lt_succ_of_lt hkj]
          · have : ¬ k < j + 1 := by omega
            simp [hkj, this]
      · rw [vs_ne _ _ (by omega)]
        by_cases h3 : q' = 16 + j
        · subst h3
          rw [vs_at]
          funext k
          rw [dfl5]
          simp only [VSr, SVf, if_true]
          rw [if_neg (by omega), if_neg (by omega), if_neg (by omega), if_neg (by omega), if_neg (by omega)]
        · rw [vs_ne _ _ (by omega)]
          simp only [VSr, if_true]
          funext k
          unfold SVf
          simp only [h2, if_false]
    · rw [vs_ne _ _ (by omega), vs_ne _ _ (by omega)]
      simp only [VSr, if_neg hr]
theorem st3 {V : Vs} {E : mE} {r : Nat} {d : Nat → Value} {L : Nat → Nat → Prop} {a b j : Nat} (hj : j < 8) : ∀ r' q', LSr L r (23 + (j + 1)) r' q' → (LSr L r (23 + j) r' q' ∨ (r' = r ∧ q' = 23 + j)) ∧ VSr V E r d a b (j + 1) r' q' = vs (vs (VSr V E r d a b j) r (23 + j) (fun k => defaultValue (tyX4 k))) r 22 (updV ((vs (VSr V E r d a b j) r (23 + j) (fun k => defaultValue (tyX4 k))) r 22) j (.ref (ea E r (23 + j)))) r' q' := by
  intro r' q' h
  refine ⟨?_, ?_⟩
  · rcases h with h | ⟨h1, h2, h3⟩
    · exact Or.inl (Or.inl h)
    · by_cases hq : q' = 23 + j
      · exact Or.inr ⟨h1, hq⟩
      · exact Or.inl (Or.inr ⟨h1, h2, by omega⟩)
  · by_cases hr : r' = r
    · subst hr
      by_cases h2 : q' = 22
      · subst h2
        rw [vs_at, vs_ne _ _ (by omega)]
        funext k
        by_cases hk : k = j
        · subst hk
          rw [updV_at]
          simp [VSr, SVf]
        · simp only [updV, if_neg hk, VSr, SVf, if_true]
          by_cases hkj : k < j
          · simp [hkj, Nat.lt_succ_of_lt hkj]
          · have : ¬ k < j + 1 := by omega
            simp [hkj, this]
      · rw [vs_ne _ _ (by omega)]
        by_cases h3 : q' = 23 + j
        · subst h3
          rw [vs_at]
          funext k
          rw [dfl4]
          simp only [VSr, SVf, if_true]
          rw [if_neg (by omega), if_neg (by omega), if_neg (by omega), if_neg (by omega), if_neg (by omega)]
        · rw [vs_ne _ _ (by omega)]
          simp only [VSr, if_true]
          funext k
          unfold SVf
          simp only [h2, if_false]
    · rw [vs_ne _ _ (by omega), vs_ne _ _ (by omega)]
      simp only [VSr, if_neg hr]
