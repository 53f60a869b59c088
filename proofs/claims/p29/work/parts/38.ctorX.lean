/-! class InterruptInn's constructor -/
def XV (V : Vs) (E : mE) (d : Nat → Value) (k m : Nat) : Vs := fun r' q' => if r' < k then SVf E r' (d3 E r' dS) 12 6 8 q' else if r' = 11 ∧ q' = 0 then d else if r' = 11 ∧ q' = 1 then (fun i => if i < m then .ref (ea E (2 + i) 0) else .null) else V r' q'
def XL (L : Nat → Nat → Prop) (k b : Nat) : Nat → Nat → Prop := fun r' q' => L r' q' ∨ (r' < k ∧ q' < 31) ∨ (r' = 11 ∧ 1 ≤ q' ∧ q' < b)
theorem XV_0 {V : Vs} {E : mE} {d : Nat → Value} {k m : Nat} (hk : k ≤ 4) : XV V E d k m 11 0 = d := by
  unfold XV
  rw [if_neg (by omega), if_pos ⟨rfl, rfl⟩]
theorem XV_1 {V : Vs} {E : mE} {d : Nat → Value} {k m : Nat} (hk : k ≤ 4) : XV V E d k m 11 1 = fun i => if i < m then .ref (ea E (2 + i) 0) else .null := by
  unfold XV
  rw [if_neg (by omega), if_neg (by omega), if_pos ⟨rfl, rfl⟩]
theorem enX {V : Vs} {E : mE} {L : Nat → Nat → Prop} (hL : ∀ r' q', L r' q' → r' = 12 ∨ (r' = 11 ∧ q' = 0)) : ∀ r' q', XL L 0 1 r' q' → L r' q' ∧ XV V E (V 11 0) 0 0 r' q' = V r' q' := by
  intro r' q' h
  have h1 : L r' q' := by
    rcases h with h | h | h
    · exact h
    · omega
    · omega
  refine ⟨h1, ?_⟩
  unfold XV
  rw [if_neg (by omega)]
  rcases hL _ _ h1 with rfl | ⟨rfl, rfl⟩
  · rw [if_neg (by omega), if_neg (by omega)]
  · rw [if_pos ⟨rfl, rfl⟩]
theorem svX {V : Vs} {E : mE} {d : Nat → Value} {L : Nat → Nat → Prop} {k m b : Nat} : ∀ r' q', XL L (k + 1) b r' q' → LSr (fun r' q' => XL L k b r' q' ∨ (r' = k ∧ q' = 0)) k 31 r' q' ∧ XV V E d (k + 1) m r' q' = VSr (vs (XV V E d k m) k 0 dS) E k (d3 E k dS) 12 6 8 r' q' := by
  intro r' q' h
  refine ⟨?_, ?_⟩
  · rcases h with h | ⟨h1, h2⟩ | h
    · exact Or.inl (Or.inl (Or.inl h))
    · by_cases hr : r' = k
      · by_cases hq : q' = 0
        · exact Or.inl (Or.inr ⟨hr, hq⟩)
        · exact Or.inr ⟨hr, by omega, h2⟩
      · exact Or.inl (Or.inl (Or.inr (Or.inl ⟨by omega, h2⟩)))
    · exact Or.inl (Or.inl (Or.inr (Or.inr h)))
  · unfold VSr
    by_cases hr : r' = k
    · subst hr
      rw [if_pos rfl]
      unfold XV
      rw [if_pos (by omega)]
    · rw [if_neg hr, vs_ne _ _ (by omega)]
      unfold XV
      by_cases h1 : r' < k
      · rw [if_pos h1, if_pos (by omega)]
      · rw [if_neg h1, if_neg (by omega)]
theorem ptX {V : Vs} {E : mE} {d : Nat → Value} {k m f : Nat} {v : Value} (hk : k ≤ 4) : ∀ r' q', XV V E (updV d f v) k m r' q' = vs (XV V E d k m) 11 0 (updV (XV V E d k m 11 0) f v) r' q' := by
  intro r' q'
  by_cases h : r' = 11 ∧ q' = 0
  · obtain ⟨rfl, rfl⟩ := h
    rw [vs_at, XV_0 hk, XV_0 hk]
  · rw [vs_ne _ _ h]
    unfold XV
    rw [if_neg h, if_neg h]
theorem arX {V : Vs} {E : mE} {d : Nat → Value} {L : Nat → Nat → Prop} {k : Nat} (hk : k ≤ 4) : ∀ r' q', XL L k 2 r' q' → (XL L k 1 r' q' ∨ (r' = 11 ∧ q' = 1)) ∧ XV V E d k 0 r' q' = vs (XV V E d k 0) 11 1 (fun _ => .null) r' q' := by
  intro r' q' h
  refine ⟨?_, ?_⟩
  · rcases h with h | h | ⟨h1, h2, h3⟩
    · exact Or.inl (Or.inl h)
    · exact Or.inl (Or.inr (Or.inl h))
    · exact Or.inr ⟨h1, by omega⟩
  · by_cases h : r' = 11 ∧ q' = 1
    · obtain ⟨rfl, rfl⟩ := h
      rw [vs_at, XV_1 hk]
      funext i
      exact if_neg (by omega)
    · rw [vs_ne _ _ h]
theorem asX {V : Vs} {E : mE} {d : Nat → Value} {k m : Nat} (hk : k ≤ 4) : ∀ r' q', XV V E d k (m + 1) r' q' = vs (XV V E d k m) 11 1 (updV (XV V E d k m 11 1) m (.ref (ea E (2 + m) 0))) r' q' := by
  intro r' q'
  by_cases h : r' = 11 ∧ q' = 1
  · obtain ⟨rfl, rfl⟩ := h
    rw [vs_at, XV_1 hk, XV_1 hk]
    funext i
    by_cases hi : i = m
    · subst hi
      rw [updV_at, if_pos (by omega)]
    · simp only [updV, if_neg hi]
      by_cases h2 : i < m
      · rw [if_pos h2, if_pos (by omega)]
      · rw [if_neg h2, if_neg (by omega)]
  · rw [vs_ne _ _ h]
    unfold XV
    rw [if_neg h, if_neg h]
