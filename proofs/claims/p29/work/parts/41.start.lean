/-! from cells laid to the heap as numbers -/
theorem arrV_cg {cA : ClassId} {n : Nat} {f g : Nat → Value} (h : ∀ k, k < n → f k = g k) : arrV cA n f = arrV cA n g := by
  unfold arrV
  congr 1
  apply Array.ext
  · simp
  · intro i h1 h2
    simp at h1
    simpa using h i (by omega)
theorem cellV.congr {E : mE} {f g : Nat → Value} {H : Heap} {r p : Nat} (h : cellV E f H r p) (hfg : ∀ k, k < (kd r p).2 → f k = g k) (hN : ∀ q, (kd r p).1 < 10 → kcl[(kd r p).1]? = some q → q.2.2 = (kd r p).2) : cellV E g H r p := by
  unfold cellV at h ⊢
  split
  · next h2 =>
    rw [if_pos h2] at h
    obtain ⟨q, g1, g2⟩ := h
    exact ⟨q, g1, g2.to fun k hk => hfg k (by rw [← hN q h2 g1]; exact hk)⟩
  · next h2 =>
    rw [if_neg h2] at h
    unfold arA at h ⊢
    rw [← arrV_cg hfg]
    exact h
theorem kdN {E : mE} {r p : Nat} (h : live E r p) : ∀ q, (kd r p).1 < 10 → kcl[(kd r p).1]? = some q → q.2.2 = (kd r p).2 := by
  unfold kd
  repeat' split
  all_goals first | (intro q h1; exact absurd h1 (by decide)) | (intro q _ h2; cases h2; rfl)
theorem PB.mb2 {E : mE} {V : Vs} {L : Nat → Nat → Prop} {H : Heap} {μ : Mu} (h : PB E V L H) (hL : ∀ r p, live E r p → L r p ∧ ∀ k, k < (kd r p).2 → V r p k = sl E μ r p k) : MB E μ H := by
  intro r p hl
  obtain ⟨h1, h2⟩ := hL r p hl
  exact (h r p h1).2.congr h2 (kdN hl)
