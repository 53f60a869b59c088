/-! class InterruptInn: a text is carried out -/

theorem wf_line {S S' : Sv} {i : Nat} (h : Wf S) (hi : i < 12) (hk : ∀ p k, ¬ p = 3 + i → S' p k = S p k) : Wf S' := h.same (hk _ _ (by omega)) (hk _ _ (by omega)) (hk _ _ (by omega)) (fun q _ => hk _ _ (by omega)) (fun q _ => hk _ _ (by omega))
theorem hasL {S : Sv} {ln : Int32} (h : Wf S) (h1 : ¬ p_X3_hasLine S ln = 0) : cn ln < 12 := by
  have := (wL (a := ln) h.1 (by decide) (x := p_X6_within ln 0 (S 0 3 - 1)) rfl h1).2
  have h2 := h.1.2
  omega
theorem wf_raiseL {S : Sv} {ln : Int32} (h : Wf S) : Wf (p_X3_raiseLine S ln).2 := by
  unfold p_X3_raiseLine
  dsimp only
  split
  · exact h
  · next h1 =>
    split
    · exact wf_line h (hasL h h1) fun p k hp => fr_takeEdge hp
    · exact h
theorem wf_holdL {S : Sv} {ln dv up : Int32} (h : Wf S) : Wf (p_X3_holdLine S ln dv up).2 := by
  unfold p_X3_holdLine
  dsimp only
  split
  · exact h
  · next h1 =>
    split
    · exact h
    · split
      · exact h
      · split
        · exact h
        · exact wf_line h (hasL h h1) fun p k hp => fr_moveDevice hp
theorem wf_maskL {S : Sv} {ln i : Int32} (h : Wf S) : Wf (p_X3_maskLine S ln i).2 := by
  unfold p_X3_maskLine
  dsimp only
  split
  · exact h
  · next h1 =>
    split
    · exact h
    · exact wf_line h (hasL h h1) fun p k hp => us_ne _ _ (by omega)
theorem st_s {v : Int32} {j : Nat} (h : Bn v 81 ∧ cn v ≤ j) : Bn v 81 ∧ cn v ≤ j + 1 := ⟨h.1, Nat.le_succ_of_le h.2⟩
theorem st_e {j : Nat} (h : j < 81) : Bn (nI j + 1) 81 ∧ cn (nI j + 1) ≤ j + 1 := by
  have e : nI j + 1 = nI (j + 1) := ia rfl (lI 1)
  have e2 : cn (nI (j + 1)) = j + 1 := nI_clamp (by omega)
  rw [e, e2]
  exact ⟨bnI (by omega) (by omega), Nat.le_refl _⟩
