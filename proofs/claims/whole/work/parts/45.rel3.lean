/-! the line that is found -/
theorem mayB {S : Sv} {j : Nat} : (p_X1_mayBegin S j = 0) = ¬ (¬ S (3 + j) 5 = 0 ∧ S (3 + j) 4 = 0 ∧ S (3 + j) 7 = (-6)) := by
  unfold p_X1_mayBegin
  by_cases h1 : S (3 + j) 5 = 0 <;> by_cases h2 : S (3 + j) 4 = 0 <;> by_cases h3 : S (3 + j) 7 = (-6) <;> simp [h1, h2, h3]
/-- the two searches say the same so far -/
def FdI (S : Sv) (m : Nat) (σ : Int32 × Int32) (f : Int32) : Prop :=
  σ.2 = f ∧ ((f = (-6) ∧ σ.1 = 0) ∨ ∃ b, b < m ∧ f = nI b ∧ S (3 + b) 5 = 1 ∧ S (3 + b) 7 = (-6) ∧ σ.1 = p_X1_presentRank S b (S 1 0) (S 1 1))
theorem fdr_step {g n t d : Nat} {S M : Sv} (h : Rl g n t d S (M 1)) {m : Nat} (hm : m < n) {σ : Int32 × Int32} {f : Int32} (hI : FdI S m σ f) : FdI S (m + 1) (q_X3_foundLine_7 S m σ) (q_X7_found_5 M m f) := by
  have hn := h.n12
  obtain ⟨v1, v2⟩ := σ
  obtain ⟨rfl, hI⟩ := hI
  have hp := r_place h hm
  have hpl := pl_neg (h.pl hm)
  have hpr := r_present h hm
  obtain ⟨⟨r0, r1, r2, r3, r4, r5, r6, -⟩, -, -, -, -, i4, i5, -⟩ := h.2.1 m hm
  have e6 : M 1 6 = S 1 6 := h.st 6 (by omega)
  have keep : FdI S (m + 1) (v1, v2) v2 := ⟨rfl, by
    rcases hI with q | ⟨b, b1, b2, b3, b4⟩
    · exact Or.inl q
    · exact Or.inr ⟨b, by omega, b2, b3, b4⟩⟩
  unfold q_X3_foundLine_7 q_X7_found_5 p_X7_waits p_X7_of
  dsimp only
  rw [hp, hpr, r4, r5, e6]
  by_cases hmb : p_X1_mayBegin S m = 0
  · simp only [if_pos hmb]
    rw [mayB] at hmb
    have hv : ∀ z : Int32, (if (if S (3 + m) 5 = 1 then (1 : Int32) else 0) = 0 then v2 else if 0 ≤ S (3 + m) 7 then v2 else if S (3 + m) 4 = 0 then z else v2) = v2 := fun z => by
      rcases i5 with h5 | h5
      · simp [h5]
      · by_cases h7 : S (3 + m) 7 = (-6)
        · by_cases h4 : S (3 + m) 4 = 0
          · exact absurd ⟨by rw [h5]; decide, h4, h7⟩ hmb
          · simp [h4]
        · rw [if_pos (hpl.mpr h7)]; simp
    rw [hv]
    exact keep
  · simp only [if_neg hmb]
    rw [mayB] at hmb
    obtain ⟨h5, h4, h7⟩ := Classical.not_not.mp hmb
    have h51 := i5.resolve_left h5
    have hn7 : ¬ (0 : Int32) ≤ S (3 + m) 7 := fun q => hpl.mp q h7
    simp only [if_pos h51, if_neg (show ¬ (1 : Int32) = 0 by decide), if_neg hn7, if_pos h4]
    generalize hx : p_X1_presentRank S m (S 1 0) (S 1 1) = x at hpr ⊢
    by_cases hb : S 1 6 ≤ x
    · simp only [if_pos hb, if_neg (Int32.not_lt.mpr hb)]
      have new : FdI S (m + 1) (x, nI m) (nI m) := ⟨rfl, Or.inr ⟨m, by omega, rfl, h51, h7, hx.symm⟩⟩
      rcases hI with ⟨rfl, hv1⟩ | ⟨b, b1, rfl, b3, -, b4⟩
      · rw [if_pos (by decide : ((-6 : Int32)) < 0)]
        simpa using new
      · have hbn : b < n := by omega
        have hc : cn (nI b) = b := cn_nI (by omega)
        obtain ⟨⟨-, -, -, -, -, -, q6, -⟩, -⟩ := h.2.1 b hbn
        rw [if_neg (nI_n6 (k := b) (by omega)), if_neg (nI_pos (by omega)), hc, r_present h hbn, r6, q6, h51, b3, ← b4]
        simp only [if_neg (show ¬ (1 : Int32) = 0 by decide)]
        dsimp only at b4
        by_cases c1 : v1 < x
        · simp only [if_pos c1, if_neg (show ¬ (1 : Int32) = 0 by decide)]
          exact new
        · simp only [if_neg c1]
          by_cases c2 : x = v1
          · simp only [if_pos c2]
            by_cases c3 : S (3 + m) 6 ≤ S (3 + b) 6
            · simp only [if_pos c3, if_true]
              exact keep
            · simp only [if_neg c3, if_neg (show ¬ (1 : Int32) = 0 by decide)]
              exact new
          · simp only [if_neg c2, if_true]
            exact keep
    · simp only [if_neg hb, if_pos (Int32.not_le.mp hb)]
      exact keep
theorem fdr_it {g n t d : Nat} {S M : Sv} (h : Rl g n t d S (M 1)) : ∀ m, m ≤ n → FdI S m (itN (q_X3_foundLine_7 S) m (0, (-6))) (itN (q_X7_found_5 M) m (-6)) := by
  intro m
  induction m with
  | zero => intro _; exact ⟨rfl, Or.inl ⟨rfl, rfl⟩⟩
  | succ m ih =>
    intro hm
    rw [itN_s, itN_s]
    exact fdr_step h (by omega) (ih (by omega))
theorem r_found {g n t d : Nat} {S M : Sv} (h : Rl g n t d S (M 1)) : p_X7_found M = p_X3_foundLine S ∧ (p_X3_foundLine S = (-6) ∨ ∃ b, b < n ∧ p_X3_foundLine S = nI b ∧ S (3 + b) 5 = 1 ∧ S (3 + b) 7 = (-6)) := by
  have h1 := fdr_it h n (Nat.le_refl _)
  unfold p_X7_found p_X3_foundLine
  dsimp only
  rw [h.cn8, h.cn3]
  obtain ⟨e, q⟩ := h1
  refine ⟨e.symm, ?_⟩
  rw [e]
  rcases q with q | ⟨b, b1, b2, b3, b7, -⟩
  · exact Or.inl q.1
  · exact Or.inr ⟨b, b1, b2, b3, b7⟩
