/-! the service on top; waits; a tick -/
/-- only the head changes -/
theorem Rl.hd {g g' n t d : Nat} {S S' : Sv} {T T' : Nat → Int32} (h : Rl g n t d S T) (hg : g ≤ g') (hS : ∀ p k, ¬ p = 0 → ¬ p = 1 → S' p k = S p k) (hT : ∀ k, 14 ≤ k → T' k = T k) (hH : Hd g' n t d S' T') : Rl g' n t d S' T' := by
  obtain ⟨a1, a2, a3, a4, a5, a6⟩ := h
  refine ⟨hH, fun j hj => ⟨(a2 j hj).1.same (fun k => hS _ _ (by omega) (by omega)) (fun f hf => hT _ (by omega)), ((a2 j hj).2.mono hg).same (fun k => hS _ _ (by omega) (by omega))⟩, fun j h1 h2 f hf => ?_, fun j hj => (a4 j hj).same (fun k => hS _ _ (by omega) (by omega)) (fun f hf => hT _ (by omega)), fun k hk => (a5 k hk).same (fun f => hS _ _ (by omega) (by omega)) (fun f hf => hT _ (by omega)) (fun j _ _ => hS _ _ (by omega) (by omega)), fun j hj => ?_⟩
  · rw [hT _ (by omega)]
    exact a3 j h1 h2 f hf
  · rcases a6 j hj with q | ⟨k, k1, k2, k3⟩
    · exact Or.inl ((hS _ _ (by omega) (by omega)).trans q)
    · exact Or.inr ⟨k, k1, (hS _ _ (by omega) (by omega)).trans k2, (hS _ _ (by omega) (by omega)).trans k3⟩
theorem and_dec : ∀ q, q < 16 → ∃ r, r ≤ 15 ∧ nI q &&& (nI q - 1) = nI r := by decide +kernel
theorem bn_and {x : Int32} (h : Bn x 15) : Bn (x &&& (x - 1)) 15 := by
  obtain ⟨q, hq, e⟩ := bn_to h
  obtain ⟨r, hr, e2⟩ := and_dec q (by omega)
  rw [e, e2]
  exact bnI hr (by omega)
theorem lt_dec {x : Int32} (h : 0 < x) : (0 < x - 1 ∧ ¬ x - 1 = 0) ∨ (¬ 0 < x - 1 ∧ x - 1 = 0) := by
  obtain ⟨q, hq, e⟩ := nI_of (x := x) (fun z => Int32.lt_irrefl (Int32.lt_trans h z))
  have h0 : 0 < q := Nat.pos_of_ne_zero fun z => by rw [e, z, nI_0] at h; exact Int32.lt_irrefl h
  have e1 : x - 1 = nI (q - 1) := isb e (lI 1) h0
  rw [e1, ← nI_0]
  by_cases hq1 : q = 1
  · right
    rw [hq1]
    exact ⟨nI_nlt (Nat.le_refl _) (by omega), rfl⟩
  · left
    exact ⟨nI_lt (by omega) (by omega), fun z => by have := nI_inj z; omega⟩
/-- the top service got its tick: both rows -/
theorem r_tick1 {g n t e : Nat} {S S' : Sv} {T T' : Nat → Int32} (h : Rl g n t (e + 1) S T) (hS : ∀ p k, ¬ (p = 0 ∧ k = 8) → ¬ (p = 23 + e ∧ k = 2) → S' p k = S p k) (hT : ∀ k, ¬ k = 11 → ¬ k = 220 + 4 * e + 2 → T' k = T k)
    (s8 : S' 0 8 = S 0 8 + 1) (t11 : T' 11 = T 11 + 1) (s2 : S' (23 + e) 2 = S (23 + e) 2 - 1) (t2 : T' (220 + 4 * e + 2) = T (220 + 4 * e + 2) - 1) (hp : 0 < S (23 + e) 2 - 1) : Rl g n t (e + 1) S' T' := by
  have hn := h.n12
  have ht := h.t6
  have hd := h.d8
  have hed := h.ed
  obtain ⟨q7, q8, q9, q10, q11, q12, q13⟩ := h.hs
  obtain ⟨a1, a2, a3, a4, a5, a6⟩ := id h
  refine ⟨⟨(hS _ _ (by omega) (by omega)).trans h.en, hn, (hS _ _ (by omega) (by omega)).trans h.et, ht, (hS _ _ (by omega) (by omega)).trans hed, hd, ?_, fun k hk => ?_, fun k hk => ?_, ?_, ?_, ?_, ?_, ?_, ?_, ?_⟩, fun j hj => ⟨(a2 j hj).1.same (fun k => hS _ _ (by omega) (by omega)) (fun f hf => hT _ (by omega) (by omega)), (a2 j hj).2.same (fun k => hS _ _ (by omega) (by omega))⟩, fun j h1 h2 f hf => ?_, fun j hj => (a4 j hj).same (fun k => hS _ _ (by omega) (by omega)) (fun f hf => hT _ (by omega) (by omega)), fun k hk => ?_, fun j hj => ?_⟩
  · rw [hS _ _ (by omega) (by omega)]; exact h.tk
  · rw [hS _ _ (by omega) (by omega), hT _ (by omega) (by omega)]; exact h.st k hk
  · rw [hS _ _ (by omega) (by omega)]; exact h.rg k hk
  · rw [hS _ _ (by omega) (by omega), hT _ (by omega) (by omega), q7]
  · rw [hS _ _ (by omega) (by omega), hT _ (by omega) (by omega), q8]
  · rw [hS _ _ (by omega) (by omega), hT _ (by omega) (by omega), q9]
  · rw [hS _ _ (by omega) (by omega), hT _ (by omega) (by omega), q10]
  · rw [s8, t11, q11]
  · rw [hS _ _ (by omega) (by omega), hT _ (by omega) (by omega), q12]
  · rw [hS _ _ (by omega) (by omega), hT _ (by omega) (by omega), q13]
  · rw [hT _ (by omega) (by omega)]; exact a3 j h1 h2 f hf
  · by_cases hke : k = e
    · subst hke
      obtain ⟨b0, b1, b2, b3, ⟨i, i1, i2, i3⟩, b5⟩ := a5 k hk
      refine ⟨?_, ?_, ?_, ?_, ⟨i, i1, (hS _ _ (by omega) (by omega)).trans i2, (hS _ _ (by omega) (by omega)).trans i3⟩, ?_⟩
      · rw [hS _ _ (by omega) (by omega), hT _ (by omega) (by omega), b0]
      · rw [hS _ _ (by omega) (by omega), hT _ (by omega) (by omega), b1]
      · rw [s2, t2, b2]
      · rw [hS _ _ (by omega) (by omega), hT _ (by omega) (by omega), b3]
      · rw [s2]; exact hp
    · exact (a5 k hk).same (fun f => hS _ _ (by omega) (by omega)) (fun f hf => hT _ (by omega) (by omega)) (fun j _ _ => hS _ _ (by omega) (by omega))
  · rcases a6 j hj with q | ⟨k, k1, k2, k3⟩
    · exact Or.inl ((hS _ _ (by omega) (by omega)).trans q)
    · exact Or.inr ⟨k, k1, (hS _ _ (by omega) (by omega)).trans k2, (hS _ _ (by omega) (by omega)).trans k3⟩
/-- the top service leaves the nest: both rows, ahead of a level line's devices -/
theorem r_leave {g n t e i : Nat} {S S' : Sv} {T T' : Nat → Int32} (h : Rl g n t (e + 1) S T) (hi : i < n) (hl : S (23 + e) 0 = nI i) (hS : ∀ p k, ¬ (p = 0 ∧ (k = 7 ∨ k = 8)) → ¬ p = 23 + e → ¬ (p = 3 + i ∧ (k = 7 ∨ k = 12)) → S' p k = S p k) (hT : ∀ k, ¬ (k = 10 ∨ k = 11) → ¬ (220 + 4 * e ≤ k ∧ k < 224 + 4 * e) → ¬ k = 20 + 16 * i + 11 → T' k = T k)
    (s7 : S' 0 7 = S 0 7 - 1) (t10 : T' 10 = T 10 - 1) (s8 : S' 0 8 = S 0 8 + 1) (t11 : T' 11 = T 11 + 1) (sp : S' (3 + i) 7 = (-6)) (s12 : S' (3 + i) 12 = S (3 + i) 12 + 1) (te : T' (20 + 16 * i + 11) = T (20 + 16 * i + 11) + 1) : Rl g n t e S' T' := by
  have hn := h.n12
  have ht := h.t6
  have hd := h.d8
  have hed := h.ed
  obtain ⟨q7, q8, q9, q10, q11, q12, q13⟩ := h.hs
  obtain ⟨a1, a2, a3, a4, a5, a6⟩ := id h
  have hd1 : S' 0 7 = nI e := by rw [s7, hed]; exact nI_pred e
  have hme : S (3 + i) 7 = nI e := by
    obtain ⟨-, -, -, -, ⟨j, j1, j2, j3⟩, -⟩ := a5 e (by omega)
    rw [← nI_inj (j2.symm.trans hl)]
    exact j3
  refine ⟨⟨(hS _ _ (by omega) (by omega) (by omega)).trans h.en, hn, (hS _ _ (by omega) (by omega) (by omega)).trans h.et, ht, hd1, by omega, ?_, fun k hk => ?_, fun k hk => ?_, ?_, ?_, ?_, ?_, ?_, ?_, ?_⟩, fun j hj => ?_, fun j h1 h2 f hf => ?_, fun j hj => (a4 j hj).same (fun k => hS _ _ (by omega) (by omega) (by omega)) (fun f hf => hT _ (by omega) (by omega) (by omega)), fun k hk => ?_, fun j hj => ?_⟩
  · rw [hS _ _ (by omega) (by omega) (by omega)]; exact h.tk
  · rw [hS _ _ (by omega) (by omega) (by omega), hT _ (by omega) (by omega) (by omega)]; exact h.st k hk
  · rw [hS _ _ (by omega) (by omega) (by omega)]; exact h.rg k hk
  · rw [hS _ _ (by omega) (by omega) (by omega), hT _ (by omega) (by omega) (by omega), q7]
  · rw [hS _ _ (by omega) (by omega) (by omega), hT _ (by omega) (by omega) (by omega), q8]
  · rw [hS _ _ (by omega) (by omega) (by omega), hT _ (by omega) (by omega) (by omega), q9]
  · rw [s7, t10, q10]
  · rw [s8, t11, q11]
  · rw [hS _ _ (by omega) (by omega) (by omega), hT _ (by omega) (by omega) (by omega), q12]
  · rw [hS _ _ (by omega) (by omega) (by omega), hT _ (by omega) (by omega) (by omega), q13]
  · by_cases hji : j = i
    · subst hji
      have hS' : ∀ k, ¬ (k = 7 ∨ k = 12) → S' (3 + j) k = S (3 + j) k := fun k hk => hS _ _ (by omega) (by omega) (by omega)
      have hT' : ∀ f, f < 16 → ¬ f = 11 → T' (20 + 16 * j + f) = T (20 + 16 * j + f) := fun f hf hne => hT _ (by omega) (by omega) (by omega)
      obtain ⟨⟨r0, r1, r2, r3, r4, r5, r6, r7, r8, r9, r10, r11, r12, r13, r14⟩, hI⟩ := a2 j hj
      refine ⟨⟨?_, ?_, ?_, ?_, ?_, ?_, ?_, ?_, ?_, ?_, ?_, ?_, ?_, ?_, ?_⟩, ?_⟩
      · rw [hS' _ (by omega), hT' _ (by omega) (by omega), r0]
      · rw [hS' _ (by omega), hT' _ (by omega) (by omega), r1]
      · rw [hS' _ (by omega), hT' _ (by omega) (by omega), r2]
      · rw [hS' _ (by omega), hT' _ (by omega) (by omega), r3]
      · rw [hS' _ (by omega), hT' _ (by omega) (by omega), r4]
      · rw [hS' _ (by omega), hT' _ (by omega) (by omega), r5]
      · rw [hS' _ (by omega), hS' _ (by omega), hT' _ (by omega) (by omega), r6]
      · rw [hS' _ (by omega), hT' _ (by omega) (by omega), r7]
      · rw [hS' _ (by omega), hT' _ (by omega) (by omega), r8]
      · rw [hS' _ (by omega), hT' _ (by omega) (by omega), r9]
      · rw [hS' _ (by omega), hT' _ (by omega) (by omega), r10]
      · rw [te, s12, r11]
      · rw [hS' _ (by omega), hT' _ (by omega) (by omega), r12]
      · rw [hS' _ (by omega), hT' _ (by omega) (by omega), r13]
      · rw [hS' _ (by omega), hT' _ (by omega) (by omega), r14]
      · unfold LnI at hI ⊢
        rw [hS' 0 (by omega), hS' 1 (by omega), hS' 3 (by omega), hS' 4 (by omega), hS' 5 (by omega), hS' 8 (by omega), hS' 11 (by omega)]
        exact hI
    · exact ⟨(a2 j hj).1.same (fun k => hS _ _ (by omega) (by omega) (by omega)) (fun f hf => hT _ (by omega) (by omega) (by omega)), (a2 j hj).2.same (fun k => hS _ _ (by omega) (by omega) (by omega))⟩
  · rw [hT _ (by omega) (by omega) (by omega)]; exact a3 j h1 h2 f hf
  · have hk1 : k < e + 1 := by omega
    obtain ⟨-, -, -, -, ⟨j2, j2n, e2, e3⟩, -⟩ := a5 k hk1
    refine (a5 k hk1).same (fun f => hS _ _ (by omega) (by omega) (by omega)) (fun f hf => hT _ (by omega) (by omega) (by omega)) (fun j hj ej => ?_)
    by_cases hji : j = i
    · have : j2 = i := hji ▸ nI_inj (e2.symm.trans ej)
      rw [this, hme] at e3
      have := nI_inj e3
      omega
    · exact hS _ _ (by omega) (by omega) (by omega)
  · by_cases hji : j = i
    · subst hji
      exact Or.inl sp
    · rcases a6 j hj with q | ⟨k, k1, k2, k3⟩
      · exact Or.inl ((hS _ _ (by omega) (by omega) (by omega)).trans q)
      · have hke : ¬ k = e := fun z => by
          rw [z, hl] at k3
          exact hji (nI_inj k3).symm
        exact Or.inr ⟨k, by omega, (hS _ _ (by omega) (by omega) (by omega)).trans k2, (hS _ _ (by omega) (by omega) (by omega)).trans k3⟩
/-- a line's devices are set -/
theorem r_devs {g n t d i : Nat} {S M : Sv} {v : Int32} (h : Rl g n t d S (M 1)) (hi : i < n) (hv : Bn v 15) : Rl g n t d (us S (3 + i) 8 v) (us M 1 (20 + 16 * i + 7) v 1) := by
  obtain ⟨⟨r0, r1, r2, r3, r4, r5, r6, r7, r8, r9, r10, r11, r12, r13, r14⟩, i0, i1, i1p, i3, i4, i5, i8, i11⟩ := h.2.1 i hi
  have r0' : M 1 (20 + 16 * i) = S (3 + i) 0 := r0
  refine h.line hi (fun p k hp => us_p hp) (fun k hk => us_k (by omega)) (us_k (by omega)) ?_ ?_
  · unfold LnR
    simp (disch := omega) [us_at, us_k, r0', r1, r2, r3, r4, r5, r6, r8, r9, r10, r11, r12, r13, r14]
  · unfold LnI
    simp (disch := omega) [us_at, us_k, i0, i1, i1p, i3, i4, i5, i11, hv]
