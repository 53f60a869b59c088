/-! place, present rank, the found line -/
theorem pl_it {M : Sv} {i : Nat} {d : Nat} (hd : d ≤ 8) (h : ∀ k, k < d → ¬ M 1 (220 + 4 * k) = nI i) : ∀ m, m ≤ d → itN (q_X7_placeOf_5 M (nI i)) m (-6) = (-6) := by
  intro m
  induction m with
  | zero => intro _; rfl
  | succ m ih =>
    intro hm
    rw [itN_s]
    unfold q_X7_placeOf_5
    dsimp only
    rw [if_neg (h m (by omega))]
    exact ih (by omega)
theorem pl_it2 {M : Sv} {i : Nat} {d k0 : Nat} (hk0 : k0 < d) (h : ∀ k, k < d → ¬ k = k0 → ¬ M 1 (220 + 4 * k) = nI i) (h0 : M 1 (220 + 4 * k0) = nI i) : ∀ m, m ≤ d → itN (q_X7_placeOf_5 M (nI i)) m (-6) = if k0 < m then nI k0 else (-6) := by
  intro m
  induction m with
  | zero => intro _; exact (if_neg (by omega)).symm
  | succ m ih =>
    intro hm
    rw [itN_s]
    have ih := ih (by omega)
    generalize itN (q_X7_placeOf_5 M (nI i)) m (-6) = σ at ih ⊢
    unfold q_X7_placeOf_5
    dsimp only
    by_cases hmk : m = k0
    · rw [hmk, if_pos h0, if_pos (by omega)]
    · rw [if_neg (h m (by omega) hmk), ih]
      by_cases q : k0 < m
      · rw [if_pos q, if_pos (by omega)]
      · rw [if_neg q, if_neg (by omega)]
theorem r_place {g n t d : Nat} {S M : Sv} {i : Nat} (h : Rl g n t d S (M 1)) (hi : i < n) : p_X7_placeOf M (nI i) = S (3 + i) 7 := by
  have hn := h.n12
  have hd := h.d8
  unfold p_X7_placeOf
  dsimp only
  rw [h.cn10]
  have hu : ∀ k, k < d → M 1 (220 + 4 * k) = nI i → S (3 + i) 7 = nI k := fun k hk e => by
    obtain ⟨b1, -, -, -, ⟨j, j1, j2, j3⟩, -⟩ := h.2.2.2.2.1 k hk
    have hji : j = i := nI_inj (j2.symm.trans (b1.symm.trans e))
    rw [← hji]
    exact j3
  rcases h.2.2.2.2.2 i hi with q | ⟨k, k1, k2, k3⟩
  · rw [q]
    exact pl_it hd (fun k hk e => n6_nI (by omega) (q.symm.trans (hu k hk e))) d (Nat.le_refl _)
  · rw [k2, pl_it2 k1 (fun j hj hjk e => hjk (nI_inj ((hu j hj e).symm.trans k2))) ((h.2.2.2.2.1 k k1).1.trans k3) d (Nat.le_refl _), if_pos k1]
theorem Rl.pl {g n t d : Nat} {S : Sv} {T : Nat → Int32} {i : Nat} (h : Rl g n t d S T) (hi : i < n) : S (3 + i) 7 = (-6) ∨ ∃ k, k < 8 ∧ S (3 + i) 7 = nI k := by
  have hd := h.d8
  rcases h.2.2.2.2.2 i hi with q | ⟨k, k1, k2, -⟩
  · exact Or.inl q
  · exact Or.inr ⟨k, by omega, k2⟩
/-- a place is below 0 just where it is none -/
theorem pl_neg {x : Int32} (h : x = (-6) ∨ ∃ k, k < 8 ∧ x = nI k) : (0 ≤ x ↔ ¬ x = (-6)) := by
  rcases h with rfl | ⟨k, hk, rfl⟩
  · decide
  · exact ⟨fun _ => nI_n6 (by omega), fun _ => nI_pos' (by omega)⟩
/-- a level line waits as it is held up -/
theorem r_follow {g n t d : Nat} {S M : Sv} {i : Nat} (h : Rl g n t d S (M 1)) (hi : i < n) : Rl g n t d (p_X1_followDevices S i) ((p_X7_look M i) 1) := by
  have hp := r_place h hi
  have hpl := pl_neg (h.pl hi)
  have key : LnR (p_X1_followDevices S i) ((p_X7_look M i) 1) i ∧ LnI g (p_X1_followDevices S i) i ∧ (p_X1_followDevices S i) (3 + i) 7 = S (3 + i) 7 := by
    obtain ⟨⟨r0, r1, r2, r3, r4, r5, r6, r7, r8, r9, r10, r11, r12, r13, r14⟩, i0, i1, i1p, i3, i4, i5, i8, i11⟩ := h.2.1 i hi
    have r0' : M 1 (20 + 16 * i) = S (3 + i) 0 := r0
    unfold LnR LnI p_X1_followDevices p_X7_look p_X7_turn p_X7_waits p_X7_of p_X7_book
    rw [hp]
    by_cases h8 : S (3 + i) 8 = 0 <;> by_cases h7 : S (3 + i) 7 = (-6) <;> rcases i5 with h5 | h5 <;>
      simp (disch := omega) [us_at, us_p, us_k, r0', r1, r2, r3, r4, r5, r6, r7, r8, r9, r10, r11, r12, r13, r14, i0, i1, i1p, i3, i4, h5, h7, h8, hpl, i8, i11, z1_0, z1_1, bn_z]
    all_goals (try simp [h7] at hpl)
  exact h.line hi (fun p k hp => fr_followDevices hp) (fun k hk => fr_look (by omega)) key.2.2 key.1 key.2.1
theorem ite_min {a b : Int32} : (if a ≤ b then a else b) = (if b ≤ a then b else a) := by
  by_cases h1 : a ≤ b <;> by_cases h2 : b ≤ a <;> simp [h1, h2]
  · exact Int32.le_antisymm h1 h2
  · exact absurd (Int32.le_total a b) (by simp [h1, h2])
theorem r_present {g n t d : Nat} {S M : Sv} {i : Nat} (h : Rl g n t d S (M 1)) (hi : i < n) : p_X7_present M i = p_X1_presentRank S i (S 1 0) (S 1 1) := by
  obtain ⟨⟨r0, r1, r2, r3, r4, r5, r6, -⟩, -, -, -, -, -, i5, -⟩ := h.2.1 i hi
  have e0 : M 1 0 = S 1 0 := h.st 0 (by omega)
  have e1 : M 1 1 = S 1 1 := h.st 1 (by omega)
  have g0 : (0 : Int32) ≤ S 1 0 := (h.rg 0 (by omega)).1
  have ha : (S 1 0 ≤ 0) = (S 1 0 = 0) := propext ⟨fun q => Int32.le_antisymm q g0, fun q => by rw [q]; exact Int32.le_refl 0⟩
  unfold p_X7_present p_X1_presentRank p_X7_waits p_X7_of
  dsimp only
  rw [r0, r5, r6, e0, e1]
  simp only [ha]
  rcases i5 with h5 | h5
  · simp [h5]
  · simp only [h5]
    simp
    rw [ite_min]
