/-! a service begins: both sides -/
theorem mg_h {S : Sv} {li d : Nat} (hd : cn (S 1 10) = d) (hli : li < 12) : p_X7_begin S li 1 10 = S 1 10 + 1 ∧ p_X7_begin S li 1 12 = (if S 1 10 + 1 ≤ S 1 12 then S 1 12 else S 1 10 + 1) ∧ p_X7_begin S li 1 13 = S 1 13 + (if S 1 10 ≤ 0 then 0 else 1) := by
  rw [mb_eq, hd, mb3_o (by omega), mb3_o (by omega), mb3_o (by omega), mb2_f.1, mb2_f.2.1, mb2_f.2.2, mb1_o (by omega), mb1_o (by omega), mb1_o (by omega)]
  exact ⟨rfl, rfl, rfl⟩
theorem mg_n {S : Sv} {li d : Nat} (hd : cn (S 1 10) = d) (hli : li < 12) : p_X7_begin S li 1 (220 + 4 * d) = nI li ∧ p_X7_begin S li 1 (220 + 4 * d + 1) = p_X7_present S li ∧ p_X7_begin S li 1 (220 + 4 * d + 2) = S 1 (20 + 16 * li + 1) + S 1 4 ∧ p_X7_begin S li 1 (220 + 4 * d + 3) = S 1 7 := by
  rw [mb_eq, hd, mb3_o (by omega), mb3_o (by omega), mb3_o (by omega), mb3_o (by omega), mb2_o (by omega), mb2_o (by omega), mb2_o (by omega), mb2_o (by omega)]
  exact mb1_f hli
theorem mg_l {S : Sv} {li d : Nat} (hd : cn (S 1 10) = d) (hli : li < 12) : p_X7_begin S li 1 (20 + 16 * li + 0) = S 1 (20 + 16 * li + 0) ∧ p_X7_begin S li 1 (20 + 16 * li + 1) = S 1 (20 + 16 * li + 1) ∧ p_X7_begin S li 1 (20 + 16 * li + 2) = S 1 (20 + 16 * li + 2) ∧ p_X7_begin S li 1 (20 + 16 * li + 3) = S 1 (20 + 16 * li + 3) ∧ p_X7_begin S li 1 (20 + 16 * li + 4) = S 1 (20 + 16 * li + 4) ∧ p_X7_begin S li 1 (20 + 16 * li + 5) = 0 ∧ p_X7_begin S li 1 (20 + 16 * li + 6) = 0 ∧
    p_X7_begin S li 1 (20 + 16 * li + 7) = S 1 (20 + 16 * li + 7) ∧ p_X7_begin S li 1 (20 + 16 * li + 8) = S 1 (20 + 16 * li + 8) ∧ p_X7_begin S li 1 (20 + 16 * li + 9) = S 1 (20 + 16 * li + 9) ∧ p_X7_begin S li 1 (20 + 16 * li + 10) = S 1 (20 + 16 * li + 10) + 1 ∧ p_X7_begin S li 1 (20 + 16 * li + 11) = S 1 (20 + 16 * li + 11) ∧
    p_X7_begin S li 1 (20 + 16 * li + 12) = (if S 1 (20 + 16 * li + 6) ≤ S 1 (20 + 16 * li + 12) then S 1 (20 + 16 * li + 12) else S 1 (20 + 16 * li + 6)) ∧ p_X7_begin S li 1 (20 + 16 * li + 13) = S 1 (20 + 16 * li + 13) + S 1 (20 + 16 * li + 6) ∧
    p_X7_begin S li 1 (20 + 16 * li + 14) = S 1 (20 + 16 * li + 14) + (if S 1 (20 + 16 * li + 2) ≤ 0 then 0 else if S 1 (20 + 16 * li + 6) ≤ S 1 (20 + 16 * li + 2) then 0 else 1) := by
  have h0 : ∀ f, f < 16 → mb2 (mb1 S li d) 1 (20 + 16 * li + f) = S 1 (20 + 16 * li + f) := fun f hf => by rw [mb2_o (by omega), mb1_o (by omega)]
  have h1 := @mb3_f (mb2 (mb1 S li d)) li (p_X7_of S li 6)
  rw [h0 0 (by omega), h0 1 (by omega), h0 2 (by omega), h0 3 (by omega), h0 4 (by omega), h0 7 (by omega), h0 8 (by omega), h0 9 (by omega), h0 10 (by omega), h0 11 (by omega), h0 12 (by omega), h0 13 (by omega), h0 14 (by omega)] at h1
  rw [mb_eq, hd]
  exact h1
theorem pos_cost {a b : Int32} (ha : Bn a 50) (ha0 : 0 < cn a) (hb : 0 ≤ b) (hb9 : b ≤ 9) : 0 < a + b := by
  obtain ⟨w, hw, ew⟩ := nI_of2 (M := 9) (n := 9) (by decide) (Int32.not_lt.mpr hb) hb9
  have h2 := ha.2
  rw [ha.1, ew, nI_add, ← nI_0]
  exact nI_lt (by omega) (by omega)
theorem bn_suc {x : Int32} {g : Nat} (h : Bn x g) (hg : g < 2 ^ 30) : Bn (x + 1) (g + 1) := by
  have h2 := h.2
  have e := ia h.1 (lI 1)
  exact bn_of e (by omega) (by omega)
theorem ite_add {c : Prop} {h : Decidable c} {a b x : Int32} : x + (@ite _ c h a b) = @ite _ c h (x + a) (x + b) := by
  split <;> rfl
set_option maxHeartbeats 2000000 in
theorem r_begin {g n t d i : Nat} {S M : Sv} (h : Rl g n t d S (M 1)) (hg : g < 2 ^ 30) (hi : i < n) (hd : d < 8) (h5 : S (3 + i) 5 = 1) (h7 : S (3 + i) 7 = (-6)) :
    Rl (g + 1) n t (d + 1) (cb S i d (p_X1_presentRank S i (S 1 0) (S 1 1))) (p_X7_begin M i 1) := by
  have hn := h.n12
  have ht := h.t6
  have hpr := r_present h hi
  have hd10 : cn (M 1 10) = d := h.cn10
  have hg4 := h.rg 4 (by omega)
  generalize p_X1_presentRank S i (S 1 0) (S 1 1) = rk at hpr ⊢
  obtain ⟨a1, a2, a3, a4, a5, a6⟩ := id h
  obtain ⟨⟨r0, r1, r2, r3, r4, r5, r6, r7, r8, r9, r10, r11, r12, r13, r14⟩, i0, i1, i1p, i3, i4, i5, i8, i11⟩ := a2 i hi
  rw [h5, if_neg (by decide)] at r6
  have e4 : M 1 4 = S 1 4 := h.st 4 (by omega)
  obtain ⟨c0, c1, c2, c3, c4, c5, c7, c8, c9, c10, c11, c12, c13, c14, c15⟩ := @cb_l S i d rk (by omega)
  obtain ⟨n0, n1, n2, n3⟩ := @cb_n S i d rk (by omega)
  obtain ⟨z7, z9, z10⟩ := @cb_0 S i d rk
  obtain ⟨m0, m1, m2, m3⟩ := mg_n (li := i) hd10 (by omega)
  obtain ⟨y10, y12, y13⟩ := mg_h (li := i) hd10 (by omega)
  obtain ⟨l0, l1, l2, l3, l4, l5, l6, l7, l8, l9, l10, l11, l12, l13, l14⟩ := mg_l (li := i) hd10 (by omega)
  rw [r0] at l0
  rw [r1] at l1
  rw [r2] at l2
  rw [r3] at l3
  rw [r4] at l4
  rw [r7] at l7
  rw [r8] at l8
  rw [r9] at l9
  rw [r10] at l10
  rw [r11] at l11
  rw [r6, r12] at l12
  rw [r6, r13] at l13
  rw [r6, r14, r2] at l14
  obtain ⟨s7, s8, s9, s10, s11, s12, s13⟩ := h.hs
  have hed := h.ed
  -- what stays
  have hS : ∀ p k, ¬ (p = 0 ∧ (k = 7 ∨ k = 9 ∨ k = 10)) → ¬ p = 3 + i → ¬ p = 23 + d → cb S i d rk p k = S p k := fun p k => cb_o
  have hT : ∀ k, ¬ (k = 10 ∨ k = 12 ∨ k = 13) → ¬ (20 + 16 * i ≤ k ∧ k < 36 + 16 * i) → ¬ (220 + 4 * d ≤ k ∧ k < 224 + 4 * d) → p_X7_begin M i 1 k = M 1 k := fun k q1 q2 q3 => fr_begin q1 q2 (by rw [hd10]; exact q3)
  have hd1 : cb S i d rk 0 7 = nI (d + 1) := by rw [z7, hed]; exact nI_1 d
  refine ⟨⟨(hS _ _ (by omega) (by omega) (by omega)).trans h.en, hn, (hS _ _ (by omega) (by omega) (by omega)).trans h.et, ht, hd1, by omega, ?_, fun k hk => ?_, fun k hk => ?_, ?_, ?_, ?_, ?_, ?_, ?_, ?_⟩, fun j hj => ?_, fun j h1 h2 f hf => ?_, fun j hj => ?_, fun k hk => ?_, fun j hj => ?_⟩
  · rw [hS _ _ (by omega) (by omega) (by omega)]
    exact bn_mono h.tk (by omega)
  · rw [hS _ _ (by omega) (by omega) (by omega), hT _ (by omega) (by omega) (by omega)]
    exact h.st k hk
  · rw [hS _ _ (by omega) (by omega) (by omega)]
    exact h.rg k hk
  · rw [hS _ _ (by omega) (by omega) (by omega), hT _ (by omega) (by omega) (by omega), s7]
  · rw [hS _ _ (by omega) (by omega) (by omega), hT _ (by omega) (by omega) (by omega), s8]
  · rw [hS _ _ (by omega) (by omega) (by omega), hT _ (by omega) (by omega) (by omega), s9]
  · rw [z7, y10, s10]
  · rw [hS _ _ (by omega) (by omega) (by omega), hT _ (by omega) (by omega) (by omega), s11]
  · rw [z9, y12, s10, s12]
  · rw [z10, y13, s10, s13, ite_add, Int32.add_zero]
  · by_cases hji : j = i
    · subst hji
      refine ⟨⟨?_, ?_, ?_, ?_, ?_, ?_, ?_, ?_, ?_, ?_, ?_, ?_, ?_, ?_, ?_⟩, ?_, ?_, ?_, ?_, ?_, ?_, ?_, ?_⟩
      · rw [l0, c0]
      · rw [l1, c1]
      · rw [l2, c2]
      · rw [l3, c3]
      · rw [l4, c4]
      · rw [l5, c5]
      · rw [l6, c5, if_pos rfl]
      · rw [l7, c8]
      · rw [l8, c9]
      · rw [l9, c10]
      · rw [l10, c11]
      · rw [l11, c12]
      · rw [l12, c13]
      · rw [l13, c14]
      · rw [l14, c15]
      · rw [c0]; exact i0
      · rw [c1]; exact i1
      · rw [c1]; exact i1p
      · rw [c3]; exact i3
      · rw [c4]; exact i4
      · rw [c5]; exact Or.inl rfl
      · rw [c8]; exact i8
      · rw [c11]; exact bn_suc i11 hg
    · exact ⟨(a2 j hj).1.same (fun k => hS _ _ (by omega) (by omega) (by omega)) (fun f hf => hT _ (by omega) (by omega) (by omega)), ((a2 j hj).2.mono (by omega)).same (fun k => hS _ _ (by omega) (by omega) (by omega))⟩
  · rw [hT _ (by omega) (by omega) (by omega)]
    exact a3 j h1 h2 f hf
  · exact (a4 j hj).same (fun k => hS _ _ (by omega) (by omega) (by omega)) (fun f hf => hT _ (by omega) (by omega) (by omega))
  · by_cases hkd : k = d
    · subst hkd
      refine ⟨m0.trans n0.symm, ?_, ?_, ?_, ⟨i, hi, n0, c7.trans hed⟩, ?_⟩
      · rw [m1, n1, hpr]
      · rw [m2, n2, r1, e4]
      · rw [m3, n3, s7]
      · rw [n2]; exact pos_cost i1 i1p hg4.1 hg4.2
    · refine (a5 k (by omega)).same (fun f => hS _ _ (by omega) (by omega) (by omega)) (fun f hf => hT _ (by omega) (by omega) (by omega)) (fun j hj e => ?_)
      by_cases hji : j = i
      · obtain ⟨-, -, -, -, ⟨j2, j2n, e2, e3⟩, -⟩ := a5 k (by omega)
        have : j2 = i := hji ▸ nI_inj (e2.symm.trans e)
        rw [this, h7] at e3
        exact absurd e3 (n6_nI (by omega))
      · exact hS _ _ (by omega) (by omega) (by omega)
  · by_cases hji : j = i
    · subst hji
      exact Or.inr ⟨d, by omega, c7.trans hed, n0⟩
    · rcases a6 j hj with q | ⟨k, k1, k2, k3⟩
      · exact Or.inl ((hS _ _ (by omega) (by omega) (by omega)).trans q)
      · exact Or.inr ⟨k, by omega, (hS _ _ (by omega) (by omega) (by omega)).trans k2, (hS _ _ (by omega) (by omega) (by omega)).trans k3⟩
