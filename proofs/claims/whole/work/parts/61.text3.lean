/-! the whole text: both sides -/
theorem OkO.len {S : Sv} {a e : Nat} {k v w : Int32} (h : OkO S a e k v w) : a + 2 ≤ e := by
  obtain ⟨-, -, h⟩ := h
  rcases h with ⟨-, h, -⟩ | ⟨-, h, -⟩ | ⟨-, m, h1, h2, h, -⟩ <;> omega
def Ods (S X : Sv) (q p : Nat) (a : Nat → Nat) : Prop := a 0 = 0 ∧ a q = p + 1 ∧ (∀ r, r < q → a r + 3 ≤ a (r + 1) ∧ OkO S (a r) (a (r + 1) - 1) (X 7 (3 * r)) (X 7 (3 * r + 1)) (X 7 (3 * r + 2))) ∧ ∀ r, r + 1 < q → S 6 (a (r + 1) - 1) = 59
theorem Ods.len {S X : Sv} {q p : Nat} {a : Nat → Nat} (h : Ods S X q p a) : ∀ r, r ≤ q → 3 * r ≤ a r := by
  intro r
  induction r with
  | zero => intro _; omega
  | succ r ih =>
    intro hr
    have h1 := ih (by omega)
    have h2 := (h.2.2.1 r (by omega)).1
    omega
theorem Ods.more {S X Y : Sv} {q p e : Nat} {a : Nat → Nat} (h : Ods S X q p a) (hs : 0 < q → S 6 p = 59) (h7 : ∀ k, k < 3 * q → Y 7 k = X 7 k) (ho : OkO S (p + 1) e (Y 7 (3 * q)) (Y 7 (3 * q + 1)) (Y 7 (3 * q + 2))) : Ods S Y (q + 1) e (fun r => if r ≤ q then a r else e + 1) := by
  obtain ⟨h1, h2, h3, h4⟩ := h
  have hl := ho.len
  refine ⟨?_, ?_, fun r hr => ?_, fun r hr => ?_⟩
  · show (if 0 ≤ q then a 0 else e + 1) = 0
    rw [if_pos (by omega)]; exact h1
  · show (if q + 1 ≤ q then a (q + 1) else e + 1) = e + 1
    rw [if_neg (by omega)]
  · show (if r ≤ q then a r else e + 1) + 3 ≤ (if r + 1 ≤ q then a (r + 1) else e + 1) ∧ OkO S (if r ≤ q then a r else e + 1) ((if r + 1 ≤ q then a (r + 1) else e + 1) - 1) _ _ _
    rw [if_pos (by omega)]
    by_cases hrq : r < q
    · rw [if_pos (by omega), h7 _ (by omega), h7 _ (by omega), h7 _ (by omega)]
      exact h3 r hrq
    · have : r = q := by omega
      subst this
      rw [if_neg (by omega), h2, Nat.add_sub_cancel]
      exact ⟨by omega, ho⟩
  · show S 6 ((if r + 1 ≤ q then a (r + 1) else e + 1) - 1) = 59
    rw [if_pos (by omega)]
    by_cases hrq : r + 1 < q
    · exact h4 r hrq
    · have : r + 1 = q := by omega
      rw [this, h2, Nat.add_sub_cancel]
      exact hs (by omega)
/-- the loop over orders -/
theorem ft_it {L : Nat} {S M0 : Sv} : ∀ fu j (X : Sv) (p : Nat), j + fu = 27 → PdR L S X → X 0 11 = nI p → p ≤ L →
    ((X 0 12 = 1 ∧ Fx S L 1 0 = nI p) ∨ (X 0 12 = 0 ∧ X 0 10 = nI (j + 1) ∧ Fx S L 1 0 = Fx S L 8 p ∧ ∃ a, Ods S X (j + 1) p a)) →
    (q_X7_faultOf_19 M0 fu j X).1 = Fx S L 1 0 ∧ (∀ p k, ¬ (p = 0 ∧ (k = 10 ∨ k = 11 ∨ k = 12)) → ¬ p = 7 → (q_X7_faultOf_19 M0 fu j X).2 p k = X p k) ∧
    ((q_X7_faultOf_19 M0 fu j X).1 = (-6) → ∃ q a, 0 < q ∧ q ≤ 27 ∧ (q_X7_faultOf_19 M0 fu j X).2 0 10 = nI q ∧ Ods S (q_X7_faultOf_19 M0 fu j X).2 q L a) := by
  intro fu
  induction fu with
  | zero =>
    intro j X p hj hP h11 hp hI
    have h80 := hP.2.2.1
    rcases hI with ⟨w1, w2⟩ | ⟨-, -, -, a, hO⟩
    · unfold q_X7_faultOf_19
      try dsimp only
      rw [w1, if_neg (by decide), h11, w2]
      exact ⟨rfl, fun _ _ _ _ => rfl, fun z => absurd z (nI_n6 (by omega))⟩
    · have h1 := hO.len (j + 1) (Nat.le_refl _)
      rw [hO.2.1] at h1
      omega
  | succ fu ih =>
    intro j X p hj hP h11 hp hI
    have hS := hP.1
    have h80 := hP.2.2.1
    rcases hI with ⟨w1, w2⟩ | ⟨w1, w2, w3, a, hO⟩
    · have e : q_X7_faultOf_19 M0 (fu + 1) j X = (nI p, X) := by
        unfold q_X7_faultOf_19
        try dsimp only
        rw [w1, if_neg (by decide), if_neg (by decide), h11]
      rw [e, w2]
      exact ⟨rfl, fun _ _ _ _ => rfl, fun z => absurd z (nI_n6 (by omega))⟩
    · have hq := hO.len (j + 1) (Nat.le_refl _)
      rw [hO.2.1] at hq
      by_cases hpL : p = L
      · have e : q_X7_faultOf_19 M0 (fu + 1) j X = ((-6), X) := by
          unfold q_X7_faultOf_19
          try dsimp only
          rw [if_pos w1, hP.2.1, h11, if_pos (by rw [hpL]; exact Int32.le_refl _), if_pos w1]
        rw [e, w3, hpL, fx_L hS]
        exact ⟨rfl, fun _ _ _ _ => rfl, fun _ => ⟨j + 1, a, by omega, by omega, w2, hpL ▸ hO⟩⟩
      · have hlt : p < L := by omega
        have hsg : sg S L p = S 6 p := by unfold sg; rw [if_pos hlt]
        have hnl : ¬ X 0 7 ≤ X 0 11 := by rw [hP.2.1, h11]; exact nI_ge hlt (by omega)
        by_cases c : S 6 p = 59
        · have hP2 : PdR L S (us (us X 0 12 0) 0 11 (X 0 11 + 1)) := pd_us (pd_us hP (by decide) (by decide)) (by decide) (by decide)
          have e : q_X7_faultOf_19 M0 (fu + 1) j X = q_X7_faultOf_19 M0 fu (j + 1) (p_X7_readOne (us (us X 0 12 0) 0 11 (X 0 11 + 1))) := by
            conv => lhs; unfold q_X7_faultOf_19
            try dsimp only
            rw [if_pos w1, if_neg hnl, sign_c hP h11 hp, hsg, if_pos c, us_at, if_pos rfl, us_k (k' := 11) (by decide)]
          have i1 : us (us X 0 12 0) 0 11 (X 0 11 + 1) 0 11 = nI (p + 1) := by rw [us_at, h11, nI_1]
          have i2 : us (us X 0 12 0) 0 11 (X 0 11 + 1) 0 10 = nI (j + 1) := by rw [us_k (by decide), us_k (by decide), w2]
          have i3 : ∀ p' k, ¬ (p' = 0 ∧ (k = 11 ∨ k = 12)) → us (us X 0 12 0) 0 11 (X 0 11 + 1) p' k = X p' k := fun p' k hk => by rw [us_ne _ _ (by omega), us_ne _ _ (by omega)]
          have f1 : Fx S L 8 p = Fx S L 1 (p + 1) := by rw [fx_lt hlt, da8, if_pos c, if_neg (by decide)]
          obtain ⟨r1, r2⟩ := rd_c hP2 i1 (by omega) i2 (by omega)
          rw [e]
          generalize us (us X 0 12 0) 0 11 (X 0 11 + 1) = X2 at hP2 i3 r1 r2 ⊢
          have hP3 : PdR L S (p_X7_readOne X2) := by
            obtain ⟨b1, b2, b3, b4⟩ := hP2
            exact ⟨b1, by rw [r1 _ _ (by omega) (by omega)]; exact b2, b3, fun k hk => by rw [r1 _ _ (by omega) (by omega)]; exact b4 k hk⟩
          have fin : ∀ p', p_X7_readOne X2 0 11 = nI p' → p' ≤ L → ((p_X7_readOne X2 0 12 = 1 ∧ Fx S L 1 0 = nI p') ∨ (p_X7_readOne X2 0 12 = 0 ∧ p_X7_readOne X2 0 10 = nI (j + 1 + 1) ∧ Fx S L 1 0 = Fx S L 8 p' ∧ ∃ a, Ods S (p_X7_readOne X2) (j + 1 + 1) p' a)) →
              (q_X7_faultOf_19 M0 fu (j + 1) (p_X7_readOne X2)).1 = Fx S L 1 0 ∧ (∀ p k, ¬ (p = 0 ∧ (k = 10 ∨ k = 11 ∨ k = 12)) → ¬ p = 7 → (q_X7_faultOf_19 M0 fu (j + 1) (p_X7_readOne X2)).2 p k = X p k) ∧
              ((q_X7_faultOf_19 M0 fu (j + 1) (p_X7_readOne X2)).1 = (-6) → ∃ q a, 0 < q ∧ q ≤ 27 ∧ (q_X7_faultOf_19 M0 fu (j + 1) (p_X7_readOne X2)).2 0 10 = nI q ∧ Ods S (q_X7_faultOf_19 M0 fu (j + 1) (p_X7_readOne X2)).2 q L a) := fun p' z1 z2 z3 => by
            obtain ⟨y1, y2, y3⟩ := ih (j + 1) (p_X7_readOne X2) p' (by omega) hP3 z1 z2 z3
            exact ⟨y1, fun p k k1 k2 => by rw [y2 p k k1 k2, r1 _ _ k1 (by omega), i3 _ _ (by omega)], y3⟩
          rcases r2 with ⟨r3, p', r4, r5, r6⟩ | ⟨r3, r4, e', r5, r6, r7, r8, r9⟩
          · exact fin p' r5 r4 (Or.inl ⟨r3, by rw [w3, f1, r6]⟩)
          · exact fin e' r7 r6 (Or.inr ⟨r3, r4, by rw [w3, f1, r8], _, hO.more (fun _ => c) (fun k hk => by rw [r1 _ _ (by omega) (by omega), i3 _ _ (by omega)]) r9⟩)
        · have e : q_X7_faultOf_19 M0 (fu + 1) j X = q_X7_faultOf_19 M0 fu (j + 1) (us X 0 12 1) := by
            conv => lhs; unfold q_X7_faultOf_19
            try dsimp only
            rw [if_pos w1, if_neg hnl, sign_c hP h11 hp, hsg, if_neg c, us_at, if_neg (by decide)]
          obtain ⟨y1, y2, y3⟩ := ih (j + 1) (us X 0 12 1) p (by omega) (pd_us hP (by decide) (by decide)) (by rw [us_k (by decide)]; exact h11) hp (Or.inl ⟨us_at _ _ _ _, by rw [w3, fx_lt hlt, da8, if_neg c, if_pos rfl]⟩)
          rw [e]
          exact ⟨y1, fun p k k1 k2 => by rw [y2 p k k1 k2, us_ne _ _ (by omega)], y3⟩
theorem fault_c {L : Nat} {S M : Sv} (h : PdR L S M) : (p_X7_faultOf M).1 = p_X2_firstFault S ∧ (∀ p k, ¬ (p = 0 ∧ (k = 10 ∨ k = 11 ∨ k = 12)) → ¬ p = 7 → (p_X7_faultOf M).2 p k = M p k) ∧
    ((p_X7_faultOf M).1 = (-6) → ∃ q a, 0 < q ∧ q ≤ 27 ∧ (p_X7_faultOf M).2 0 10 = nI q ∧ Ods S (p_X7_faultOf M).2 q L a) := by
  have h80 := h.2.2.1
  have eF : p_X2_firstFault S = Fx S L 1 0 := by
    unfold p_X2_firstFault Fx
    rw [h.1, cn_nI (by omega)]
    rfl
  rw [eF]
  unfold p_X7_faultOf
  try dsimp only
  have hP2 : PdR L S (us (us (us M 0 11 0) 0 10 0) 0 12 0) := pd_us (pd_us (pd_us h (by decide) (by decide)) (by decide) (by decide)) (by decide) (by decide)
  have i1 : us (us (us M 0 11 0) 0 10 0) 0 12 0 0 11 = nI 0 := by rw [us_k (by decide), us_k (by decide), us_at]; rfl
  have i2 : us (us (us M 0 11 0) 0 10 0) 0 12 0 0 10 = nI 0 := by rw [us_k (by decide), us_at]; rfl
  have i3 : ∀ p' k, ¬ (p' = 0 ∧ (k = 10 ∨ k = 11 ∨ k = 12)) → us (us (us M 0 11 0) 0 10 0) 0 12 0 p' k = M p' k := fun p' k hk => by rw [us_ne _ _ (by omega), us_ne _ _ (by omega), us_ne _ _ (by omega)]
  generalize us (us (us M 0 11 0) 0 10 0) 0 12 0 = X2 at hP2 i1 i2 i3 ⊢
  obtain ⟨r1, r2⟩ := rd_c hP2 i1 (by omega) i2 (by omega)
  have hP3 : PdR L S (p_X7_readOne X2) := by
    obtain ⟨b1, b2, b3, b4⟩ := hP2
    exact ⟨b1, by rw [r1 _ _ (by omega) (by omega)]; exact b2, b3, fun k hk => by rw [r1 _ _ (by omega) (by omega)]; exact b4 k hk⟩
  have fin : ∀ p', p_X7_readOne X2 0 11 = nI p' → p' ≤ L → ((p_X7_readOne X2 0 12 = 1 ∧ Fx S L 1 0 = nI p') ∨ (p_X7_readOne X2 0 12 = 0 ∧ p_X7_readOne X2 0 10 = nI (0 + 1) ∧ Fx S L 1 0 = Fx S L 8 p' ∧ ∃ a, Ods S (p_X7_readOne X2) (0 + 1) p' a)) →
      (q_X7_faultOf_19 M 27 0 (p_X7_readOne X2)).1 = Fx S L 1 0 ∧ (∀ p k, ¬ (p = 0 ∧ (k = 10 ∨ k = 11 ∨ k = 12)) → ¬ p = 7 → (q_X7_faultOf_19 M 27 0 (p_X7_readOne X2)).2 p k = M p k) ∧
      ((q_X7_faultOf_19 M 27 0 (p_X7_readOne X2)).1 = (-6) → ∃ q a, 0 < q ∧ q ≤ 27 ∧ (q_X7_faultOf_19 M 27 0 (p_X7_readOne X2)).2 0 10 = nI q ∧ Ods S (q_X7_faultOf_19 M 27 0 (p_X7_readOne X2)).2 q L a) := fun p' z1 z2 z3 => by
    obtain ⟨y1, y2, y3⟩ := ft_it (M0 := M) 27 0 (p_X7_readOne X2) p' rfl hP3 z1 z2 z3
    exact ⟨y1, fun p k k1 k2 => by rw [y2 p k k1 k2, r1 _ _ k1 (by omega), i3 _ _ k1], y3⟩
  rcases r2 with ⟨r3, p', r4, r5, r6⟩ | ⟨r3, r4, e', r5, r6, r7, r8, r9⟩
  · exact fin p' r5 r4 (Or.inl ⟨r3, r6⟩)
  · refine fin e' r7 r6 (Or.inr ⟨r3, r4, r8, fun r => if r = 0 then 0 else e' + 1, rfl, rfl, fun r hr => ?_, fun r hr => by omega⟩)
    have : r = 0 := by omega
    subst this
    exact ⟨by have := r9.len; show 0 + 3 ≤ e' + 1; omega, r9⟩
