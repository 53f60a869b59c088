/-! one order read: both sides -/
def OkO (S : Sv) (a e : Nat) (k v w : Int32) : Prop :=
  (∀ i, a ≤ i → i < e → ¬ S 6 i = 59) ∧ S 6 a = k ∧ (((k = 117 ∨ k = 109 ∨ k = 110) ∧ e = a + 2 ∧ v = S 6 (a + 1) - 65) ∨ ((k = 104 ∨ k = 108) ∧ e = a + 3 ∧ v = S 6 (a + 1) - 65 ∧ w = S 6 (a + 2) - 48) ∨ (k = 116 ∧ ∃ m, 0 < m ∧ m ≤ 3 ∧ e = a + 1 + m ∧ v = nB S (a + 1) m))
def rS13 (X : Sv) (q : Nat) (x : Int32) : Sv := us (us (us X 7 (3 * q) x) 0 12 0) 0 11 (X 0 11 + 1)
theorem rd_eq0 {X : Sv} {q : Nat} {x : Int32} (hq : cn (X 0 10) = q) (hx : p_X7_sign X = x) (h : ¬ x = 117 ∧ ¬ x = 104 ∧ ¬ x = 108 ∧ ¬ x = 109 ∧ ¬ x = 110 ∧ ¬ x = 116) : p_X7_readOne X = us (us X 7 (3 * q) x) 0 12 1 := by
  obtain ⟨h1, h2, h3, h4, h5, h6⟩ := h
  unfold p_X7_readOne
  try dsimp only
  rw [hx, hq, if_neg h1, if_neg h2, if_neg h3, if_neg h4, if_neg h5, if_neg h6, if_neg (by rw [us_at]; decide)]
theorem rd_eq2 {X : Sv} {q : Nat} {x : Int32} (hq : cn (X 0 10) = q) (hx : p_X7_sign X = x) (h : x = 117 ∨ x = 109 ∨ x = 110) :
    p_X7_readOne X = us (us (us (p_X7_one (rS13 X q x) 65 11).2 7 (3 * q + 1) (p_X7_one (rS13 X q x) 65 11).1) 7 (3 * q + 2) 0) 0 10 (us (us (p_X7_one (rS13 X q x) 65 11).2 7 (3 * q + 1) (p_X7_one (rS13 X q x) 65 11).1) 7 (3 * q + 2) 0 0 10 + 1) := by
  have e11 : us (us X 7 (3 * q) x) 0 12 0 0 11 = X 0 11 := by rw [us_k (by decide), us_p (by decide)]
  unfold p_X7_readOne rS13
  try dsimp only
  rw [hx, hq]
  rcases h with h | h | h
  · subst h
    rw [if_pos rfl, us_at, if_pos rfl, e11]
    simp only [if_neg (show ¬ (117 : Int32) = 116 by decide), if_neg (show ¬ (117 : Int32) = 104 by decide), if_neg (show ¬ (117 : Int32) = 108 by decide)]
  · subst h
    rw [if_neg (show ¬ (109 : Int32) = 117 by decide), if_neg (show ¬ (109 : Int32) = 104 by decide), if_neg (show ¬ (109 : Int32) = 108 by decide), if_pos rfl, us_at, if_pos rfl, e11]
    simp only [if_neg (show ¬ (109 : Int32) = 116 by decide), if_neg (show ¬ (109 : Int32) = 104 by decide), if_neg (show ¬ (109 : Int32) = 108 by decide)]
  · subst h
    rw [if_neg (show ¬ (110 : Int32) = 117 by decide), if_neg (show ¬ (110 : Int32) = 104 by decide), if_neg (show ¬ (110 : Int32) = 108 by decide), if_neg (show ¬ (110 : Int32) = 109 by decide), if_pos rfl, us_at, if_pos rfl, e11]
    simp only [if_neg (show ¬ (110 : Int32) = 116 by decide), if_neg (show ¬ (110 : Int32) = 104 by decide), if_neg (show ¬ (110 : Int32) = 108 by decide)]
theorem rd_eq5 {X : Sv} {q : Nat} (hq : cn (X 0 10) = q) (hx : p_X7_sign X = 116) :
    p_X7_readOne X = us (us (us (p_X7_number (rS13 X q 116)).2 7 (3 * q + 1) (p_X7_number (rS13 X q 116)).1) 7 (3 * q + 2) 0) 0 10 (us (us (p_X7_number (rS13 X q 116)).2 7 (3 * q + 1) (p_X7_number (rS13 X q 116)).1) 7 (3 * q + 2) 0 0 10 + 1) := by
  have e11 : us (us X 7 (3 * q) 116) 0 12 0 0 11 = X 0 11 := by rw [us_k (by decide), us_p (by decide)]
  unfold p_X7_readOne rS13
  try dsimp only
  rw [hx, hq]
  rw [if_neg (show ¬ (116 : Int32) = 117 by decide), if_neg (show ¬ (116 : Int32) = 104 by decide), if_neg (show ¬ (116 : Int32) = 108 by decide), if_neg (show ¬ (116 : Int32) = 109 by decide), if_neg (show ¬ (116 : Int32) = 110 by decide), if_pos rfl, us_at, if_pos rfl, e11]
  simp only [if_true, if_neg (show ¬ (116 : Int32) = 104 by decide), if_neg (show ¬ (116 : Int32) = 108 by decide)]
def rS22 (X : Sv) (q : Nat) (x : Int32) : Sv := us (p_X7_one (rS13 X q x) 65 11).2 7 (3 * q + 1) (p_X7_one (rS13 X q x) 65 11).1
theorem rd_eq3 {X : Sv} {q : Nat} {x : Int32} (hq : cn (X 0 10) = q) (hx : p_X7_sign X = x) (h : x = 104 ∨ x = 108) :
    p_X7_readOne X = (if rS22 X q x 0 12 = 0 then us (us (p_X7_one (rS22 X q x) 48 3).2 7 (3 * q + 2) (p_X7_one (rS22 X q x) 48 3).1) 0 10 (us (p_X7_one (rS22 X q x) 48 3).2 7 (3 * q + 2) (p_X7_one (rS22 X q x) 48 3).1 0 10 + 1) else us (us (rS22 X q x) 7 (3 * q + 2) 0) 0 10 (us (rS22 X q x) 7 (3 * q + 2) 0 0 10 + 1)) := by
  have e11 : us (us X 7 (3 * q) x) 0 12 0 0 11 = X 0 11 := by rw [us_k (by decide), us_p (by decide)]
  unfold p_X7_readOne rS22 rS13
  try dsimp only
  rw [hx, hq]
  rcases h with h | h
  · subst h
    rw [if_neg (show ¬ (104 : Int32) = 117 by decide), if_pos rfl, us_at, if_pos rfl, e11]
    simp only [if_true, if_neg (show ¬ (104 : Int32) = 116 by decide)]
    by_cases c : us (p_X7_one (us (us (us X 7 (3 * q) 104) 0 12 0) 0 11 (X 0 11 + 1)) 65 11).2 7 (3 * q + 1) (p_X7_one (us (us (us X 7 (3 * q) 104) 0 12 0) 0 11 (X 0 11 + 1)) 65 11).1 0 12 = 0
    · simp only [if_pos c]
    · simp only [if_neg c]
  · subst h
    rw [if_neg (show ¬ (108 : Int32) = 117 by decide), if_neg (show ¬ (108 : Int32) = 104 by decide), if_pos rfl, us_at, if_pos rfl, e11]
    simp only [if_true, if_neg (show ¬ (108 : Int32) = 116 by decide), if_neg (show ¬ (108 : Int32) = 104 by decide)]
    by_cases c : us (p_X7_one (us (us (us X 7 (3 * q) 108) 0 12 0) 0 11 (X 0 11 + 1)) 65 11).2 7 (3 * q + 1) (p_X7_one (us (us (us X 7 (3 * q) 108) 0 12 0) 0 11 (X 0 11 + 1)) 65 11).1 0 12 = 0
    · simp only [if_pos c]
    · simp only [if_neg c]
theorem ord_0 {x : Int32} (h : ¬ x = 117 ∧ ¬ x = 104 ∧ ¬ x = 108 ∧ ¬ x = 109 ∧ ¬ x = 110 ∧ ¬ x = 116) : p_X2_dueAfterOrder x = 0 := by
  obtain ⟨h1, h2, h3, h4, h5, h6⟩ := h
  unfold p_X2_dueAfterOrder
  simp [h1, h2, h3, h4, h5, h6]
theorem rS13_c {L i q : Nat} {S X : Sv} {x : Int32} (h : PdR L S X) (hi : X 0 11 = nI i) : PdR L S (rS13 X q x) ∧ rS13 X q x 0 11 = nI (i + 1) ∧ rS13 X q x 0 12 = 0 ∧ rS13 X q x 7 (3 * q) = x ∧ rS13 X q x 0 10 = X 0 10 ∧ ∀ p k, ¬ (p = 0 ∧ (k = 11 ∨ k = 12)) → ¬ (p = 7 ∧ k = 3 * q) → rS13 X q x p k = X p k := by
  unfold rS13
  refine ⟨pd_us (pd_us (pd_us h (by decide) (by omega)) (by decide) (by decide)) (by decide) (by decide), by rw [us_at, hi, nI_1], by rw [us_k (by decide), us_at], by rw [us_p (by decide), us_p (by decide), us_at], by rw [us_k (by decide), us_k (by decide), us_p (by decide)], fun p k h1 h2 => by rw [us_ne _ _ (by omega), us_ne _ _ (by omega), us_ne _ _ h2]⟩
theorem not59 {x : Int32} {a b : Int32} (h : ¬ p_X6_within x a b = 0) (h2 : p_X6_within 59 a b = 0) : ¬ x = 59 := fun z => h (by rw [z]; exact h2)
theorem rd_c {L i q : Nat} {S X : Sv} (h : PdR L S X) (hi : X 0 11 = nI i) (hiL : i ≤ L) (hq : X 0 10 = nI q) (hq2 : q < 1000) :
    (∀ p k, ¬ (p = 0 ∧ (k = 10 ∨ k = 11 ∨ k = 12)) → ¬ (p = 7 ∧ 3 * q ≤ k ∧ k < 3 * q + 3) → p_X7_readOne X p k = X p k) ∧
    ((p_X7_readOne X 0 12 = 1 ∧ ∃ p', p' ≤ L ∧ p_X7_readOne X 0 11 = nI p' ∧ Fx S L 1 i = nI p') ∨
     (p_X7_readOne X 0 12 = 0 ∧ p_X7_readOne X 0 10 = nI (q + 1) ∧ ∃ e, i < e ∧ e ≤ L ∧ p_X7_readOne X 0 11 = nI e ∧ Fx S L 1 i = Fx S L 8 e ∧ OkO S i e (p_X7_readOne X 7 (3 * q)) (p_X7_readOne X 7 (3 * q + 1)) (p_X7_readOne X 7 (3 * q + 2)))) := by
  have hS := h.1
  have hcq : cn (X 0 10) = q := by rw [hq]; exact cn_nI (by omega)
  have hx := sign_c h hi hiL
  by_cases h0 : ¬ sg S L i = 117 ∧ ¬ sg S L i = 104 ∧ ¬ sg S L i = 108 ∧ ¬ sg S L i = 109 ∧ ¬ sg S L i = 110 ∧ ¬ sg S L i = 116
  · rw [rd_eq0 hcq hx h0]
    refine ⟨fun p k h1 h2 => by rw [us_ne _ _ (by omega), us_ne _ _ (by omega)], Or.inl ⟨us_at _ _ _ _, i, hiL, by rw [us_k (by decide), us_p (by decide)]; exact hi, fx_bad hS hiL rfl (by rw [da1]; exact ord_0 h0)⟩⟩
  · have hne0 : ¬ sg S L i = 59 := fun z => h0 (by rw [z]; decide)
    by_cases k2 : sg S L i = 117 ∨ sg S L i = 109 ∨ sg S L i = 110
    · obtain ⟨g1, g2, g3⟩ := fx_go (S := S) (L := L) (i := i) (due := 1) (x := 2) (by omega) hiL (by rw [show nI 1 = (1 : Int32) from rfl, da1]; rcases k2 with z | z | z <;> rw [z] <;> decide) (by decide)
      obtain ⟨q1, q2, q3, q4, q5, q6⟩ := rS13_c (q := q) (x := sg S L i) h hi
      obtain ⟨o1, o2, o3⟩ := oneq (a := 65) (b := 11) q1 q2 (by omega) q3 (by decide) (by decide)
      rw [rd_eq2 hcq hx k2]
      have o1 : (p_X7_one (rS13 X q (sg S L i)) 65 11).1 = sg S L (i + 1) - 65 := o1
      have o2 : ∀ p k, ¬ (p = 0 ∧ (k = 11 ∨ k = 12)) → (p_X7_one (rS13 X q (sg S L i)) 65 11).2 p k = rS13 X q (sg S L i) p k := o2
      have o3 : if p_X6_within (sg S L (i + 1)) 65 76 = 0 then (p_X7_one (rS13 X q (sg S L i)) 65 11).2 0 12 = 1 ∧ (p_X7_one (rS13 X q (sg S L i)) 65 11).2 0 11 = nI (i + 1) else (p_X7_one (rS13 X q (sg S L i)) 65 11).2 0 12 = 0 ∧ (p_X7_one (rS13 X q (sg S L i)) 65 11).2 0 11 = nI (i + 1 + 1) := o3
      generalize (p_X7_one (rS13 X q (sg S L i)) 65 11).2 = Y at o2 o3 ⊢
      generalize (p_X7_one (rS13 X q (sg S L i)) 65 11).1 = y at o1 ⊢
      refine ⟨fun p k h1 h2 => by rw [us_ne _ _ (by omega), us_ne _ _ (by omega), us_ne _ _ (by omega), o2 _ _ (by omega), q6 _ _ (by omega) (by omega)], ?_⟩
      rw [us_k (by decide), us_p (by decide), us_p (by decide), us_k (k' := 11) (by decide), us_p (p' := 0) (k' := 11) (by decide), us_p (p' := 0) (k' := 11) (by decide)]
      by_cases c : p_X6_within (sg S L (i + 1)) 65 76 = 0
      · rw [if_pos c] at o3
        exact Or.inl ⟨o3.1, i + 1, by omega, o3.2, by rw [show Fx S L 1 i = Fx S L 2 (i + 1) from g2]; exact fx_bad hS (by omega) rfl (by rw [da2, if_pos c])⟩
      · rw [if_neg c] at o3
        obtain ⟨f1, f2, f3⟩ := fx_go (S := S) (L := L) (i := i + 1) (due := 2) (x := 8) (by omega) (by omega) (by rw [show nI 2 = (2 : Int32) from rfl, da2, if_neg c]) (by decide)
        refine Or.inr ⟨o3.1, ?_, i + 2, by omega, by omega, o3.2, by rw [show Fx S L 1 i = Fx S L 2 (i + 1) from g2]; exact f2, ?_⟩
        · rw [us_at, us_p (by decide), us_p (by decide), o2 _ _ (by omega), q5, hq, nI_1]
        · have w0 : us (us (us Y 7 (3 * q + 1) y) 7 (3 * q + 2) 0) 0 10 (us (us Y 7 (3 * q + 1) y) 7 (3 * q + 2) 0 0 10 + 1) 7 (3 * q) = sg S L i := by rw [us_p (by decide), us_k (by omega), us_k (by omega), o2 _ _ (by omega), q4]
          have w1 : us (us (us Y 7 (3 * q + 1) y) 7 (3 * q + 2) 0) 0 10 (us (us Y 7 (3 * q + 1) y) 7 (3 * q + 2) 0 0 10 + 1) 7 (3 * q + 1) = sg S L (i + 1) - 65 := by rw [us_p (by decide), us_k (by omega), us_at, o1]
          rw [w0, w1]
          refine ⟨fun j j1 j2 => ?_, g3.symm, Or.inl ⟨k2, rfl, by rw [f3]⟩⟩
          by_cases hj : j = i
          · rw [hj, ← g3]; exact hne0
          · rw [show j = i + 1 by omega, ← f3]; exact not59 c (by decide)
    · by_cases k3 : sg S L i = 104 ∨ sg S L i = 108
      · obtain ⟨g1, g2, g3⟩ := fx_go (S := S) (L := L) (i := i) (due := 1) (x := 3) (by omega) hiL (by rw [show nI 1 = (1 : Int32) from rfl, da1]; rcases k3 with z | z <;> rw [z] <;> decide) (by decide)
        obtain ⟨q1, q2, q3, q4, q5, q6⟩ := rS13_c (q := q) (x := sg S L i) h hi
        obtain ⟨o1, o2, o3⟩ := oneq (a := 65) (b := 11) q1 q2 (by omega) q3 (by decide) (by decide)
        rw [rd_eq3 hcq hx k3]
        have o1 : (p_X7_one (rS13 X q (sg S L i)) 65 11).1 = sg S L (i + 1) - 65 := o1
        have o2 : ∀ p k, ¬ (p = 0 ∧ (k = 11 ∨ k = 12)) → (p_X7_one (rS13 X q (sg S L i)) 65 11).2 p k = rS13 X q (sg S L i) p k := o2
        have o3 : if p_X6_within (sg S L (i + 1)) 65 76 = 0 then (p_X7_one (rS13 X q (sg S L i)) 65 11).2 0 12 = 1 ∧ (p_X7_one (rS13 X q (sg S L i)) 65 11).2 0 11 = nI (i + 1) else (p_X7_one (rS13 X q (sg S L i)) 65 11).2 0 12 = 0 ∧ (p_X7_one (rS13 X q (sg S L i)) 65 11).2 0 11 = nI (i + 1 + 1) := o3
        have t0 : ∀ p k, ¬ (p = 7 ∧ k = 3 * q + 1) → rS22 X q (sg S L i) p k = (p_X7_one (rS13 X q (sg S L i)) 65 11).2 p k := fun p k hp => us_ne _ _ hp
        have t1 : rS22 X q (sg S L i) 7 (3 * q + 1) = sg S L (i + 1) - 65 := (us_at _ _ _ _).trans o1
        have tP : PdR L S (rS22 X q (sg S L i)) := by
          obtain ⟨a, b, c, d⟩ := q1
          exact ⟨a, by rw [t0 _ _ (by omega), o2 _ _ (by omega)]; exact b, c, fun j hj => by rw [t0 _ _ (by omega), o2 _ _ (by omega)]; exact d j hj⟩
        have t12 := t0 0 12 (by omega)
        have t11 := t0 0 11 (by omega)
        by_cases c : p_X6_within (sg S L (i + 1)) 65 76 = 0
        · rw [if_pos c] at o3
          rw [t12, if_neg (by rw [o3.1]; decide)]
          refine ⟨fun p k h1 h2 => by rw [us_ne _ _ (by omega), us_ne _ _ (by omega), t0 _ _ (by omega), o2 _ _ (by omega), q6 _ _ (by omega) (by omega)], Or.inl ⟨?_, i + 1, by omega, ?_, ?_⟩⟩
          · rw [us_k (by decide), us_p (by decide), t12]; exact o3.1
          · rw [us_k (by decide), us_p (by decide), t11]; exact o3.2
          · rw [show Fx S L 1 i = Fx S L 3 (i + 1) from g2]; exact fx_bad hS (by omega) rfl (by rw [da3, if_pos c])
        · rw [if_neg c] at o3
          rw [t12, if_pos o3.1]
          obtain ⟨f1, f2, f3⟩ := fx_go (S := S) (L := L) (i := i + 1) (due := 3) (x := 4) (by omega) (by omega) (by rw [show nI 3 = (3 : Int32) from rfl, da3, if_neg c]) (by decide)
          obtain ⟨u1, u2, u3⟩ := oneq (a := 48) (b := 3) tP (t11.trans o3.2) (by omega) (t12.trans o3.1) (by decide) (by decide)
          have u1 : (p_X7_one (rS22 X q (sg S L i)) 48 3).1 = sg S L (i + 1 + 1) - 48 := u1
          have u2 : ∀ p k, ¬ (p = 0 ∧ (k = 11 ∨ k = 12)) → (p_X7_one (rS22 X q (sg S L i)) 48 3).2 p k = rS22 X q (sg S L i) p k := u2
          have u3 : if p_X6_within (sg S L (i + 1 + 1)) 48 51 = 0 then (p_X7_one (rS22 X q (sg S L i)) 48 3).2 0 12 = 1 ∧ (p_X7_one (rS22 X q (sg S L i)) 48 3).2 0 11 = nI (i + 1 + 1) else (p_X7_one (rS22 X q (sg S L i)) 48 3).2 0 12 = 0 ∧ (p_X7_one (rS22 X q (sg S L i)) 48 3).2 0 11 = nI (i + 1 + 1 + 1) := u3
          generalize (p_X7_one (rS22 X q (sg S L i)) 48 3).2 = Z at u2 u3 ⊢
          generalize (p_X7_one (rS22 X q (sg S L i)) 48 3).1 = z at u1 ⊢
          refine ⟨fun p k h1 h2 => by rw [us_ne _ _ (by omega), us_ne _ _ (by omega), u2 _ _ (by omega), t0 _ _ (by omega), o2 _ _ (by omega), q6 _ _ (by omega) (by omega)], ?_⟩
          rw [us_k (by decide), us_p (by decide), us_k (k' := 11) (by decide), us_p (p' := 0) (k' := 11) (by decide)]
          by_cases c2 : p_X6_within (sg S L (i + 1 + 1)) 48 51 = 0
          · rw [if_pos c2] at u3
            exact Or.inl ⟨u3.1, i + 2, by omega, u3.2, by rw [show Fx S L 1 i = Fx S L 3 (i + 1) from g2, show Fx S L 3 (i + 1) = Fx S L 4 (i + 2) from f2]; exact fx_bad hS (by omega) rfl (by rw [da4, if_pos c2])⟩
          · rw [if_neg c2] at u3
            obtain ⟨v1, v2, v3⟩ := fx_go (S := S) (L := L) (i := i + 2) (due := 4) (x := 8) (by omega) (by omega) (by rw [show nI 4 = (4 : Int32) from rfl, da4, if_neg c2]) (by decide)
            refine Or.inr ⟨u3.1, ?_, i + 3, by omega, by omega, u3.2, by rw [show Fx S L 1 i = Fx S L 3 (i + 1) from g2, show Fx S L 3 (i + 1) = Fx S L 4 (i + 2) from f2]; exact v2, ?_⟩
            · rw [us_at, us_p (by decide), u2 _ _ (by omega), t0 _ _ (by omega), o2 _ _ (by omega), q5, hq, nI_1]
            · have w0 : us (us Z 7 (3 * q + 2) z) 0 10 (us Z 7 (3 * q + 2) z 0 10 + 1) 7 (3 * q) = sg S L i := by rw [us_p (by decide), us_k (by omega), u2 _ _ (by omega), t0 _ _ (by omega), o2 _ _ (by omega), q4]
              have w1 : us (us Z 7 (3 * q + 2) z) 0 10 (us Z 7 (3 * q + 2) z 0 10 + 1) 7 (3 * q + 1) = sg S L (i + 1) - 65 := by rw [us_p (by decide), us_k (by omega), u2 _ _ (by omega), t1]
              have w2 : us (us Z 7 (3 * q + 2) z) 0 10 (us Z 7 (3 * q + 2) z 0 10 + 1) 7 (3 * q + 2) = sg S L (i + 2) - 48 := by rw [us_p (by decide), us_at, u1]
              rw [w0, w1, w2]
              refine ⟨fun j j1 j2 => ?_, g3.symm, Or.inr (Or.inl ⟨k3, rfl, by rw [f3], by rw [v3]⟩)⟩
              by_cases hj : j = i
              · rw [hj, ← g3]; exact hne0
              · by_cases hj1 : j = i + 1
                · rw [hj1, ← f3]; exact not59 c (by decide)
                · rw [show j = i + 2 by omega, ← v3]; exact not59 c2 (by decide)
      · have k5 : sg S L i = 116 := Classical.byContradiction fun z => h0 ⟨fun y => k2 (Or.inl y), fun y => k3 (Or.inl y), fun y => k3 (Or.inr y), fun y => k2 (Or.inr (Or.inl y)), fun y => k2 (Or.inr (Or.inr y)), z⟩
        obtain ⟨g1, g2, g3⟩ := fx_go (S := S) (L := L) (i := i) (due := 1) (x := 5) (by omega) hiL (by rw [show nI 1 = (1 : Int32) from rfl, da1, k5]; decide) (by decide)
        obtain ⟨q1, q2, q3, q4, q5, q6⟩ := rS13_c (q := q) (x := 116) h hi
        obtain ⟨n1, n2⟩ := num_c q1 q2 (by omega) q3
        rw [rd_eq5 hcq (hx.trans k5)]
        generalize (p_X7_number (rS13 X q 116)).2 = Y at n1 n2 ⊢
        generalize (p_X7_number (rS13 X q 116)).1 = y at n2 ⊢
        refine ⟨fun p k h1 h2 => by rw [us_ne _ _ (by omega), us_ne _ _ (by omega), us_ne _ _ (by omega), n1 _ _ (by omega), q6 _ _ (by omega) (by omega)], ?_⟩
        rw [us_k (by decide), us_p (by decide), us_p (by decide), us_k (k' := 11) (by decide), us_p (p' := 0) (k' := 11) (by decide), us_p (p' := 0) (k' := 11) (by decide)]
        rcases n2 with ⟨m1, m2, m3⟩ | ⟨m1, m, m2, m3, m4, m5, m6, m7, m8⟩
        · exact Or.inl ⟨m1, i + 1, by omega, m2, by rw [show Fx S L 1 i = Fx S L 5 (i + 1) from g2]; exact m3⟩
        · refine Or.inr ⟨m1, ?_, i + 1 + m, by omega, by omega, m5, by rw [show Fx S L 1 i = Fx S L 5 (i + 1) from g2]; exact m8, ?_⟩
          · rw [us_at, us_p (by decide), us_p (by decide), n1 _ _ (by omega), q5, hq, nI_1]
          · have w0 : us (us (us Y 7 (3 * q + 1) y) 7 (3 * q + 2) 0) 0 10 (us (us Y 7 (3 * q + 1) y) 7 (3 * q + 2) 0 0 10 + 1) 7 (3 * q) = 116 := by rw [us_p (by decide), us_k (by omega), us_k (by omega), n1 _ _ (by omega), q4]
            have w1 : us (us (us Y 7 (3 * q + 1) y) 7 (3 * q + 2) 0) 0 10 (us (us Y 7 (3 * q + 1) y) 7 (3 * q + 2) 0 0 10 + 1) 7 (3 * q + 1) = nB S (i + 1) m := by rw [us_p (by decide), us_k (by omega), us_at, m6]
            rw [w0, w1]
            refine ⟨fun j j1 j2 => ?_, by rw [← g3, k5], Or.inr (Or.inr ⟨rfl, m, m2, m3, rfl, rfl⟩)⟩
            by_cases hj : j = i
            · rw [hj, ← g3]; exact hne0
            · have := m7 (j - (i + 1)) (by omega)
              rw [show i + 1 + (j - (i + 1)) = j by omega] at this
              exact not59 this (by decide)
