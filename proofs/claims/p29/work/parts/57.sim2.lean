/-! the line that is found, in the law's own rows and in the class -/
def FI (S : Sv) (m : Nat) (σ : Int32 × Int32) (f : Int32) : Prop :=
  (σ.2 = (-6) ∧ σ.1 = 0 ∧ f = (-1)) ∨ ∃ b, b < m ∧ σ.2 = nI b ∧ f = nI b ∧ S (3 + b) 5 = 1 ∧ S (3 + b) 7 = (-6) ∧ σ.1 = prk (S (3 + b) 0) (S 1 0) (S 1 1) 1 (S (3 + b) 6)
section FND
variable {w a c w' a' c' g u g' u' n t d t' d' : Nat} {v v' : Nat → Nat} {B S A : Sv}
theorem ar_pres (hB : KS w a c g u v n t d B) (hA : ∀ i, i < n → AR B S A i) (h1 : ∀ k, S 1 k = B 1 k) {j : Nat} (hj : j < n) (h5 : S (3 + j) 5 = 1) : p_L_present B (nI j) (A 0 j) (A 1 j) = prk (S (3 + j) 0) (S 1 0) (S 1 1) 1 (S (3 + j) 6) := by
  obtain ⟨a0, a1, -, -, -, -, -, -, -, -, -, af⟩ := hA j hj
  rw [hB.prs hj, a0, h5, a1 h5, af 0 (by omega), h1, h1]
theorem ar_pos (hB : KS w a c g u v n t d B) (hK : KS w' a' c' g' u' v' n t' d' S) (hw : w' < 2 ^ 30) (hA : ∀ i, i < n → AR B S A i) {j : Nat} (hj : j < n) : ∃ q, q ≤ 31 ∧ p_L_present B (nI j) (A 0 j) (A 1 j) = nI q := by
  obtain ⟨z0, -, -, -, -, z5, -, z6, -⟩ := (hK.2.1 j hj).1
  obtain ⟨a0, a1, -, -, -, -, -, -, -, -, -, af⟩ := hA j hj
  rw [hB.prs hj, a0]
  exact prk_bn (by rw [← af 0 (by omega)]; exact z0) hB.s0 hB.s1 z5 (fun q => by rw [a1 q]; exact z6 q) hw
theorem fi_step (hB : KS w a c g u v n t d B) (hK : KS w' a' c' g' u' v' n t' d' S) (hw : w' < 2 ^ 30) (hA : ∀ i, i < n → AR B S A i) (h1 : ∀ k, S 1 k = B 1 k) {m : Nat} (hm : m < n) {σ : Int32 × Int32} {f : Int32} (hI : FI S m σ f) : FI S (m + 1) (q_X3_foundLine_7 S m σ) (q_T2_481 B A n m f) := by
  have hn := hK.n12
  obtain ⟨v1, v2⟩ := σ
  have hpl := pl_neg (hK.pl hm)
  obtain ⟨z0, -, -, z3, z4, z5, -, z6, -⟩ := (hK.2.1 m hm).1
  have g0 : (0 : Int32) ≤ S 1 0 := bn_ge0 hK.s0 (by decide)
  have keep : FI S (m + 1) (v1, v2) f := by
    rcases hI with q | ⟨b, b1, b2⟩
    · exact Or.inl q
    · exact Or.inr ⟨b, by omega, b2⟩
  obtain ⟨a0, a1, -, a3, -, -, -, -, -, -, -, af⟩ := hA m hm
  have e4 : B (3 + m) 4 = S (3 + m) 4 := (af 4 (by omega)).symm
  unfold q_X3_foundLine_7 q_T2_481
  try dsimp only
  rw [hB.nl4 hm, e4, a0, a3, na18, ← h1 6]
  by_cases hmb : p_X1_mayBegin S m = 0
  · simp only [if_pos hmb]
    rw [mayB] at hmb
    have hv : ∀ z : Int32, (if S (3 + m) 5 = 1 then if 0 ≤ S (3 + m) 7 then f else if S (3 + m) 4 = 0 then z else f else f) = f := fun z => by
      rcases z5 with h5 | h5
      · simp [h5]
      · by_cases h7 : S (3 + m) 7 = (-6)
        · by_cases h4 : S (3 + m) 4 = 0
          · exact absurd ⟨by rw [h5]; decide, h4, h7⟩ hmb
          · simp [h4]
        · rw [if_pos (hpl.mpr h7)]; simp
    rw [hv]
    exact keep
  · simp only [if_neg hmb]
    rw [mayB] at hmb
    obtain ⟨h5, h4, h7⟩ := Classical.not_not.mp hmb
    have h51 := z5.resolve_left h5
    have hn7 : ¬ (0 : Int32) ≤ S (3 + m) 7 := fun q => hpl.mp q h7
    have hp := ar_pres hB hA h1 hm h51
    rw [a0] at hp
    have hpc : p_X1_presentRank S m (S 1 0) (S 1 1) = prk (S (3 + m) 0) (S 1 0) (S 1 1) 1 (S (3 + m) 6) := by rw [pr_prk g0, h51]
    simp only [if_pos h51, if_neg hn7, if_pos h4, hp, hpc]
    obtain ⟨x, x1, x2⟩ := prk_bn z0 hK.s0 hK.s1 z1_1 (fun _ => z6 h51) hw
    by_cases hb : S 1 6 ≤ prk (S (3 + m) 0) (S 1 0) (S 1 1) 1 (S (3 + m) 6)
    · simp only [if_pos hb, if_neg (Int32.not_lt.mpr hb)]
      have new : FI S (m + 1) (prk (S (3 + m) 0) (S 1 0) (S 1 1) 1 (S (3 + m) 6), nI m) (nI m) := Or.inr ⟨m, by omega, rfl, rfl, h51, h7, rfl⟩
      rcases hI with ⟨rfl, rfl, rfl⟩ | ⟨b, b1, rfl, rfl, b3, b7, b4⟩
      · have c1 : (-1 : Int32) < prk (S (3 + m) 0) (S 1 0) (S 1 1) 1 (S (3 + m) 6) := by rw [x2]; exact Int32.lt_of_lt_of_le (show (-1 : Int32) < 0 by decide) (nI_pos' (by omega))
        simp only [if_neg (show ¬ (0 : Int32) ≤ -1 by decide), if_pos c1, if_pos (show (-6 : Int32) = -6 from rfl), if_neg (show ¬ (1 : Int32) = 0 by decide)]
        exact new
      · have hbn : b < n := by omega
        have hc : cn (nI b) = b := cn_nI (by omega)
        obtain ⟨q0, q1, -, -, -, -, -, -, -, -, -, qf⟩ := hA b hbn
        have hpb := ar_pres hB hA h1 hbn b3
        have e6b : A 1 b = S (3 + b) 6 := q1 b3
        rw [q0, b3, e6b] at hpb
        have e6m : A 1 m = S (3 + m) 6 := a1 h51
        simp only [if_pos (show (0 : Int32) ≤ nI b from nI_pos' (by omega)), hc, hpb, if_neg (nI_n6 (k := b) (by omega)), e6b, e6m]
        dsimp only at b4
        rw [← b4]
        generalize prk (S (3 + m) 0) (S 1 0) (S 1 1) 1 (S (3 + m) 6) = x at new ⊢
        by_cases c1 : v1 < x
        · simp only [if_pos c1, if_neg (show ¬ (1 : Int32) = 0 by decide)]
          exact new
        · simp only [if_neg c1]
          by_cases c2 : x = v1
          · simp only [if_pos c2]
            by_cases c3 : S (3 + m) 6 ≤ S (3 + b) 6
            · simp only [if_pos c3, if_true]
              exact keep
            · simp only [if_neg c3, if_neg (show ¬ (1 : Int32) = 0 by decide)]
              exact new
          · simp only [if_neg c2, if_true]
            exact keep
    · simp only [if_neg hb, if_pos (Int32.not_le.mp hb)]
      exact keep
theorem fi_it (hB : KS w a c g u v n t d B) (hK : KS w' a' c' g' u' v' n t' d' S) (hw : w' < 2 ^ 30) (hA : ∀ i, i < n → AR B S A i) (h1 : ∀ k, S 1 k = B 1 k) : ∀ m, m ≤ n → FI S m (itN (q_X3_foundLine_7 S) m (0, (-6))) (itN (q_T2_481 B A n) m (-1)) := by
  intro m
  induction m with
  | zero => intro _; exact Or.inl ⟨rfl, rfl, rfl⟩
  | succ m ih =>
    intro hm
    rw [itN_s, itN_s]
    exact fi_step hB hK hw hA h1 (by omega) (ih (by omega))
theorem t2_all (hB : KS w a c g u v n t d B) (hK : KS w' a' c' g' u' v' n t' d' S) (hw : w' < 2 ^ 30) (hA : ∀ i, i < n → AR B S A i) (h1 : ∀ k, S 1 k = B 1 k) : (p_X3_foundLine S = (-6) ∧ g_T2 B A n = (-1)) ∨ ∃ b, b < n ∧ p_X3_foundLine S = nI b ∧ g_T2 B A n = nI b ∧ S (3 + b) 5 = 1 ∧ S (3 + b) 7 = (-6) := by
  have h := fi_it hB hK hw hA h1 n (Nat.le_refl _)
  unfold p_X3_foundLine g_T2
  try dsimp only
  rw [hK.cn3]
  rcases h with ⟨q1, -, q2⟩ | ⟨b, b1, b2, b3, b4, b5, -⟩
  · exact Or.inl ⟨q1, q2⟩
  · exact Or.inr ⟨b, b1, b2, b3, b4, b5⟩
end FND
/-! a service begins -/
/-- the law's own rows when the line u begins at the depth d -/
def lbA (B A : Sv) (d : Nat) (u22 : Int32) : Sv :=
  let S4 : Sv := us A 11 d u22
  let S5 : Sv := us S4 12 d (p_L_present B u22 1 (S4 1 (cn u22)))
  let S6 : Sv := us S5 13 d ((p_X3_numberOfLine B u22 1) + (p_X3_numberOfAll B 16))
  let S10 : Sv := us S6 3 (cn u22) (nI d)
  let S14 : Sv := us S10 6 (cn u22) ((S10 6 (cn u22)) + 1)
  let S15 : Sv := us S14 9 (cn u22) ((S14 9 (cn u22)) + (S14 1 (cn u22)))
  let v17 : Int32 := (if (S15 1 (cn u22)) ≤ (S15 8 (cn u22)) then S15 8 (cn u22) else S15 1 (cn u22))
  let S19 : Sv := us S15 8 (cn u22) v17
  let v22 : Int32 := (if (p_X3_numberOfLine B u22 2) ≤ 0 then 0 else (if (S19 1 (cn u22)) ≤ (p_X3_numberOfLine B u22 2) then 0 else 1))
  let S24 : Sv := us S19 10 (cn u22) ((S19 10 (cn u22)) + v22)
  us S24 0 (cn u22) 0
theorem t3_eq {B A : Sv} {d : Nat} {u20 u21 u22 : Int32} : g_T3 B A d u20 u21 u22 = (if u22 < 0 then (A, nI d, u20, u21) else if p_X3_numberOfAll B 15 ≤ nI d then (A, nI d, u20, u21) else if nI d = 0 then (lbA B A d u22, nI (d + 1), (if nI (d + 1) ≤ u20 then u20 else nI (d + 1)), u21 + (if nI d ≤ 0 then 0 else 1))
    else if p_L_present B u22 1 (A 1 (cn u22)) < A 12 (d - 1) + p_X3_numberOfAll B 14 then (A, nI d, u20, u21) else (lbA B A d u22, nI (d + 1), (if nI (d + 1) ≤ u20 then u20 else nI (d + 1)), u21 + (if nI d ≤ 0 then 0 else 1))) := rfl
theorem lb_o {B A : Sv} {d i p k : Nat} (hc : cn (nI i) = i) (h1 : ¬ ((p = 0 ∨ p = 3 ∨ p = 6 ∨ p = 8 ∨ p = 9 ∨ p = 10) ∧ k = i)) (h2 : ¬ ((p = 11 ∨ p = 12 ∨ p = 13) ∧ k = d)) : lbA B A d (nI i) p k = A p k := by
  unfold lbA
  try dsimp only
  rw [hc, us_ne _ _ (by omega), us_ne _ _ (by omega), us_ne _ _ (by omega), us_ne _ _ (by omega), us_ne _ _ (by omega), us_ne _ _ (by omega), us_ne _ _ (by omega), us_ne _ _ (by omega), us_ne _ _ (by omega)]
theorem lb_f {B A : Sv} {d i : Nat} (hc : cn (nI i) = i) : lbA B A d (nI i) 0 i = 0 ∧ lbA B A d (nI i) 3 i = nI d ∧ lbA B A d (nI i) 6 i = A 6 i + 1 ∧ lbA B A d (nI i) 8 i = (if A 1 i ≤ A 8 i then A 8 i else A 1 i) ∧ lbA B A d (nI i) 9 i = A 9 i + A 1 i ∧
    lbA B A d (nI i) 10 i = A 10 i + (if p_X3_numberOfLine B (nI i) 2 ≤ 0 then 0 else (if A 1 i ≤ p_X3_numberOfLine B (nI i) 2 then 0 else 1)) ∧ lbA B A d (nI i) 11 d = nI i ∧ lbA B A d (nI i) 12 d = p_L_present B (nI i) 1 (A 1 i) ∧ lbA B A d (nI i) 13 d = p_X3_numberOfLine B (nI i) 1 + p_X3_numberOfAll B 16 := by
  unfold lbA
  try dsimp only
  rw [hc]
  simp (disch := omega) only [us_at, us_p, us_k]
  exact ⟨trivial, trivial, trivial, trivial, trivial, trivial, trivial, trivial, trivial⟩
theorem KS.begin {w a c g u n t d i r : Nat} {v : Nat → Nat} {S : Sv} (h : KS w a c g u v n t d S) (hu : u ≤ g + 1) (hw : w < 2 ^ 20) (ha : a < 2 ^ 20) (hi : i < n) (hd : d < 8) (h5 : S (3 + i) 5 = 1) (h7 : S (3 + i) 7 = (-6)) (hr : r ≤ 31) (hi2 : 0 < d → cn (S (23 + (d - 1)) 1) < r) : KS w (a + w) c g (g + 1) v n t (d + 1) (cb S i d (nI r)) := by
  have hn := h.n12
  have ht := h.t6
  have hs4 := h.s4
  have ho : ∀ p k, ¬ (p = 0 ∧ (k = 7 ∨ k = 9 ∨ k = 10)) → ¬ p = 3 + i → ¬ p = 23 + d → cb S i d (nI r) p k = S p k := fun p k p0 p1 p2 => cb_o p0 p1 p2
  obtain ⟨c7, c9, c10⟩ := @cb_0 S i d (nI r)
  obtain ⟨n0, n1, n2, n3⟩ := @cb_n S i d (nI r) (by omega)
  obtain ⟨l0, l1, l2, l3, l4, l5, l7, l8, l9, l10, l11, l12, l13, l14, l15⟩ := @cb_l S i d (nI r) (by omega)
  generalize cb S i d (nI r) = T at *
  obtain ⟨⟨b1, b2, b3, b4, b5, b6, b7, b8, ⟨e, e1, e2, e3⟩, b10⟩, a2, a3, a4, a5⟩ := h
  have e7d : S 0 7 + 1 = nI (d + 1) := by rw [b5]; exact nI_add d 1
  refine ⟨⟨by rw [ho _ _ (by omega) (by omega) (by omega)]; exact b1, b2, by rw [ho _ _ (by omega) (by omega) (by omega)]; exact b3, b4, by rw [c7, e7d], by omega, by rw [ho _ _ (by omega) (by omega) (by omega)]; exact b7, b8, ?_, fun k hk => by rw [ho _ _ (by omega) (by omega) (by omega)]; exact b10 k hk⟩, fun j hj => ?_, fun j hj => ?_, fun k hk => ?_, fun k hk => ?_⟩
  · rw [c9, e7d, e3]
    by_cases q : nI (d + 1) ≤ nI e
    · rw [if_pos q]
      exact ⟨e, Nat.le_of_not_lt fun z => absurd q (nI_ge z (by omega)), e2, rfl⟩
    · rw [if_neg q]
      exact ⟨d + 1, Nat.le_refl _, by omega, rfl⟩
  · by_cases hji : j = i
    · rw [hji]
      obtain ⟨z0, z1, z2, z3, z4, z5, z8, z6, zd, zl, zb, ⟨x, y, x1, x2, x3, x4⟩, z9⟩ := (a2 i hi).1
      obtain ⟨s, s1, s2⟩ := bn_to (z6 h5)
      refine ⟨?_, Or.inr ⟨d, by omega, by rw [l7, b5], n0⟩⟩
      unfold LK
      rw [l0, l1, l2, l3, l4, l5, l7, l8, l9, l10, l11, l12, l13, l14, b5]
      refine ⟨z0, z1, z2, z3, z4, z1_0, z8, fun q => absurd q (by decide), zd, fun _ => ?_, ?_, ?_, z9⟩
      · rw [if_neg (nI_n6 (show d < 2 ^ 31 by omega))]
        simp
      · rw [if_neg (nI_n6 (show d < 2 ^ 31 by omega))]
        rw [h7, if_pos rfl] at zb
        rw [Int32.sub_eq_add_neg, Int32.add_assoc, Int32.add_comm 1, ← Int32.add_assoc, ← Int32.sub_eq_add_neg, zb]
        decide
      · rw [x3, x4, s2, nI_add]
        by_cases q : nI s ≤ nI x
        · rw [if_pos q]
          exact ⟨x, y + s, by omega, by omega, rfl, rfl⟩
        · rw [if_neg q]
          exact ⟨s, y + s, by omega, by omega, rfl, rfl⟩
    · refine ⟨((a2 j hj).1.mono (Nat.le_refl _) (by omega) (Nat.le_refl _)).same (fun k => ho _ _ (by omega) (by omega) (by omega)), ?_⟩
      rcases (a2 j hj).2 with q | ⟨k, k1, k2, k3⟩
      · exact Or.inl (by rw [ho _ _ (by omega) (by omega) (by omega)]; exact q)
      · exact Or.inr ⟨k, by omega, by rw [ho _ _ (by omega) (by omega) (by omega)]; exact k2, by rw [ho _ _ (by omega) (by omega) (by omega)]; exact k3⟩
  · refine (a3 j hj).same (fun f => ho _ _ (by omega) (by omega) (by omega)) (fun i' _ => ?_)
    by_cases hji : i' = i
    · rw [hji]; exact l3
    · exact ho _ _ (by omega) (by omega) (by omega)
  · by_cases hkd : k = d
    · rw [hkd]
      obtain ⟨-, ⟨q, q0, q1, q2⟩, -⟩ := (a2 i hi).1
      obtain ⟨s, s1, s2⟩ := bn_to hs4
      exact ⟨⟨i, hi, n0, by rw [l7, b5]⟩, ⟨r, hr, n1⟩, ⟨q + s, by omega, by omega, by rw [n2, q2, s2]; exact nI_add q s⟩, g, by omega, by rw [n3]; exact b7⟩
    · obtain ⟨⟨i', i1, i2, i3⟩, k1, k2, gg, g1, g2⟩ := a4 k (by omega)
      have hii : ¬ i' = i := fun z => by
        rw [z, h7] at i3
        exact n6_nI (by omega) i3
      exact ⟨⟨i', i1, by rw [ho _ _ (by omega) (by omega) (by omega)]; exact i2, by rw [ho _ _ (by omega) (by omega) (by omega)]; exact i3⟩, by rw [ho _ _ (by omega) (by omega) (by omega)]; exact k1, by rw [ho _ _ (by omega) (by omega) (by omega)]; exact k2, gg, by omega, by rw [ho _ _ (by omega) (by omega) (by omega)]; exact g2⟩
  · by_cases hkd : k + 1 = d
    · rw [ho (23 + k) _ (by omega) (by omega) (by omega), hkd, n1, cn_nI (by omega)]
      have := hi2 (by omega)
      rw [show d - 1 = k by omega] at this
      exact this
    · rw [ho (23 + k) _ (by omega) (by omega) (by omega), ho (23 + (k + 1)) _ (by omega) (by omega) (by omega)]
      exact a5 k (by omega)
