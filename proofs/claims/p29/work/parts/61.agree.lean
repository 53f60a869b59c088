/-! what agree asks, out of the invariant -/
def FA (S : Sv) (m : Nat) (σ : Int32 × Int32) (f : Int32) : Prop :=
  (σ.2 = (-6) ∧ σ.1 = 0 ∧ f = (-6)) ∨ ∃ b, b < m ∧ σ.2 = nI b ∧ f = nI b ∧ S (3 + b) 5 = 1 ∧ S (3 + b) 7 = (-6) ∧ σ.1 = prk (S (3 + b) 0) (S 1 0) (S 1 1) 1 (S (3 + b) 6)
theorem shl_0 (k : Int32) : (0 : Int32) <<< k = 0 := by
  apply Int32.toBitVec_inj.mp
  simp
section AGR
variable {w a c g u n t d e : Nat} {v : Nat → Nat} {B : Sv}
theorem fa_step (h : KS w a c g u v n t d B) (hw : w < 2 ^ 30) {m : Nat} (hm : m < n) {σ : Int32 × Int32} {f : Int32 × Int32 × Int32} (hI : FA B m σ f.1) : FA B (m + 1) (q_X3_foundLine_7 B m σ) (q_L_agree_10 B n e m f).1 := by
  have hn := h.n12
  obtain ⟨v1, v2⟩ := σ
  obtain ⟨f, fm, fs⟩ := f
  have hpl := pl_neg (h.pl hm)
  obtain ⟨z0, -, -, z3, z4, z5, -, z6, -⟩ := (h.2.1 m hm).1
  have g0 : (0 : Int32) ≤ B 1 0 := bn_ge0 h.s0 (by decide)
  dsimp only at hI
  have keep : FA B (m + 1) (v1, v2) f := by
    rcases hI with q | ⟨b, b1, b2⟩
    · exact Or.inl q
    · exact Or.inr ⟨b, by omega, b2⟩
  unfold q_X3_foundLine_7 q_L_agree_10
  try dsimp only
  rw [h.nl4 hm, h.nl5 hm, h.nl6 hm, h.nl7 hm, h.nl8 hm, na18]
  by_cases hmb : p_X1_mayBegin B m = 0
  · simp only [if_pos hmb]
    rw [mayB] at hmb
    have hv : ∀ z : Int32, (if (if B (3 + m) 5 = 1 then if 0 ≤ B (3 + m) 7 then 0 else if B (3 + m) 4 = 0 then if prk (B (3 + m) 0) (B 1 0) (B 1 1) (B (3 + m) 5) (B (3 + m) 6) < B 1 6 then (0 : Int32) else 1 else 0 else 0) = 0 then f else z) = f := fun z => by
      rcases z5 with h5 | h5
      · simp [h5]
      · by_cases h7 : B (3 + m) 7 = (-6)
        · by_cases h4 : B (3 + m) 4 = 0
          · exact absurd ⟨by rw [h5]; decide, h4, h7⟩ hmb
          · simp [h4]
        · rw [if_pos (hpl.mpr h7)]; simp
    rw [hv]
    exact keep
  · simp only [if_neg hmb]
    rw [mayB] at hmb
    obtain ⟨h5, h4, h7⟩ := Classical.not_not.mp hmb
    have h51 := z5.resolve_left h5
    have hn7 : ¬ (0 : Int32) ≤ B (3 + m) 7 := fun q => hpl.mp q h7
    have hpc : p_X1_presentRank B m (B 1 0) (B 1 1) = prk (B (3 + m) 0) (B 1 0) (B 1 1) 1 (B (3 + m) 6) := by rw [pr_prk g0, h51]
    simp only [h51, if_neg hn7, if_pos h4, hpc, if_true, if_neg (show ¬ (1 : Int32) = 0 by decide)]
    obtain ⟨x, x1, x2⟩ := prk_bn z0 h.s0 h.s1 z1_1 (fun _ => z6 h51) hw
    by_cases hb : B 1 6 ≤ prk (B (3 + m) 0) (B 1 0) (B 1 1) 1 (B (3 + m) 6)
    · simp only [if_pos hb, if_neg (Int32.not_lt.mpr hb), if_neg (show ¬ (1 : Int32) = 0 by decide)]
      have new : FA B (m + 1) (prk (B (3 + m) 0) (B 1 0) (B 1 1) 1 (B (3 + m) 6), nI m) (nI m) := Or.inr ⟨m, by omega, rfl, rfl, h51, h7, rfl⟩
      rcases hI with ⟨rfl, rfl, rfl⟩ | ⟨b, b1, rfl, rfl, b3, b7, b4⟩
      · simp only [if_pos (show (-6 : Int32) < 0 by decide), if_pos (show (-6 : Int32) = -6 from rfl), if_neg (show ¬ (1 : Int32) = 0 by decide)]
        exact new
      · have hbn : b < n := by omega
        have hc : cn (nI b) = b := cn_nI (by omega)
        have e7 : p_X3_numberOfLine B (nI b) 7 = v1 := by rw [h.nl7 hbn, b3]; exact b4.symm
        have e6 : p_X3_numberOfLine B (nI b) 6 = B (3 + b) 6 := by rw [h.nl6 hbn, if_neg (by rw [b3]; decide)]
        simp only [if_neg (nI_pos (show b < 2 ^ 31 by omega)), hc, if_neg (nI_n6 (k := b) (by omega)), e7, e6]
        generalize prk (B (3 + m) 0) (B 1 0) (B 1 1) 1 (B (3 + m) 6) = x at new ⊢
        by_cases c1 : v1 < x
        · simp only [if_pos c1, if_neg (show ¬ (1 : Int32) = 0 by decide)]
          exact new
        · simp only [if_neg c1]
          by_cases c2 : x = v1
          · simp only [if_pos c2]
            by_cases c3 : B (3 + m) 6 ≤ B (3 + b) 6
            · simp only [if_pos c3, if_true]
              exact keep
            · simp only [if_neg c3, if_neg (show ¬ (1 : Int32) = 0 by decide)]
              exact new
          · simp only [if_neg c2, if_true]
            exact keep
    · simp only [if_neg hb, if_pos (Int32.not_le.mp hb), if_true]
      exact keep
theorem ag_it (h : KS w a c g u v n t d B) (hw : w < 2 ^ 30) : ∀ m, m ≤ n → FA B m (itN (q_X3_foundLine_7 B) m (0, (-6))) (itN (q_L_agree_10 B n e) m (-6, 0, 0)).1 ∧ (itN (q_L_agree_10 B n e) m (-6, 0, 0)).2.1 = itN (q_X3_missesOfAll_4 B) m 0 ∧ (itN (q_L_agree_10 B n e) m (-6, 0, 0)).2.2 = itN (q_X3_waitingLines_4 B) m 0 := by
  intro m
  induction m with
  | zero => intro _; exact ⟨Or.inl ⟨rfl, rfl, rfl⟩, rfl, rfl⟩
  | succ m ih =>
    intro hm
    rw [itN_s, itN_s, itN_s, itN_s]
    obtain ⟨i1, i2, i3⟩ := ih (by omega)
    generalize itN (q_L_agree_10 B n e) m (-6, 0, 0) = f at i1 i2 i3 ⊢
    refine ⟨fa_step h hw (by omega) i1, ?_, ?_⟩
    · rw [← i2]
      show f.2.1 + p_X3_numberOfLine B (nI m) 16 = f.2.1 + B (3 + m) 15
      rw [h.nl16 (by omega)]
    · rw [← i3]
      show f.2.2 ||| (p_X3_numberOfLine B (nI m) 5 <<< (nI m &&& 31)) = (if B (3 + m) 5 = 0 then f.2.2 else f.2.2 ||| ((1 : Int32) <<< ((nI m) &&& 31)))
      rw [h.nl5 (by omega)]
      rcases (h.2.1 m (by omega)).1.2.2.2.2.2.1 with q | q
      · rw [q, if_pos rfl, shl_0, Int32.or_zero]
      · rw [q, if_neg (by decide)]
theorem ag_E1 (h : KS w a c g u v n t d B) (hw : w < 2 ^ 30) : (itN (q_L_agree_10 B n e) n (-6, 0, 0)).2.2 = p_X3_numberOfAll B 4 := by
  rw [(ag_it h hw n (Nat.le_refl _)).2.2, na4]
  unfold p_X3_waitingLines
  try dsimp only
  rw [h.cn3]
theorem ag_E2 (h : KS w a c g u v n t d B) (hw : w < 2 ^ 30) : (itN (q_L_agree_10 B n e) n (-6, 0, 0)).2.1 = p_X3_numberOfAll B 8 := by
  rw [(ag_it h hw n (Nat.le_refl _)).2.1, na8]
  unfold p_X3_missesOfAll
  try dsimp only
  rw [h.cn3]
theorem ag_E3 (h : KS w a c g u v n t d B) (hw : w < 2 ^ 30) : (itN (q_L_agree_10 B n e) n (-6, 0, 0)).1 = p_X3_numberOfAll B 5 := by
  rw [na5]
  unfold p_X3_foundLine
  try dsimp only
  rw [h.cn3]
  rcases (ag_it (e := e) h hw n (Nat.le_refl _)).1 with ⟨q1, -, q2⟩ | ⟨b, -, q1, q2, -⟩
  · rw [q1, q2]
  · rw [q1, q2]
end AGR
/-- agree says yes -/
theorem c_agree1 (l : Launch) (E : mE) (μ : Mu) {b n t d g : Nat} (hc : Wc μ) (h : KA b n t d g (μ 0)) : CtI l E yL_agree cL_agree 10 (some .boolean) 5 116 [.ref (ea E 11 0)] μ (fun x μ' => x = 1 ∧ μ' = μ) := by
  obtain ⟨hK, hgb, hb9⟩ := h
  have hn := hK.n12
  have hd := hK.d8
  have hN := hK.2.2.2.1
  have hL := fun j (hj : j < n) => (hK.2.1 j hj)
  refine c_L_agree l E μ (μ 0) n d rfl hc (na1.trans hK.en) hn (na3.trans hK.ed) hd (fun j hj => ?_) (fun j hj => ?_) (fun j hj => ?_) (fun j hj => ?_) (fun j hj => ?_) (fun j hj => ?_) (fun j hj => ?_) (fun j hj => ?_) (fun j hj => ?_) (fun k hk => ?_) (fun k hk => ?_) (fun k hk => ?_) (fun k hk => ?_) (ag_E1 hK (by omega)) (ag_E2 hK (by omega)) (ag_E3 hK (by omega)) ?_ ?_
  · obtain ⟨z0, z1, z2, z3, z4, z5, z8, z6, zd, zl, zb, z13, z9⟩ := (hL j hj).1
    rw [hK.nl5 hj, hK.nl6 hj]
    intro q
    rw [if_neg (by rw [q]; decide)]
    exact bn_ge0 (z6 q) (by omega)
  · obtain ⟨z0, z1, z2, z3, z4, z5, z8, z6, zd, zl, zb, z13, z9⟩ := (hL j hj).1
    rw [hK.nl5 hj, hK.nl6 hj]
    intro q
    rw [if_pos (z5.resolve_right q)]
  · obtain ⟨z0, z1, z2, z3, z4, z5, z8, z6, zd, zl, zb, z13, z9⟩ := (hL j hj).1
    rw [hK.prs hj, hK.nl5 hj, hK.nl6 hj, hK.nl7 hj]
    rcases z5 with q | q
    · rw [q, prk_0, prk_0]
    · rw [q, if_neg (by decide)]
  · obtain ⟨z0, z1, z2, z3, z4, z5, z8, z6, zd, zl, zb, z13, z9⟩ := (hL j hj).1
    rw [hK.nl3 hj, hK.nl5 hj, hK.nl9 hj, hK.nl8 hj]
    intro q
    rw [zl q]
    have hpl := pl_neg (hK.pl hj)
    by_cases h7 : μ 0 (3 + j) 7 = (-6)
    · rw [if_pos h7, if_neg (show ¬ (0 : Int32) ≤ μ 0 (3 + j) 7 from fun z => hpl.mp z h7)]
    · rw [if_neg h7, if_pos (hpl.mpr h7)]
  · obtain ⟨z0, z1, z2, z3, z4, z5, z8, z6, zd, zl, zb, z13, z9⟩ := (hL j hj).1
    rw [hK.nl3 hj, hK.nl9 hj]
    exact zd
  · rw [hK.nl8 hj]
    intro q
    rcases (hL j hj).2 with z | ⟨k, k1, k2, k3⟩
    · rw [z] at q
      exact absurd (by decide) q
    · rw [k2, hK.np0 k1, k3]
  · obtain ⟨z0, z1, z2, z3, z4, z5, z8, z6, zd, zl, zb, z13, z9⟩ := (hL j hj).1
    rw [hK.nl12 hj, hK.nl13 hj, hK.nl8 hj, zb]
    have hpl := pl_neg (hK.pl hj)
    by_cases h7 : μ 0 (3 + j) 7 = (-6)
    · rw [if_pos h7, if_neg (show ¬ (0 : Int32) ≤ μ 0 (3 + j) 7 from fun z => hpl.mp z h7)]
    · rw [if_neg h7, if_pos (hpl.mpr h7)]
  · obtain ⟨z0, z1, z2, z3, z4, z5, z8, z6, zd, zl, zb, ⟨x, y, x1, x2, x3, x4⟩, z9⟩ := (hL j hj).1
    rw [hK.nl14 hj, hK.nl15 hj, x3, x4]
    exact nI_nlt x1 (by omega)
  · obtain ⟨z0, z1, z2, z3, z4, z5, z8, z6, zd, zl, zb, z13, ⟨x, y, x1, x2, x3, x4⟩⟩ := (hL j hj).1
    rw [hK.nl10 hj, hK.nl11 hj, x3, x4]
    exact nI_le x1 (by omega)
  · obtain ⟨⟨i, i1, i2, i3⟩, -⟩ := hN k hk
    rw [hK.np0 hk, i2, hK.nl8 i1, i3]
  · obtain ⟨-, ⟨r, r1, r2⟩, -⟩ := hN k hk
    rw [hK.np1 hk, r2]
    cases k with
    | zero =>
      rw [show rkOf (μ 0) 0 = -1 from rfl]
      exact fun z => absurd (Int32.le_trans (nI_pos' (by omega)) z) (by decide)
    | succ k =>
      rw [rk_s, hK.np1 (by omega)]
      obtain ⟨-, ⟨x, x1, x2⟩, -⟩ := hN k (by omega)
      have hi := hK.2.2.2.2 k hk
      rw [r2, x2, cn_nI (by omega), cn_nI (by omega)] at hi
      rw [x2]
      exact nI_ge hi (by omega)
  · obtain ⟨-, -, ⟨q, q1, q2, q3⟩, -⟩ := hN k hk
    rw [hK.np2 hk, q3]
    exact nI_nlt (b := 1) (by omega) (by omega)
  · obtain ⟨-, -, -, gg, g1, g2⟩ := hN k hk
    rw [hK.np3 hk, g2, na0, hK.eg]
    exact nI_lt g1 (by omega)
  · obtain ⟨e, e1, e2, e3⟩ := hK.dp
    rw [na7, na3, e3, hK.ed]
    exact nI_nlt e1 (by omega)
  · rw [na3, hK.ed]
    exact hK.npd 0
