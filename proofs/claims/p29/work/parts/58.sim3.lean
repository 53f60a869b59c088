/-! begin, serve, grow: the law's own rows beside the class -/
theorem KS.um {w a c g u u' n t d : Nat} {v : Nat → Nat} {S : Sv} (h : KS w a c g u v n t d S) (hu : u ≤ u') : KS w a c g u' v n t d S := by
  obtain ⟨a1, a2, a3, a4, a5⟩ := h
  refine ⟨a1, a2, a3, fun k hk => ?_, a5⟩
  obtain ⟨k1, k2, k3, gg, g1, g2⟩ := a4 k hk
  exact ⟨k1, k2, k3, gg, by omega, g2⟩
theorem KS.vm {w a c g u n t d : Nat} {v v' : Nat → Nat} {S : Sv} (h : KS w a c g u v n t d S) (hv : ∀ j, j < t → v j = v' j) : KS w a c g u v' n t d S := by
  obtain ⟨a1, a2, a3, a4, a5⟩ := h
  exact ⟨a1, a2, fun j hj => by rw [← hv j hj]; exact a3 j hj, a4, a5⟩
/-- what a stretch leaves alone -/
def FrT (S S' A A' : Sv) : Prop := (∀ p k, (p = 1 ∨ (16 ≤ p ∧ p < 23) ∨ (p = 0 ∧ (k = 0 ∨ k = 3 ∨ k = 5))) → S' p k = S p k) ∧ ∀ k, A' 14 k = A 14 k
theorem FrT.rf {S A : Sv} : FrT S S A A := ⟨fun _ _ _ => rfl, fun _ => rfl⟩
theorem FrT.tr {S S' S'' A A' A'' : Sv} (h : FrT S S' A A') (h' : FrT S' S'' A' A'') : FrT S S'' A A'' := ⟨fun p k q => (h'.1 p k q).trans (h.1 p k q), fun k => (h'.2 k).trans (h.2 k)⟩
/-- the law's rows say the same as the class -/
def SM (w a c g u n t d : Nat) (v : Nat → Nat) (B S A : Sv) : Prop := KS w a c g u v n t d S ∧ (∀ i, i < n → AR B S A i) ∧ AN d S A
theorem nt_0 {S : Sv} {rk : Int32} (h : S 0 7 = nI 0) : p_X3_nestTakes S rk = 1 := by
  unfold p_X3_nestTakes
  try dsimp only
  rw [h, if_pos (by rfl)]
theorem nt_s {S : Sv} {rk : Int32} {d : Nat} (h : S 0 7 = nI d) (hd : 0 < d) (hd8 : d ≤ 8) : p_X3_nestTakes S rk = (if S 1 3 ≤ nI d then 0 else if 8 ≤ nI d then 0 else if rk < S (23 + (d - 1)) 1 + S 1 2 then 0 else 1) := by
  unfold p_X3_nestTakes
  try dsimp only
  rw [h, if_neg (nI_ne0 hd (by omega)), cn_nI (show d < 2 ^ 31 by omega)]
  by_cases h1 : S 1 3 ≤ nI d
  · simp [h1]
  · by_cases h2 : 8 ≤ nI d
    · simp [h1, h2]
    · simp [h1, h2]
theorem begin_no {S : Sv} {b : Nat} (hb : b < 2 ^ 31) (hf : p_X3_foundLine S = nI b) (h : p_X3_nestTakes S (p_X1_presentRank S b (S 1 0) (S 1 1)) = 0) : (p_X3_beginFoundLine S).2 = S := by
  unfold p_X3_beginFoundLine
  try dsimp only
  rw [hf, if_neg (nI_n6 hb), cn_nI hb, if_pos h]
theorem begin_none {S : Sv} (hf : p_X3_foundLine S = (-6)) : (p_X3_beginFoundLine S).2 = S := by
  unfold p_X3_beginFoundLine
  try dsimp only
  rw [hf, if_pos rfl]
section B3
variable {w a c g u n t d wB aB cB uB tB dB : Nat} {v vB : Nat → Nat} {B S A : Sv}
theorem t3_begin (hB : KS wB aB cB g uB vB n tB dB B) (h : SM w a c g u n t d v B S A) (h1 : ∀ k, S 1 k = B 1 k) (hu : u ≤ g + 1) (hw : w < 2 ^ 20) (ha : a < 2 ^ 20) {b r : Nat} (hb : b < n) (hd : d < 8) (h5 : S (3 + b) 5 = 1) (h7 : S (3 + b) 7 = (-6)) (hr : r ≤ 31)
    (hp : p_L_present B (nI b) 1 (A 1 b) = nI r) (hi2 : 0 < d → cn (S (23 + (d - 1)) 1) < r) : SM w (a + w) c g (g + 1) n t (d + 1) v B (cb S b d (nI r)) (lbA B A d (nI b)) ∧ FrT S (cb S b d (nI r)) A (lbA B A d (nI b)) ∧ cb S b d (nI r) 0 8 = S 0 8 ∧
    (if nI (d + 1) ≤ S 0 9 then S 0 9 else nI (d + 1)) = cb S b d (nI r) 0 9 ∧ S 0 10 + (if nI d ≤ 0 then 0 else 1) = cb S b d (nI r) 0 10 := by
  obtain ⟨hK, hA, hN⟩ := h
  have hn := hK.n12
  have ht := hK.t6
  have hc : cn (nI b) = b := cn_nI (by omega)
  have ho : ∀ p k, ¬ (p = 0 ∧ (k = 7 ∨ k = 9 ∨ k = 10)) → ¬ p = 3 + b → ¬ p = 23 + d → cb S b d (nI r) p k = S p k := fun p k p0 p1 p2 => cb_o p0 p1 p2
  obtain ⟨c7, c9, c10⟩ := @cb_0 S b d (nI r)
  obtain ⟨n0, n1, n2, n3⟩ := @cb_n S b d (nI r) (by omega)
  obtain ⟨l0, l1, l2, l3, l4, l5, l7, l8, l9, l10, l11, l12, l13, l14, l15⟩ := @cb_l S b d (nI r) (by omega)
  have oA : ∀ p k, ¬ ((p = 0 ∨ p = 3 ∨ p = 6 ∨ p = 8 ∨ p = 9 ∨ p = 10) ∧ k = b) → ¬ ((p = 11 ∨ p = 12 ∨ p = 13) ∧ k = d) → lbA B A d (nI b) p k = A p k := fun p k q1 q2 => lb_o hc q1 q2
  obtain ⟨f0, f3, f6, f8, f9, f10, f11, f12, f13⟩ := @lb_f B A d b hc
  have hK' := hK.begin hu hw ha hb hd h5 h7 hr hi2
  generalize cb S b d (nI r) = T at *
  generalize lbA B A d (nI b) = A' at *
  have e7d : S 0 7 + 1 = nI (d + 1) := by rw [hK.ed]; exact nI_add d 1
  refine ⟨⟨hK', fun j hj => ?_, fun k hk => ?_⟩, ⟨fun p k hp => ho _ _ (by omega) (by omega) (by omega), fun k => oA _ _ (by omega) (by omega)⟩, ho _ _ (by omega) (by omega) (by omega), ?_, ?_⟩
  · by_cases hjb : j = b
    · rw [hjb]
      obtain ⟨a0, a1, a2, a3, a4, a5, a6, a7, a8, a9, a10, af⟩ := hA b hb
      unfold AR
      rw [l5, l7, l8, l9, l10, l11, l12, l13, l14, l15, f0, f3, f6, f8, f9, f10, oA 2 b (by omega) (by omega), oA 4 b (by omega) (by omega), oA 5 b (by omega) (by omega), oA 7 b (by omega) (by omega), a1 h5, a2, a4, a5, a6, a7, a8, a9, a10, hK.ed, hB.nl2 hb, ← af 2 (by omega)]
      refine ⟨rfl, fun q => absurd q (by decide), rfl, rfl, rfl, rfl, rfl, rfl, rfl, rfl, rfl, fun f hf => ?_⟩
      match f, hf with
      | 0, _ => rw [l0]; exact af 0 (by omega)
      | 1, _ => rw [l1]; exact af 1 (by omega)
      | 2, _ => rw [l2]; exact af 2 (by omega)
      | 3, _ => rw [l3]; exact af 3 (by omega)
      | 4, _ => rw [l4]; exact af 4 (by omega)
      | q + 5, hq => exact absurd hq (by omega)
    · exact (hA j hj).same (fun p hp => oA _ _ (by omega) (by omega)) (fun k => ho _ _ (by omega) (by omega) (by omega))
  · by_cases hkd : k = d
    · rw [hkd, f11, f12, f13, n0, n1, n2, hp, hB.nl1 hb, na16, ← h1 4, (hA b hb).2.2.2.2.2.2.2.2.2.2.2 1 (by omega)]
      exact ⟨rfl, rfl, rfl⟩
    · rw [oA 11 k (by omega) (by omega), oA 12 k (by omega) (by omega), oA 13 k (by omega) (by omega), ho (23 + k) _ (by omega) (by omega) (by omega), ho (23 + k) _ (by omega) (by omega) (by omega), ho (23 + k) _ (by omega) (by omega) (by omega)]
      exact hN k (by omega)
  · rw [c9, e7d]
  · rw [c10, hK.ed, ite_add, Int32.add_zero]
theorem t3_all (hB : KS wB aB cB g uB vB n tB dB B) (h : SM w a c g u n t d v B S A) (h1 : ∀ k, S 1 k = B 1 k) (hu : u ≤ g + 1) (hw : w < 2 ^ 20) (ha : a < 2 ^ 20) : ∃ d', d' ≤ 8 ∧ (g_T3 B A d (S 0 9) (S 0 10) (g_T2 B A n)).2.1 = nI d' ∧ SM w (a + w) c g (g + 1) n t d' v B (p_X3_beginFoundLine S).2 (g_T3 B A d (S 0 9) (S 0 10) (g_T2 B A n)).1 ∧
    FrT S (p_X3_beginFoundLine S).2 A (g_T3 B A d (S 0 9) (S 0 10) (g_T2 B A n)).1 ∧ (p_X3_beginFoundLine S).2 0 8 = S 0 8 ∧ (g_T3 B A d (S 0 9) (S 0 10) (g_T2 B A n)).2.2.1 = (p_X3_beginFoundLine S).2 0 9 ∧ (g_T3 B A d (S 0 9) (S 0 10) (g_T2 B A n)).2.2.2 = (p_X3_beginFoundLine S).2 0 10 := by
  obtain ⟨hK, hA, hN⟩ := id h
  have hn := hK.n12
  have hd8 := hK.d8
  have same : SM w (a + w) c g (g + 1) n t d v B S A := ⟨(hK.um hu).mono (Nat.le_refl _) (by omega) (Nat.le_refl _), hA, hN⟩
  have g0 : (0 : Int32) ≤ S 1 0 := bn_ge0 hK.s0 (by decide)
  rw [t3_eq]
  rcases t2_all hB hK (by omega) hA h1 with ⟨q1, q2⟩ | ⟨b, b1, q1, q2, h5, h7⟩
  · rw [q2, if_pos (by decide), begin_none q1]
    exact ⟨d, hd8, rfl, same, FrT.rf, rfl, rfl, rfl⟩
  · have hc : cn (nI b) = b := cn_nI (by omega)
    obtain ⟨z0, -, -, -, -, -, -, z6, -⟩ := (hK.2.1 b b1).1
    have hP := ar_pres hB hA h1 b1 h5
    obtain ⟨r, r1, r2⟩ := prk_bn z0 hK.s0 hK.s1 z1_1 (fun _ => z6 h5) (show w < 2 ^ 30 by omega)
    have hrk : p_X1_presentRank S b (S 1 0) (S 1 1) = nI r := by rw [pr_prk g0, h5, r2]
    rw [(hA b b1).1, h5, r2] at hP
    have e15 : p_X3_numberOfAll B 15 = S 1 3 := by rw [na15, h1]
    have e14 : p_X3_numberOfAll B 14 = S 1 2 := by rw [na14, h1]
    rw [q2, if_neg (nI_pos (by omega)), e15, e14, hc, hP]
    obtain ⟨m, m1, m2⟩ := bn_to hK.s3
    have m0 : 0 < m := Nat.pos_of_ne_zero fun z => by
      have := (hK.rg 3 (by omega)).1
      rw [m2, z] at this
      exact absurd this (by decide)
    by_cases hD : S 1 3 ≤ nI d
    · rw [if_pos hD]
      have hd0 : 0 < d := Nat.pos_of_ne_zero fun z => by
        rw [m2, z] at hD
        exact nI_ge (a := 0) m0 (by omega) hD
      rw [begin_no (by omega) q1 (by rw [nt_s hK.ed hd0 hd8, if_pos hD])]
      exact ⟨d, hd8, rfl, same, FrT.rf, rfl, rfl, rfl⟩
    · rw [if_neg hD]
      have hdm : d < m := Nat.lt_of_not_le fun z => hD (by rw [m2]; exact nI_le z (by omega))
      by_cases hd0 : d = 0
      · have e7 : S 0 7 = nI 0 := by rw [hK.ed, hd0]
        have hcb := cb_eq (d := d) q1 (by omega) hK.cn7 (by rw [nt_0 e7]; decide)
        rw [hrk] at hcb
        rw [if_pos (by rw [hd0]; rfl), hcb]
        exact ⟨d + 1, by omega, rfl, t3_begin hB h h1 hu hw ha b1 (by omega) h5 h7 r1 hP (fun z => absurd z (by omega))⟩
      · rw [if_neg (nI_ne0 (by omega) (by omega)), (hN (d - 1) (by omega)).2.1]
        have n8 : ¬ (8 : Int32) ≤ nI d := nI_ge (b := 8) (by omega) (by decide)
        by_cases hR : nI r < S (23 + (d - 1)) 1 + S 1 2
        · rw [if_pos hR, begin_no (by omega) q1 (by rw [nt_s hK.ed (by omega) hd8, if_neg hD, if_neg n8, hrk, if_pos hR])]
          exact ⟨d, hd8, rfl, same, FrT.rf, rfl, rfl, rfl⟩
        · have hcb := cb_eq (d := d) q1 (by omega) hK.cn7 (by rw [nt_s hK.ed (by omega) hd8, if_neg hD, if_neg n8, hrk, if_neg hR]; decide)
          rw [hrk] at hcb
          rw [if_neg hR, hcb]
          refine ⟨d + 1, by omega, rfl, t3_begin hB h h1 hu hw ha b1 (by omega) h5 h7 r1 hP (fun _ => ?_)⟩
          obtain ⟨-, ⟨x, x1, x2⟩, -⟩ := hK.2.2.2.1 (d - 1) (by omega)
          obtain ⟨q, y1, y2, y3⟩ := hK.s2
          rw [x2, y3, nI_add] at hR
          rw [x2, cn_nI (by omega)]
          exact Nat.lt_of_not_le fun z => hR (nI_lt (by omega) (by omega))
end B3
