/-! acts, of the class and of the whole memory -/
def KA (b n t d g : Nat) (S : Sv) : Prop := KS b (1000 * b) (10 * b) g g (fun _ => g) n t d S ∧ g ≤ b ∧ b ≤ 900
def JJ (b n t d g : Nat) (μ : Mu) : Prop := Wc μ ∧ KA b n t d g (μ 0)
theorem JJ.p0 {b n t d g : Nat} {μ : Mu} (h : JJ b n t d g μ) : p_X0_prepare μ 0 = μ 0 := pre_ne h.1 (Or.inl (by decide))
theorem JJ.zb {b n t d g : Nat} {μ : Mu} (h : JJ b n t d g μ) : Zb (μ 0) := (h.1.1 0 (by decide)).2
theorem KS.hasL {w a c g u n t d i : Nat} {v : Nat → Nat} {S : Sv} (h : KS w a c g u v n t d S) (hi : i < n) : p_X3_hasLine S (nI i) = 1 := by
  have hn := h.n12
  unfold p_X3_hasLine
  dsimp only
  rw [h.en, show nI n - 1 = nI (n - 1) by rw [show n = n - 1 + 1 by omega]; exact nI_pred _]
  exact within_pos (nI_pos' (by omega)) (nI_le (by omega) (by omega))
/-- a change, of the whole memory -/
theorem wc_chg {μ : Mu} {a : Int32 × Sv} (h : Wc μ) (hs : Ws a.2) : Wc (chgF μ a).2 ∧ (chgF μ a).2 0 = a.2 ∧ (chgF μ a).1 = a.1 := by
  obtain ⟨w1, w2, w3, w4, w5, w6, w7⟩ := id h
  obtain ⟨nx, hnx, e1⟩ := bn_to w2
  obtain ⟨u, hu, e2⟩ := bn_to w3
  have hcn : cn (μ 11 3 1) = nx := by rw [e1]; exact cn_nI (by omega)
  have pre : p_X0_prepare μ = fo μ (4 + nx) (p_X3_copyFrom (μ (4 + nx)) (μ 0)) := by
    unfold p_X0_prepare
    try dsimp only
    rw [hcn]
  have hcp : Ws (p_X3_copyFrom (μ (4 + nx)) (μ 0)) := ws_copy (w1 _ (by omega)) (w1 _ (by omega))
  unfold chgF
  try dsimp only
  rw [pre]
  generalize p_X3_copyFrom (μ (4 + nx)) (μ 0) = C at hcp ⊢
  have p11 : fo (fo μ (4 + nx) C) 0 a.2 11 = μ 11 := by rw [fo_ne _ _ (by decide), fo_ne _ _ (by omega)]
  rw [p11, rcu_1]
  have hR : Bn ((p_X0_recordUnlessError (μ 11) a.1).2 3 1) 6 ∧ Bn ((p_X0_recordUnlessError (μ 11) a.1).2 3 2) 6 ∧ ∀ p k, ¬ (p = 3 ∧ (k = 1 ∨ k = 2)) → (p_X0_recordUnlessError (μ 11) a.1).2 p k = μ 11 p k := by
    by_cases q : a.1 < 0
    · rw [rcu_err q]; exact ⟨w2, w3, fun _ _ _ => rfl⟩
    · obtain ⟨v1, v2, v3⟩ := rcu_ok (Int32.not_lt.mp q) e1 e2 hnx hu
      exact ⟨bn_of v1 (by omega) (by decide), bn_of v2 (by split <;> omega) (by decide), v3⟩
  generalize (p_X0_recordUnlessError (μ 11) a.1).2 = R at hR ⊢
  obtain ⟨r1, r2, r3⟩ := hR
  refine ⟨⟨fun r hr => ?_, by rw [fo_at]; exact r1, by rw [fo_at]; exact r2, by rw [fo_at, r3 _ _ (by omega)]; exact w4, fun j hj => by rw [fo_at, r3 _ _ (by omega)]; exact w5 j hj, ?_, ?_⟩, by rw [fo_ne _ _ (by decide), fo_at], rfl⟩
  · rw [fo_ne _ _ (by omega)]
    by_cases h0 : r = 0
    · rw [h0, fo_at]; exact hs
    · rw [fo_ne _ _ h0]
      by_cases hx : r = 4 + nx
      · rw [hx, fo_at]; exact hcp
      · rw [fo_ne _ _ hx]; exact w1 r hr
  · rw [fo_ne _ _ (by decide), fo_ne _ _ (by decide), fo_ne _ _ (by omega)]; exact w6
  · rw [fo_ne _ _ (by decide), fo_ne _ _ (by decide), fo_ne _ _ (by omega)]; exact w7
theorem JJ.chg {b b' n t d g n' t' d' g' : Nat} {μ : Mu} {a : Int32 × Sv} {x : Int32 × Mu} (h : JJ b n t d g μ) (hx : x = chgF μ a) (hz : Zb a.2) (hk : KA b' n' t' d' g' a.2) : x.1 = a.1 ∧ x.2 0 = a.2 ∧ JJ b' n' t' d' g' x.2 := by
  obtain ⟨h1, h2, h3⟩ := wc_chg (a := a) h.1 ⟨hk.1.wf, hz⟩
  rw [hx]
  exact ⟨h3, h2, h1, by rw [h2]; exact hk⟩
theorem KA.mono {b n t d g : Nat} {S : Sv} (h : KA b n t d g S) (hb : b < 900) : KA (b + 1) n t d g S := ⟨h.1.mono (by omega) (by omega) (by omega), by have := h.2.1; omega, by omega⟩
theorem KA.of {b n t d g w a c : Nat} {S : Sv} (h : KS w a c g g (fun _ => g) n t d S) (hw : w ≤ b) (ha : a ≤ 1000 * b) (hc : c ≤ 10 * b) (hg : g ≤ b) (hb : b ≤ 900) : KA b n t d g S := ⟨h.mono hw ha hc, hg, hb⟩
/-- an edge -/
theorem a_raised {b n t d g i : Nat} {μ : Mu} (h : JJ b n t d g μ) (hb : b < 900) (hi : i < n) : (p_L_isRaised μ (nI i)).1 = 1 ∧ JJ (b + 1) n t d g (p_X6_raise μ (nI i)).2 ∧ (p_L_isRaised μ (nI i)).2 = (p_X6_raise μ (nI i)).2 := by
  have hK := h.2.1
  have hn := hK.n12
  have hS := hK.s5
  obtain ⟨a0, a1, a2, a3, a4, a5, -⟩ := (hK.2.1 i hi).1
  have hx : p_X6_raise μ (nI i) = chgF μ (p_X3_raiseLine (μ 0) (nI i)) := by rw [← h.p0]; rfl
  have hcn : cn (nI i) = i := cn_nI (by omega)
  have hL := hK.hasL hi
  by_cases h3 : μ 0 (3 + i) 3 = 0
  · have hr : p_X3_raiseLine (μ 0) (nI i) = ((if (p_X1_takeEdge (μ 0) i (μ 0 1 5)).1 = 0 then 0 else 1), (p_X1_takeEdge (μ 0) i (μ 0 1 5)).2) := by
      unfold p_X3_raiseLine
      dsimp only
      rw [hL, if_neg (by decide), hcn, if_pos h3, hS.c]
    have hk : KA (b + 1) n t d g (p_X3_raiseLine (μ 0) (nI i)).2 := by
      rw [hr]
      exact KA.of (hK.edge hi h3) (by omega) (by omega) (by omega) (by have := h.2.2.1; omega) (by omega)
    obtain ⟨y1, y2, y3⟩ := h.chg hx (zb_raiseLine h.zb) hk
    have hK2 := y3.2.1
    have t3 : (p_X6_raise μ (nI i)).2 0 (3 + i) 3 = 0 := by rw [y2, hr]; exact (te_k (by decide) (by decide) (by decide) (by decide)).trans h3
    refine ⟨?_, y3, ?_⟩
    · unfold p_L_isRaised
      dsimp only
      rw [hK2.nl3 hi, t3, if_neg (by decide), y1, hK2.nl10 hi, hK2.nl11 hi, hK2.nl6 hi, hK.nl5 hi, hK.nl10 hi, hK.nl11 hi, hK.nl6 hi, hK.nl4 hi, na17, y2, hr]
      dsimp only
      by_cases hg : Gs1 (μ 0) i (μ 0 1 5)
      · obtain ⟨e1, o, e5, e6, e9⟩ := te_yes hg
        rw [e1, e5, e6, e9, o 10 (by decide) (by decide) (by decide)]
        obtain ⟨g1, g2⟩ := hg
        rcases g2 with g2 | g2
        · simp [g1, g2]
        · simp [g1, hS.resolve_left g2]
      · obtain ⟨e1, o, e10, e9⟩ := te_no hg
        rw [e1, o 5 (by decide) (by decide), o 6 (by decide) (by decide), e9, e10]
        by_cases h5 : μ 0 (3 + i) 5 = 0
        · have h4 : ¬ μ 0 (3 + i) 4 = 0 := fun q => hg ⟨h5, Or.inl q⟩
          have h15 : μ 0 1 5 = 0 := Classical.byContradiction fun q => hg ⟨h5, Or.inr q⟩
          simp [h5, h4, h15]
        · simp [h5]
    · unfold p_L_isRaised
      dsimp only
      rw [hK2.nl3 hi, t3, if_neg (by decide)]
  · have hr : p_X3_raiseLine (μ 0) (nI i) = (-5, μ 0) := by
      unfold p_X3_raiseLine
      dsimp only
      rw [hL, if_neg (by decide), hcn, if_neg h3]
    obtain ⟨y1, y2, y3⟩ := h.chg (b' := b + 1) (n' := n) (t' := t) (d' := d) (g' := g) hx (zb_raiseLine h.zb) (by rw [hr]; exact h.2.mono hb)
    have hK2 := y3.2.1
    have t3 : (p_X6_raise μ (nI i)).2 0 (3 + i) 3 = 1 := by rw [y2, hr]; exact a3.resolve_left h3
    refine ⟨?_, y3, ?_⟩
    · unfold p_L_isRaised
      dsimp only
      rw [hK2.nl3 hi, t3, if_pos rfl, y1, hK2.nl5 hi, hK.nl5 hi, y2, hr]
      simp
    · unfold p_L_isRaised
      dsimp only
      rw [hK2.nl3 hi, t3, if_pos rfl]
/-- a device -/
theorem a_held {b n t d g i q : Nat} {up : Int32} {μ : Mu} (h : JJ b n t d g μ) (hb : b < 900) (hi : i < n) (hq : q < 4) (hup : Z1 up) : (p_L_isHeld μ (nI i) (nI q) up).1 = 1 ∧ JJ (b + 1) n t d g (p_X6_hold μ (nI i) (nI q) up).2 ∧ (p_L_isHeld μ (nI i) (nI q) up).2 = (p_X6_hold μ (nI i) (nI q) up).2 := by
  have hK := h.2.1
  have hn := hK.n12
  obtain ⟨a0, a1, a2, a3, a4, a5, a8, a6, -⟩ := (hK.2.1 i hi).1
  have hx : p_X6_hold μ (nI i) (nI q) up = chgF μ (p_X3_holdLine (μ 0) (nI i) (nI q) up) := by rw [← h.p0]; rfl
  have hcn : cn (nI i) = i := cn_nI (by omega)
  have hcq : cn (nI q) = q := cn_nI (by omega)
  have hL := hK.hasL hi
  have w1 : p_X6_within (nI q) 0 3 = 1 := within_pos (nI_pos' (by omega)) (nI_le (b := 3) (by omega) (by decide))
  have w2 : p_X6_within up 0 1 = 1 := by rcases hup with rfl | rfl <;> decide
  by_cases h3 : μ 0 (3 + i) 3 = 0
  · have hr : p_X3_holdLine (μ 0) (nI i) (nI q) up = (-5, μ 0) := by
      unfold p_X3_holdLine
      dsimp only
      rw [hL, if_neg (by decide), w1, if_neg (by decide), w2, if_neg (by decide), hcn, if_pos h3]
    obtain ⟨y1, y2, y3⟩ := h.chg (b' := b + 1) (n' := n) (t' := t) (d' := d) (g' := g) hx (zb_holdLine h.zb) (by rw [hr]; exact h.2.mono hb)
    have hK2 := y3.2.1
    have t3 : (p_X6_hold μ (nI i) (nI q) up).2 0 (3 + i) 3 = 0 := by rw [y2, hr]; exact h3
    refine ⟨?_, y3, ?_⟩
    · unfold p_L_isHeld
      dsimp only
      rw [hK2.nl3 hi, t3, if_pos rfl, y1, hr]
      rfl
    · unfold p_L_isHeld
      dsimp only
      rw [hK2.nl3 hi, t3, if_pos rfl]
  · obtain ⟨m1, m2, m3, m4, m5⟩ := hK.move (up := up) hi h3 hq
    have hr : p_X3_holdLine (μ 0) (nI i) (nI q) up = (p_X1_moveDevice (μ 0) i q up (3 + i) 8, p_X1_moveDevice (μ 0) i q up) := by
      unfold p_X3_holdLine
      dsimp only
      rw [hL, if_neg (by decide), w1, if_neg (by decide), w2, if_neg (by decide), hcn, if_neg h3, hcq, hup.c]
    have hk : KA (b + 1) n t d g (p_X3_holdLine (μ 0) (nI i) (nI q) up).2 := by
      rw [hr]
      exact KA.of m1 (by omega) (by omega) (by omega) (by have := h.2.2.1; omega) (by omega)
    obtain ⟨y1, y2, y3⟩ := h.chg hx (zb_holdLine h.zb) hk
    have hK2 := y3.2.1
    have t3 : (p_X6_hold μ (nI i) (nI q) up).2 0 (3 + i) 3 = 1 := by rw [y2, hr]; exact (m3 3 (by decide) (by decide) (by decide)).trans (a3.resolve_left h3)
    have hpl := pl_neg (hK.pl hi)
    refine ⟨?_, y3, ?_⟩
    · unfold p_L_isHeld
      dsimp only
      rw [hK2.nl3 hi, t3, if_neg (by decide), y1, hK2.nl8 hi, hK2.nl9 hi, hK2.nl6 hi, hK.nl9 hi, hK.nl6 hi, y2, hr]
      dsimp only
      have e2 : (if up = 1 then μ 0 (3 + i) 8 ||| (1 <<< (nI q &&& 31)) else μ 0 (3 + i) 8 &&& (1 <<< (nI q &&& 31) ^^^ (-1))) = (if up = 0 then μ 0 (3 + i) 8 &&& (((1 : Int32) <<< ((nI q) &&& 31)) ^^^ (-1)) else μ 0 (3 + i) 8 ||| ((1 : Int32) <<< ((nI q) &&& 31))) := by
        rcases hup with rfl | rfl <;> simp
      generalize hvv : (if up = 0 then μ 0 (3 + i) 8 &&& (((1 : Int32) <<< ((nI q) &&& 31)) ^^^ (-1)) else μ 0 (3 + i) 8 ||| ((1 : Int32) <<< ((nI q) &&& 31))) = vv at m2 e2
      rw [m2] at m4
      rw [m4] at m5
      simp only [m3 7 (by decide) (by decide) (by decide), e2, m2, m4]
      clear hvv e2 m2 m4
      by_cases hv0 : vv = 0
      · simp [hv0]
      · by_cases h7 : μ 0 (3 + i) 7 = (-6)
        · have n7 : ¬ (0 : Int32) ≤ μ 0 (3 + i) 7 := fun z => hpl.mp z h7
          rw [if_neg hv0, if_pos h7] at m5 ⊢
          rw [m5 rfl]
          rcases a5 with a5 | a5
          · simp [a5, hv0, n7]
          · have hw6 : (0 : Int32) ≤ μ 0 (3 + i) 6 := bn_ge0 (a6 a5) (by have := h.2.2.2; omega)
            simp [a5, hv0, n7, hw6]
        · have n7 : (0 : Int32) ≤ μ 0 (3 + i) 7 := hpl.mpr h7
          simp [hv0, h7, n7]
    · unfold p_L_isHeld
      dsimp only
      rw [hK2.nl3 hi, t3, if_neg (by decide)]
