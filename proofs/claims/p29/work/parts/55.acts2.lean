/-! acts: masks, changes, settings, timers, lines -/
theorem a_mask {b n t d g i : Nat} {is : Int32} {μ : Mu} (h : JJ b n t d g μ) (hb : b < 900) (hi : i < n) (hz : Z1 is) : (p_X6_mask μ (nI i) is).1 = p_X3_numberOfLine (μ 0) (nI i) 4 ∧ JJ (b + 1) n t d g (p_X6_mask μ (nI i) is).2 ∧ p_X3_numberOfLine ((p_X6_mask μ (nI i) is).2 0) (nI i) 4 = is := by
  have hK := h.2.1
  have hn := hK.n12
  obtain ⟨a0, a1, a2, a3, a4, -⟩ := (hK.2.1 i hi).1
  have hx : p_X6_mask μ (nI i) is = chgF μ (p_X3_maskLine (μ 0) (nI i) is) := by rw [← h.p0]; rfl
  have hcn : cn (nI i) = i := cn_nI (by omega)
  have w2 : p_X6_within is 0 1 = 1 := by rcases hz with rfl | rfl <;> decide
  have hr : p_X3_maskLine (μ 0) (nI i) is = (μ 0 (3 + i) 4, us (μ 0) (3 + i) 4 is) := by
    unfold p_X3_maskLine
    dsimp only
    rw [hK.hasL hi, if_neg (by decide), w2, if_neg (by decide), hcn, a4.d, hz.c]
  obtain ⟨y1, y2, y3⟩ := h.chg (b' := b + 1) (n' := n) (t' := t) (d' := d) (g' := g) hx (zb_maskLine h.zb) (by rw [hr]; exact KA.of (hK.us4 hi hz) (by omega) (by omega) (by omega) (by have := h.2.2.1; omega) (by omega))
  refine ⟨by rw [y1, hr, hK.nl4 hi], y3, ?_⟩
  rw [y3.2.1.nl4 hi, y2, hr]
  exact us_at _ _ _ _
theorem shape_1 {x y z : Nat} (hx : x ≤ 15) (hy : 0 < y ∧ y ≤ 50) (hz : z ≤ 500) : p_X3_isShape (nI x) (nI y) (nI z) = 1 := by
  unfold p_X3_isShape
  dsimp only
  rw [within_pos (a := nI x) (b := 0) (d := 15) (nI_pos' (by omega)) (nI_le (b := 15) hx (by decide)), within_pos (a := nI y) (b := 1) (d := 50) (nI_le (a := 1) hy.1 (by omega)) (nI_le (b := 50) hy.2 (by decide)), within_pos (a := nI z) (b := 0) (d := 500) (nI_pos' (by omega)) (nI_le (b := 500) hz (by decide))]
  decide
theorem a_change {b n t d g i x y z : Nat} {μ : Mu} (h : JJ b n t d g μ) (hb : b < 900) (hi : i < n) (hx : x ≤ 15) (hy : 0 < y ∧ y ≤ 50) (hz : z ≤ 500) : (p_X6_change μ (nI i) (nI x) (nI y) (nI z)).1 = p_X3_numberOfLine (μ 0) (nI i) 0 ∧ JJ (b + 1) n t d g (p_X6_change μ (nI i) (nI x) (nI y) (nI z)).2 ∧ p_X3_numberOfLine ((p_X6_change μ (nI i) (nI x) (nI y) (nI z)).2 0) (nI i) 0 = nI x ∧ p_X3_numberOfLine ((p_X6_change μ (nI i) (nI x) (nI y) (nI z)).2 0) (nI i) 1 = nI y := by
  have hK := h.2.1
  have hn := hK.n12
  have hxx : p_X6_change μ (nI i) (nI x) (nI y) (nI z) = chgF μ (p_X3_changeLine (μ 0) (nI i) (nI x) (nI y) (nI z)) := by rw [← h.p0]; rfl
  have hcn : cn (nI i) = i := cn_nI (by omega)
  have hr : p_X3_changeLine (μ 0) (nI i) (nI x) (nI y) (nI z) = (μ 0 (3 + i) 0, p_X1_shape (μ 0) i (nI x) (nI y) (nI z)) := by
    unfold p_X3_changeLine
    dsimp only
    rw [hK.hasL hi, if_neg (by decide), shape_1 hx hy hz, if_neg (by decide), hcn]
  obtain ⟨e0, e1, e2, o⟩ := @shape_f (μ 0) i (nI x) (nI y) (nI z)
  obtain ⟨y1, y2, y3⟩ := h.chg (b' := b + 1) (n' := n) (t' := t) (d' := d) (g' := g) hxx (zb_changeLine h.zb) (by rw [hr]; exact KA.of (hK.shp hi (bnI hx (by omega)) ⟨y, hy.1, hy.2, rfl⟩ (bnI hz (by omega))) (by omega) (by omega) (by omega) (by have := h.2.2.1; omega) (by omega))
  refine ⟨by rw [y1, hr, hK.nl0 hi], y3, ?_, ?_⟩
  · rw [y3.2.1.nl0 hi, y2, hr]
    exact e0
  · rw [y3.2.1.nl1 hi, y2, hr]
    exact e1
/-- a setting -/
theorem KS.set {w a c g u n t d st : Nat} {v : Nat → Nat} {S : Sv} {x : Int32} (h : KS w a c g u v n t d S) (hs : st < 7) (hx : vLst st ≤ x ∧ x ≤ vMst st) : KS w a c g u v n t d (us S 1 st x) := by
  have o : ∀ p k, ¬ p = 1 → us S 1 st x p k = S p k := fun p k hp => us_p hp
  obtain ⟨⟨b1, b2, b3, b4, b5, b6, b7, b8, b9, b10⟩, a2, a3, a4, a5⟩ := h
  refine ⟨⟨b1, b2, b3, b4, b5, b6, b7, b8, b9, fun k hk => ?_⟩, fun j hj => ⟨(a2 j hj).1.same (fun k => o _ _ (by omega)), (a2 j hj).2.same (o _ _ (by omega)) (fun k _ => o _ _ (by omega))⟩, fun j hj => (a3 j hj).same (fun f => o _ _ (by omega)) (fun i _ => o _ _ (by omega)), fun k hk => (a4 k hk).same (fun f => o _ _ (by omega)) (fun i _ _ => o _ _ (by omega)), fun k hk => ?_⟩
  · by_cases hks : k = st
    · rw [hks, us_at]; exact hx
    · rw [us_k hks]; exact b10 k hk
  · rw [o (23 + k) _ (by omega), o (23 + (k + 1)) _ (by omega)]
    exact a5 k hk
theorem na_st {S : Sv} : ∀ st, st < 7 → p_X3_numberOfAll S (12 + nI st) = S 1 st := by
  intro st hs
  match st, hs with
  | 0, _ => exact (show (12 : Int32) + nI 0 = 12 by decide) ▸ na12
  | 1, _ => exact (show (12 : Int32) + nI 1 = 13 by decide) ▸ na13
  | 2, _ => exact (show (12 : Int32) + nI 2 = 14 by decide) ▸ na14
  | 3, _ => exact (show (12 : Int32) + nI 3 = 15 by decide) ▸ na15
  | 4, _ => exact (show (12 : Int32) + nI 4 = 16 by decide) ▸ na16
  | 5, _ => exact (show (12 : Int32) + nI 5 = 17 by decide) ▸ na17
  | 6, _ => exact (show (12 : Int32) + nI 6 = 18 by decide) ▸ na18
  | n + 7, h => exact absurd h (by omega)
theorem a_set {b n t d g st : Nat} {x : Int32} {μ : Mu} (h : JJ b n t d g μ) (hb : b < 900) (hs : st < 7) (hx : vLst st ≤ x ∧ x ≤ vMst st) : 0 ≤ (p_X6_set μ (nI st) x).1 ∧ JJ (b + 1) n t d g (p_X6_set μ (nI st) x).2 ∧ p_X3_numberOfAll ((p_X6_set μ (nI st) x).2 0) (12 + nI st) = x := by
  have hK := h.2.1
  have hxx : p_X6_set μ (nI st) x = chgF μ (p_X3_changeSetting (μ 0) (nI st) x) := by rw [← h.p0]; rfl
  have hcn : cn (nI st) = st := cn_nI (by omega)
  have hr : p_X3_changeSetting (μ 0) (nI st) x = (μ 0 1 st, us (μ 0) 1 st x) := by
    unfold p_X3_changeSetting
    dsimp only
    rw [within_pos (a := nI st) (b := 0) (d := 7 - 1) (nI_pos' (by omega)) (nI_le (b := 6) (by omega) (by decide)), if_neg (by decide), hcn, within_pos hx.1 hx.2, if_neg (by decide)]
  obtain ⟨y1, y2, y3⟩ := h.chg (b' := b + 1) (n' := n) (t' := t) (d' := d) (g' := g) hxx (zb_set h.zb) (by rw [hr]; exact KA.of (hK.set hs hx) (by omega) (by omega) (by omega) (by have := h.2.2.1; omega) (by omega))
  refine ⟨by rw [y1, hr]; exact Int32.le_trans (lst_ge st hs) (hK.rg st hs).1, y3, ?_⟩
  rw [na_st st hs, y2, hr]
  exact us_at _ _ _ _
/-- timers -/
theorem TK.mono {n v v' j : Nat} {S : Sv} (h : TK n v S j) (hv : v = v') : TK n v' S j := hv ▸ h
theorem KS.timer {w a c g u n t d i p f : Nat} {v : Nat → Nat} {S : Sv} (h : KS w a c g u v n t d S) (ht : t < 6) (hi : i < n) (h3 : S (3 + i) 3 = 0) (hp : 0 < p ∧ p ≤ 200) (hf : v t ≤ f ∧ f ≤ v t + 500) : KS w a c g u v n (t + 1) d (us (us (us (us S (16 + t) 0 (nI i)) (16 + t) 1 (nI p)) (16 + t) 2 (nI f)) 0 5 (nI (t + 1))) := by
  have hd := h.d8
  have hn := h.n12
  generalize hS' : us (us (us (us S (16 + t) 0 (nI i)) (16 + t) 1 (nI p)) (16 + t) 2 (nI f)) 0 5 (nI (t + 1)) = S'
  have o : ∀ p k, ¬ p = 16 + t → ¬ (p = 0 ∧ k = 5) → S' p k = S p k := fun p k h1 h2 => by rw [← hS', us_ne _ _ h2, us_p h1, us_p h1, us_p h1]
  have e5 : S' 0 5 = nI (t + 1) := by rw [← hS']; exact us_at _ _ _ _
  have f0 : S' (16 + t) 0 = nI i := by rw [← hS']; simp (disch := omega) [us_at, us_p, us_k]
  have f1 : S' (16 + t) 1 = nI p := by rw [← hS']; simp (disch := omega) [us_at, us_p, us_k]
  have f2 : S' (16 + t) 2 = nI f := by rw [← hS']; simp (disch := omega) [us_at, us_p, us_k]
  obtain ⟨⟨b1, b2, b3, b4, b5, b6, b7, b8, b9, b10⟩, a2, a3, a4, a5⟩ := h
  refine ⟨⟨by rw [o _ _ (by omega) (by omega)]; exact b1, b2, e5, by omega, by rw [o _ _ (by omega) (by omega)]; exact b5, b6, by rw [o _ _ (by omega) (by omega)]; exact b7, b8, by rw [o _ _ (by omega) (by omega)]; exact b9, fun k hk => by rw [o _ _ (by omega) (by omega)]; exact b10 k hk⟩, fun j hj => ⟨(a2 j hj).1.same (fun k => o _ _ (by omega) (by omega)), (a2 j hj).2.same (o _ _ (by omega) (by omega)) (fun k hk => o _ _ (by omega) (by omega))⟩, fun j hj => ?_, fun k hk => (a4 k hk).same (fun f => o _ _ (by omega) (by omega)) (fun i hi _ => o _ _ (by omega) (by omega)), fun k hk => ?_⟩
  · by_cases hjt : j = t
    · rw [hjt]
      exact ⟨⟨i, hi, f0, by rw [o _ _ (by omega) (by omega)]; exact h3⟩, ⟨p, hp.1, hp.2, f1⟩, f, hf.1, hf.2, f2⟩
    · exact (a3 j (by omega)).same (fun f => o _ _ (by omega) (by omega)) (fun i _ => o _ _ (by omega) (by omega))
  · rw [o (23 + k) _ (by omega) (by omega), o (23 + (k + 1)) _ (by omega) (by omega)]
    exact a5 k hk
theorem a_timer {b n t d g i p f : Nat} {μ : Mu} (h : JJ b n t d g μ) (hb : b < 900) (hi : i < n) (hp : 0 < p ∧ p ≤ 200) (hf : f ≤ 500) : (p_L_isTimer μ (nI i) (nI p) (nI f)).1 = 1 ∧ (p_L_isTimer μ (nI i) (nI p) (nI f)).2 = (p_X6_timer μ (nI i) (nI p) (p_X3_numberOfAll (μ 0) 0 + nI f)).2 ∧ ∃ t', JJ (b + 1) n t' d g (p_X6_timer μ (nI i) (nI p) (p_X3_numberOfAll (μ 0) 0 + nI f)).2 := by
  have hK := h.2.1
  have hn := hK.n12
  have ht6 := hK.t6
  have hg := hK.g1000
  obtain ⟨a0, a1, a2, a3, -⟩ := (hK.2.1 i hi).1
  have hcn : cn (nI i) = i := cn_nI (by omega)
  have hct : cn (nI t) = t := cn_nI (by omega)
  have eg : p_X3_numberOfAll (μ 0) 0 + nI f = nI (g + f) := by rw [na0, hK.eg]; exact nI_add g f
  rw [eg]
  have hx : p_X6_timer μ (nI i) (nI p) (nI (g + f)) = chgF μ (p_X3_addTimer (μ 0) (nI i) (nI p) (nI (g + f))) := by rw [← h.p0]; rfl
  have w1 : p_X6_within (nI p) 1 200 = 1 := within_pos (nI_le (a := 1) hp.1 (by omega)) (nI_le (b := 200) hp.2 (by decide))
  have w2 : p_X6_within (nI (g + f)) (μ 0 0 0) (μ 0 0 0 + 500) = 1 := by
    rw [hK.eg]
    exact within_pos (nI_le (by omega) (by omega)) (by rw [show (500 : Int32) = nI 500 from rfl, nI_add]; exact nI_le (by omega) (by omega))
  by_cases ht : t = 6
  · have hr : p_X3_addTimer (μ 0) (nI i) (nI p) (nI (g + f)) = (-4, μ 0) := by
      unfold p_X3_addTimer
      dsimp only
      rw [hK.hasL hi, if_neg (by decide), w1, if_neg (by decide), w2, if_neg (by decide), hK.et, ht, if_neg (by decide)]
    obtain ⟨y1, y2, y3⟩ := h.chg (b' := b + 1) (n' := n) (t' := t) (d' := d) (g' := g) hx (zb_addTimer h.zb) (by rw [hr]; exact h.2.mono hb)
    have hK2 := y3.2.1
    have e6 : μ 0 0 5 = 6 := by rw [hK.et, ht]; rfl
    refine ⟨?_, ?_, t, y3⟩
    · unfold p_L_isTimer
      dsimp only
      rw [na2, e6, if_pos rfl, eg, y1, hr, na2, y2, hr]
      simp [e6]
    · unfold p_L_isTimer
      dsimp only
      rw [na2, e6, if_pos rfl, eg]
  · have e6 : ¬ μ 0 0 5 = 6 := by
      rw [hK.et]
      exact fun q => ht (nI_inj (b := 6) q)
    by_cases h3 : μ 0 (3 + i) 3 = 0
    · have hr : p_X3_addTimer (μ 0) (nI i) (nI p) (nI (g + f)) = (nI t, us (us (us (us (μ 0) (16 + t) 0 (nI i)) (16 + t) 1 (nI p)) (16 + t) 2 (nI (g + f))) 0 5 (nI (t + 1))) := by
        unfold p_X3_addTimer
        dsimp only
        rw [hK.hasL hi, if_neg (by decide), w1, if_neg (by decide), w2, if_neg (by decide), hK.et, if_pos (show nI t < 6 from nI_lt (b := 6) (by omega) (by decide)), hcn, if_pos h3, hct]
        simp (disch := omega) only [us_p, us_at]
        rw [hK.et, show nI t + 1 = nI (t + 1) from nI_add t 1, nI_pred]
      obtain ⟨y1, y2, y3⟩ := h.chg (b' := b + 1) (n' := n) (t' := t + 1) (d' := d) (g' := g) hx (zb_addTimer h.zb) (by rw [hr]; exact KA.of (hK.timer (by omega) hi h3 hp (by omega)) (by omega) (by omega) (by omega) (by have := h.2.2.1; omega) (by omega))
      have hK2 := y3.2.1
      have t3 : (p_X6_timer μ (nI i) (nI p) (nI (g + f))).2 0 (3 + i) 3 = 0 := by
        rw [y2, hr]
        simp (disch := omega) only [us_p]
        exact h3
      refine ⟨?_, ?_, t + 1, y3⟩
      · unfold p_L_isTimer
        dsimp only
        rw [na2, if_neg e6, eg, hK2.nl3 hi, t3, if_neg (by decide), y1, hK.et, hK2.nt0 (by omega), hK2.nt1 (by omega), hK2.nt2 (by omega), na0, y2, hr]
        simp (disch := omega) [us_p, us_at, us_k, hK.eg, nI_add]
      · unfold p_L_isTimer
        dsimp only
        rw [na2, if_neg e6, eg, hK2.nl3 hi, t3, if_neg (by decide)]
    · have hr : p_X3_addTimer (μ 0) (nI i) (nI p) (nI (g + f)) = (-5, μ 0) := by
        unfold p_X3_addTimer
        dsimp only
        rw [hK.hasL hi, if_neg (by decide), w1, if_neg (by decide), w2, if_neg (by decide), hK.et, if_pos (show nI t < 6 from nI_lt (b := 6) (by omega) (by decide)), hcn, if_neg h3]
      obtain ⟨y1, y2, y3⟩ := h.chg (b' := b + 1) (n' := n) (t' := t) (d' := d) (g' := g) hx (zb_addTimer h.zb) (by rw [hr]; exact h.2.mono hb)
      have hK2 := y3.2.1
      have t3 : (p_X6_timer μ (nI i) (nI p) (nI (g + f))).2 0 (3 + i) 3 = 1 := by rw [y2, hr]; exact a3.resolve_left h3
      refine ⟨?_, ?_, t, y3⟩
      · unfold p_L_isTimer
        dsimp only
        rw [na2, if_neg e6, eg, hK2.nl3 hi, t3, if_pos rfl, y1, hr, if_neg e6, na2, y2, hr]
        simp
      · unfold p_L_isTimer
        dsimp only
        rw [na2, if_neg e6, eg, hK2.nl3 hi, t3, if_pos rfl]
/-- the first timer is stopped -/
theorem KS.stop {w a c g u n t d : Nat} {S S' : Sv} {v0 : Nat} (h : KS w a c g u (fun _ => v0) n (t + 1) d S) (hS : ∀ p k, ¬ (16 ≤ p ∧ p < 16 + t) → ¬ (p = 0 ∧ k = 5) → S' p k = S p k) (hT : ∀ q, q < t → ∀ f, f < 3 → S' (16 + q) f = S (16 + (q + 1)) f) (h5 : S' 0 5 = nI t) : KS w a c g u (fun _ => v0) n t d S' := by
  have hd := h.d8
  have ht := h.t6
  obtain ⟨⟨b1, b2, b3, b4, b5, b6, b7, b8, b9, b10⟩, a2, a3, a4, a5⟩ := h
  refine ⟨⟨by rw [hS _ _ (by omega) (by omega)]; exact b1, b2, h5, by omega, by rw [hS _ _ (by omega) (by omega)]; exact b5, b6, by rw [hS _ _ (by omega) (by omega)]; exact b7, b8, by rw [hS _ _ (by omega) (by omega)]; exact b9, fun k hk => by rw [hS _ _ (by omega) (by omega)]; exact b10 k hk⟩, fun j hj => ⟨(a2 j hj).1.same (fun k => hS _ _ (by omega) (by omega)), (a2 j hj).2.same (hS _ _ (by omega) (by omega)) (fun k hk => hS _ _ (by omega) (by omega))⟩, fun j hj => ?_, fun k hk => (a4 k hk).same (fun f => hS _ _ (by omega) (by omega)) (fun i hi _ => hS _ _ (by omega) (by omega)), fun k hk => ?_⟩
  · obtain ⟨⟨i, i1, i2, i3⟩, ⟨q, q1, q2, q3⟩, x, x1, x2, x3⟩ := a3 (j + 1) (by omega)
    exact ⟨⟨i, i1, by rw [hT j hj 0 (by omega)]; exact i2, by rw [hS _ _ (by omega) (by omega)]; exact i3⟩, ⟨q, q1, q2, by rw [hT j hj 1 (by omega)]; exact q3⟩, x, x1, x2, by rw [hT j hj 2 (by omega)]; exact x3⟩
  · rw [hS (23 + k) _ (by omega) (by omega), hS (23 + (k + 1)) _ (by omega) (by omega)]
    exact a5 k hk
theorem a_stop {b n t d g : Nat} {μ : Mu} (h : JJ b n t d g μ) (hb : b < 900) : (p_X6_stop μ 0).1 = (if p_X3_numberOfAll (μ 0) 2 = 0 then (-1) else p_X3_numberOfAll (μ 0) 2 - 1) ∧ ∃ t', JJ (b + 1) n t' d g (p_X6_stop μ 0).2 := by
  have hK := h.2.1
  have ht6 := hK.t6
  have hx : p_X6_stop μ 0 = chgF μ (p_X3_removeTimer (μ 0) 0) := by rw [← h.p0]; rfl
  rw [na2, hK.et]
  cases t with
  | zero =>
    have hr : p_X3_removeTimer (μ 0) 0 = (-1, μ 0) := by
      unfold p_X3_removeTimer p_X3_hasTimer
      dsimp only
      rw [hK.et, if_pos (by decide)]
    obtain ⟨y1, y2, y3⟩ := h.chg (b' := b + 1) (n' := n) (t' := 0) (d' := d) (g' := g) hx (zb_removeTimer h.zb) (by rw [hr]; exact h.2.mono hb)
    exact ⟨by rw [y1, hr]; rfl, 0, y3⟩
  | succ t =>
    have w1 : p_X3_hasTimer (μ 0) 0 = 1 := by
      unfold p_X3_hasTimer
      dsimp only
      rw [hK.et, nI_pred]
      exact within_pos (by decide) (nI_pos' (by omega))
    obtain ⟨r1, r2⟩ := rm_val (S := μ 0) (tm := 0) (c := 0) (by decide) t
    have hr : p_X3_removeTimer (μ 0) 0 = (nI t, us (itN (q_X3_removeTimer_12 (μ 0) 0) t (μ 0)) 0 5 (nI t)) := by
      unfold p_X3_removeTimer
      dsimp only
      rw [w1, if_neg (by decide), hK.cn5, show t + 1 - 1 - cn 0 = t by rw [show cn 0 = 0 by decide]; omega, r1 0 5 (by omega), us_at, hK.et, nI_pred]
    obtain ⟨y1, y2, y3⟩ := h.chg (b' := b + 1) (n' := n) (t' := t) (d' := d) (g' := g) hx (zb_removeTimer h.zb) (by
      rw [hr]
      dsimp only
      refine KA.of (hK.stop (fun p k h1 h2 => by rw [us_ne _ _ h2]; exact r1 p k (by omega)) (fun q hq f hf => by rw [us_p (by omega)]; exact r2 q (by omega) (by omega) f hf) (us_at _ _ _ _)) (by omega) (by omega) (by omega) (by have := h.2.2.1; omega) (by omega))
    refine ⟨?_, t, y3⟩
    rw [y1, hr, if_neg (nI_ne0 (by omega) (by omega)), nI_pred]
/-- a new line -/
theorem KS.addLine {w a c g u n t d x y z : Nat} {v : Nat → Nat} {S S' : Sv} {lv : Int32} (h : KS w a c g u v n t d S) (hn : n < 12) (hx : x ≤ 15) (hy : 0 < y ∧ y ≤ 50) (hz : z ≤ 500) (hlv : Z1 lv)
    (o : ∀ p k, ¬ p = 3 + n → ¬ (p = 0 ∧ k = 3) → S' p k = S p k) (e3 : S' 0 3 = nI (n + 1)) (f0 : S' (3 + n) 0 = nI x) (f1 : S' (3 + n) 1 = nI y) (f2 : S' (3 + n) 2 = nI z) (f3 : S' (3 + n) 3 = lv) (f7 : S' (3 + n) 7 = (-6)) (fz : ∀ k, 4 ≤ k → k < 16 → ¬ k = 7 → S' (3 + n) k = 0) : KS w a c g u v (n + 1) t d S' := by
  have hd := h.d8
  have ht := h.t6
  obtain ⟨⟨b1, b2, b3, b4, b5, b6, b7, b8, b9, b10⟩, a2, a3, a4, a5⟩ := h
  refine ⟨⟨e3, by omega, by rw [o _ _ (by omega) (by omega)]; exact b3, b4, by rw [o _ _ (by omega) (by omega)]; exact b5, b6, by rw [o _ _ (by omega) (by omega)]; exact b7, b8, by rw [o _ _ (by omega) (by omega)]; exact b9, fun k hk => by rw [o _ _ (by omega) (by omega)]; exact b10 k hk⟩, fun j hj => ?_, fun j hj => ?_, fun k hk => ?_, fun k hk => ?_⟩
  · by_cases hjn : j = n
    · rw [hjn]
      refine ⟨?_, Or.inl f7⟩
      unfold LK
      rw [f0, f1, f2, f3, f7, fz 4 (by omega) (by omega) (by omega), fz 5 (by omega) (by omega) (by omega), fz 6 (by omega) (by omega) (by omega), fz 8 (by omega) (by omega) (by omega), fz 9 (by omega) (by omega) (by omega), fz 10 (by omega) (by omega) (by omega), fz 11 (by omega) (by omega) (by omega), fz 12 (by omega) (by omega) (by omega), fz 13 (by omega) (by omega) (by omega), fz 14 (by omega) (by omega) (by omega)]
      exact ⟨bnI hx (by omega), ⟨y, hy.1, hy.2, rfl⟩, bnI hz (by omega), hlv, z1_0, z1_0, bn_z, fun q => absurd q (by decide), fun _ => rfl, fun _ => by simp, by simp, ⟨0, 0, Nat.le_refl _, Nat.zero_le _, rfl, rfl⟩, 0, 0, Nat.le_refl _, Nat.zero_le _, rfl, rfl⟩
    · exact ⟨(a2 j (by omega)).1.same (fun k => o _ _ (by omega) (by omega)), (a2 j (by omega)).2.same (o _ _ (by omega) (by omega)) (fun k hk => o _ _ (by omega) (by omega))⟩
  · obtain ⟨⟨i, i1, i2, i3⟩, h2⟩ := (a3 j hj).same (S' := S') (fun f => o _ _ (by omega) (by omega)) (fun i _ => o _ _ (by omega) (by omega))
    exact ⟨⟨i, by omega, i2, i3⟩, h2⟩
  · obtain ⟨⟨i, i1, i2, i3⟩, h2⟩ := (a4 k hk).same (S' := S') (fun f => o _ _ (by omega) (by omega)) (fun i hi _ => o _ _ (by omega) (by omega))
    exact ⟨⟨i, by omega, i2, i3⟩, h2⟩
  · rw [o (23 + k) _ (by omega) (by omega), o (23 + (k + 1)) _ (by omega) (by omega)]
    exact a5 k hk
theorem new_f {S : Sv} {i : Nat} {x : Int32} : p_X1_becomeNew S i x (3 + i) 3 = x ∧ p_X1_becomeNew S i x (3 + i) 7 = (-6) ∧ ∀ k, 4 ≤ k → k < 16 → ¬ k = 7 → p_X1_becomeNew S i x (3 + i) k = 0 := by
  unfold p_X1_becomeNew
  refine ⟨by simp (disch := omega) [us_at, us_p, us_k], by simp (disch := omega) [us_at, us_p, us_k], fun k k1 k2 k3 => ?_⟩
  match k, k1, k2, k3 with
  | 4, _, _, _ => simp (disch := omega) [us_at, us_p, us_k]
  | 5, _, _, _ => simp (disch := omega) [us_at, us_p, us_k]
  | 6, _, _, _ => simp (disch := omega) [us_at, us_p, us_k]
  | 8, _, _, _ => simp (disch := omega) [us_at, us_p, us_k]
  | 9, _, _, _ => simp (disch := omega) [us_at, us_p, us_k]
  | 10, _, _, _ => simp (disch := omega) [us_at, us_p, us_k]
  | 11, _, _, _ => simp (disch := omega) [us_at, us_p, us_k]
  | 12, _, _, _ => simp (disch := omega) [us_at, us_p, us_k]
  | 13, _, _, _ => simp (disch := omega) [us_at, us_p, us_k]
  | 14, _, _, _ => simp (disch := omega) [us_at, us_p, us_k]
  | 15, _, _, _ => simp (disch := omega) [us_at, us_p, us_k]
  | q + 16, _, h, _ => exact absurd h (by omega)
theorem a_line {b n t d g x y z : Nat} {lv : Int32} {μ : Mu} (h : JJ b n t d g μ) (hb : b < 900) (hn : n < 12) (hx : x ≤ 15) (hy : 0 < y ∧ y ≤ 50) (hz : z ≤ 500) (hlv : Z1 lv) : (p_X6_line μ (nI x) (nI y) (nI z) lv).1 = nI n ∧ JJ (b + 1) (n + 1) t d g (p_X6_line μ (nI x) (nI y) (nI z) lv).2 := by
  have hK := h.2.1
  have hxx : p_X6_line μ (nI x) (nI y) (nI z) lv = chgF μ (p_X3_addLine (μ 0) (nI x) (nI y) (nI z) lv) := by rw [← h.p0]; rfl
  have w2 : p_X6_within lv 0 1 = 1 := by rcases hlv with rfl | rfl <;> decide
  obtain ⟨e0, e1, e2, o2⟩ := @shape_f (p_X1_becomeNew (μ 0) n lv) n (nI x) (nI y) (nI z)
  obtain ⟨f3, f7, fz⟩ := @new_f (μ 0) n lv
  have e03 : p_X1_shape (p_X1_becomeNew (μ 0) n lv) n (nI x) (nI y) (nI z) 0 3 = nI n := by rw [fr_shape (by omega), fr_becomeNew (by omega)]; exact hK.en
  have hr : p_X3_addLine (μ 0) (nI x) (nI y) (nI z) lv = (nI n, us (p_X1_shape (p_X1_becomeNew (μ 0) n lv) n (nI x) (nI y) (nI z)) 0 3 (nI (n + 1))) := by
    unfold p_X3_addLine
    dsimp only
    rw [shape_1 hx hy hz, if_neg (by decide), w2, if_neg (by decide), hK.en, if_pos (show nI n < 12 from nI_lt (b := 12) hn (by decide)), cn_nI (show n < 2 ^ 31 by omega), hlv.c, e03, us_at, show nI n + 1 = nI (n + 1) from nI_add n 1, nI_pred]
  obtain ⟨y1, y2, y3⟩ := h.chg (b' := b + 1) (n' := n + 1) (t' := t) (d' := d) (g' := g) hxx (zb_addLine h.zb) (by
    rw [hr]
    dsimp only
    refine KA.of (hK.addLine (lv := lv) hn hx hy hz hlv (fun p k h1 h2 => by rw [us_ne _ _ h2, fr_shape h1, fr_becomeNew h1]) (us_at _ _ _ _) (by rw [us_p (by omega)]; exact e0) (by rw [us_p (by omega)]; exact e1) (by rw [us_p (by omega)]; exact e2) (by rw [us_p (by omega), o2 3 (by omega)]; exact f3) (by rw [us_p (by omega), o2 7 (by omega)]; exact f7) (fun k k1 k2 k3 => by rw [us_p (by omega), o2 k (by omega)]; exact fz k k1 k2 k3)) (by omega) (by omega) (by omega) (by have := h.2.2.1; omega) (by omega))
  exact ⟨by rw [y1, hr], y3⟩
