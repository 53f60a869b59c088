/-! orders carried out: both sides -/
theorem OpR.mono {g g' : Nat} {S M : Sv} {a b : Int32 × Sv} (h : OpR g S M a b) (hg : g ≤ g') : OpR g' S M a b := by
  obtain ⟨h1, h2⟩ := h
  refine ⟨h1, ?_⟩
  rcases h2 with h2 | ⟨h2, ⟨n, t, d, h3⟩, h4⟩
  · exact Or.inl h2
  · exact Or.inr ⟨h2, ⟨n, t, d, h3.mono hg⟩, h4⟩
theorem rec_in {X : Sv} (h : X 0 8 = 1) : p_X7_record X = X := by
  unfold p_X7_record
  rw [if_neg (by rw [h]; decide)]
theorem at_c {L i : Nat} {S : Sv} (hS : S 5 1 = nI L) (hi : i < L) (hL : L ≤ 80) : p_X2_signAt S (nI i) = S 6 i := by
  unfold p_X2_signAt
  try dsimp only
  rw [hS, within_pos (nI_pos' (by omega)) (by rw [show nI L - 1 = nI (L - 1) from isb (a := L) (b := 1) rfl rfl (by omega)]; exact nI_le (by omega) (by omega)), if_neg (by decide), cn_nI (by omega)]
theorem nB_c {L fr m en : Nat} {S : Sv} (hS : S 5 1 = nI L) (hL : L ≤ 80) (he : en = fr + m) (heL : en ≤ L) : p_X2_numberBetweenB S fr en = nB S fr m := by
  have key : ∀ k, k ≤ m → itN (q_X2_numberBetweenB_5 S fr en) k 0 = nB S fr k := by
    intro k
    induction k with
    | zero => intro _; rfl
    | succ k ih =>
      intro hk
      rw [itN_s, ih (by omega)]
      unfold q_X2_numberBetweenB_5
      try dsimp only
      rw [at_c hS (by omega) hL]
      rfl
  unfold p_X2_numberBetweenB
  try dsimp only
  rw [he, show fr + m - fr = m by omega]
  rw [he] at key
  exact key m (Nat.le_refl _)
theorem OpR.pair {g : Nat} {S M : Sv} {a b : Int32 × Sv} (h : OpR g S M a b) : OpR g S M a (b.1, b.2) := h
/-- one order: the class's way and the reference's -/
theorem ob_c {g n t d L r sa en : Nat} {μ : Mu} {X : Sv} (hS : (μ 11) 5 1 = nI L) (hL : L ≤ 80) (heL : en ≤ L) (hO : OkO (μ 11) sa en (X 7 (3 * r)) (X 7 (3 * r + 1)) (X 7 (3 * r + 2))) (h : Rl g n t d (μ 0) (X 1)) (hg : g + 1000 < 2 ^ 29) :
    ∃ a : Int32 × Sv, p_X6_obey μ sa en = (a.1, fo μ 0 a.2) ∧ OpR (g + 1000) (μ 0) X a (p_X7_carry X (3 * r)) := by
  have hlen := hO.len
  obtain ⟨h0, h1, h2⟩ := hO
  have e0 : p_X2_signAt (μ 11) (nI sa) = (μ 11) 6 sa := at_c hS (by omega) hL
  have e1 : p_X2_signAt (μ 11) ((nI sa) + 1) = (μ 11) 6 (sa + 1) := by rw [nI_1]; exact at_c hS (by omega) hL
  unfold p_X6_obey p_X7_carry
  try dsimp only
  rw [e0, e1, h1]
  rcases h2 with ⟨hk | hk | hk, h3, h4⟩ | ⟨hk | hk, h3, h4, h5⟩ | ⟨hk, m, h3, h4, h5, h6⟩
  · rw [hk, h4]
    simp only [reduceIte]
    exact ⟨p_X3_raiseLine (μ 0) ((μ 11) 6 (sa + 1) - 65), rfl, ((r_raise h).mono (by omega)).pair⟩
  · rw [hk, h4]
    simp only [reduceIte]
    exact ⟨p_X3_maskLine (μ 0) ((μ 11) 6 (sa + 1) - 65) 1, rfl, ((r_mask h).mono (by omega)).pair⟩
  · rw [hk, h4]
    simp only [reduceIte]
    exact ⟨p_X3_maskLine (μ 0) ((μ 11) 6 (sa + 1) - 65) 0, rfl, ((r_mask h).mono (by omega)).pair⟩
  · have e2 : p_X2_signAt (μ 11) ((nI sa) + 2) = (μ 11) 6 (sa + 2) := by rw [show nI sa + 2 = nI (sa + 2) from nI_add sa 2]; exact at_c hS (by omega) hL
    rw [hk, h4, h5, e2]
    simp only [reduceIte]
    exact ⟨p_X3_holdLine (μ 0) ((μ 11) 6 (sa + 1) - 65) ((μ 11) 6 (sa + 2) - 48) 1, rfl, ((r_hold h).mono (by omega)).pair⟩
  · have e2 : p_X2_signAt (μ 11) ((nI sa) + 2) = (μ 11) 6 (sa + 2) := by rw [show nI sa + 2 = nI (sa + 2) from nI_add sa 2]; exact at_c hS (by omega) hL
    rw [hk, h4, h5, e2]
    simp only [reduceIte]
    exact ⟨p_X3_holdLine (μ 0) ((μ 11) 6 (sa + 1) - 65) ((μ 11) 6 (sa + 2) - 48) 0, rfl, ((r_hold h).mono (by omega)).pair⟩
  · have e3 : p_X2_numberBetweenB (μ 11) (sa + 1) en = nB (μ 11) (sa + 1) m := nB_c hS hL h5 heL
    rw [hk, h6, e3]
    simp only [reduceIte]
    exact ⟨p_X3_passTicks (μ 0) (nB (μ 11) (sa + 1) m), rfl, (r_ticks h hg).pair⟩
theorem oe_no {L j : Nat} {S : Sv} (hS : S 5 1 = nI L) (hL : L ≤ 80) (hj : j < L) (h : ¬ S 6 j = 59) : p_X2_orderEndsAt S (nI j) = 0 := by
  unfold p_X2_orderEndsAt
  try dsimp only
  rw [hS, if_neg (fun z => by have := nI_inj z; omega), at_c hS hj hL, if_neg h]
theorem oe_yes {L j : Nat} {S : Sv} (hS : S 5 1 = nI L) (hL : L ≤ 80) (hj : j = L ∨ (j < L ∧ S 6 j = 59)) : p_X2_orderEndsAt S (nI j) = 1 := by
  unfold p_X2_orderEndsAt
  try dsimp only
  rcases hj with rfl | ⟨h1, h2⟩
  · rw [hS, if_pos rfl]
  · rw [hS, if_neg (fun z => by have := nI_inj z; omega), at_c hS h1 hL, if_pos h2]
/-- signs that end no order are passed over -/
theorem co_skip {L : Nat} {μ0 S4 : Mu} {v5 v6 : Int32} (hS : (S4 11) 5 1 = nI L) (hL : L ≤ 80) : ∀ m j fu, (∀ i, j ≤ i → i < j + m → i < L ∧ ¬ (S4 11) 6 i = 59) → q_X6_carryOut_32 μ0 (fu + m) j S4 v5 v6 = q_X6_carryOut_32 μ0 fu (j + m) S4 v5 v6 := by
  intro m
  induction m with
  | zero => intro j fu _; rfl
  | succ m ih =>
    intro j fu h
    obtain ⟨h1, h2⟩ := h j (Nat.le_refl _) (by omega)
    have e : q_X6_carryOut_32 μ0 (fu + (m + 1)) j S4 v5 v6 = q_X6_carryOut_32 μ0 (fu + m) (j + 1) S4 v5 v6 := by
      rw [show fu + (m + 1) = (fu + m) + 1 by omega]
      conv => lhs; unfold q_X6_carryOut_32
      try dsimp only
      rw [oe_no hS hL h1 h2, if_pos rfl]
    rw [e, ih (j + 1) fu (fun i i1 i2 => h i (by omega) (by omega)), show j + 1 + m = j + (m + 1) by omega]
/-- how both sides stand at the end -/
def CoR (g : Nat) (μ : Mu) (X : Sv) (a : Int32 × Mu) (b : Int32 × Sv) : Prop :=
  ∃ j, j ≤ 27 ∧ a.1 = nI j ∧ b.1 = nI j ∧ (∃ n t d, Rl g n t d (a.2 0) (b.2 1)) ∧ a.2 11 = (p_X0_recordUnlessError (p_X2_clear (μ 11)).2 (nI j)).2 ∧ (∀ q, ¬ q = 0 → ¬ q = 11 → a.2 q = μ q) ∧ ∀ p k, ¬ p = 1 → b.2 p k = us (us X 0 8 0) 0 7 0 p k
def fC (S4 : Mu) (v6 : Int32) : Int32 × Mu := ((p_X0_recordUnlessError ((fo S4 11 (p_X2_clear (S4 11)).2) 11) v6).1, fo (fo S4 11 (p_X2_clear (S4 11)).2) 11 (p_X0_recordUnlessError ((fo S4 11 (p_X2_clear (S4 11)).2) 11) v6).2)
def fM (X : Sv) (j : Nat) : Int32 × Sv := (nI j, us (us X 0 8 0) 0 7 0)
theorem co_fin {g n t d j : Nat} {μ : Mu} {X : Sv} (hj : j ≤ 27) (h : Rl g n t d (μ 0) (X 1)) : CoR g μ X (fC μ (nI j)) (fM X j) := by
  refine ⟨j, hj, ?_, rfl, ⟨n, t, d, ?_⟩, ?_, fun q h0 h1 => ?_, fun p k hp => rfl⟩
  · unfold fC p_X0_recordUnlessError; rfl
  · unfold fC fM
    try dsimp only
    rw [fo_ne _ _ (by decide), fo_ne _ _ (by decide)]
    have e : us (us X 0 8 0) 0 7 0 1 = X 1 := funext fun k => by rw [us_p (by decide), us_p (by decide)]
    rw [e]
    exact h
  · unfold fC
    try dsimp only
    rw [fo_at, fo_at]
  · unfold fC
    try dsimp only
    rw [fo_ne _ _ h1, fo_ne _ _ h1]
theorem co_it {L q : Nat} {μ0 : Mu} {M0 : Sv} {a : Nat → Nat} {O : Sv} (hL : L ≤ 80) (hq : q ≤ 27) : ∀ m r (g n t d : Nat) (μ : Mu) (X : Sv), r + m = q → (μ 11) 5 1 = nI L → Ods (μ 11) O q L a → X 7 = O 7 → Rl g n t d (μ 0) (X 1) → g + 1000 * m + 1000 < 2 ^ 29 → X 0 8 = 1 → X 0 10 = nI q →
    CoR (g + 1000 * m) μ X (q_X6_carryOut_32 μ0 (L + 1 - a r) (a r) μ (nI (a r)) (nI r)) (q_X7_carryOut_23 M0 (27 - r) r X) := by
  intro m
  induction m with
  | zero =>
    intro r g n t d μ X hr hS hO h7 h hg h8 h10
    have hrq : r = q := by omega
    subst hrq
    have e1 : q_X6_carryOut_32 μ0 (L + 1 - a r) (a r) μ (nI (a r)) (nI r) = fC μ (nI r) := by
      rw [hO.2.1, Nat.sub_self]
      rfl
    have e2 : q_X7_carryOut_23 M0 (27 - r) r X = fM X r := by
      by_cases hz : 27 - r = 0
      · rw [hz]; rfl
      · rw [show 27 - r = (26 - r) + 1 by omega]
        unfold q_X7_carryOut_23
        try dsimp only
        rw [if_pos (by rw [h10]; exact Int32.le_refl _)]
        rfl
    rw [e1, e2]
    exact co_fin (by omega) h
  | succ m ih =>
    intro r g n t d μ X hr hS hO h7 h hg h8 h10
    obtain ⟨o1, o2⟩ := hO.2.2.1 r (by omega)
    have hmono : ∀ k, r + 1 + k ≤ q → a (r + 1) ≤ a (r + 1 + k) := by
      intro k
      induction k with
      | zero => intro _; exact Nat.le_refl _
      | succ k ihk =>
        intro hk
        have := ihk (by omega)
        have := (hO.2.2.1 (r + 1 + k) (by omega)).1
        show a (r + 1) ≤ a (r + 1 + k + 1)
        omega
    have haL : a (r + 1) ≤ L + 1 := by
      have := hmono (q - (r + 1)) (by omega)
      rw [show r + 1 + (q - (r + 1)) = q by omega, hO.2.1] at this
      exact this
    have hends : a (r + 1) - 1 = L ∨ (a (r + 1) - 1 < L ∧ (μ 11) 6 (a (r + 1) - 1) = 59) := by
      by_cases hr1 : r + 1 = q
      · left
        rw [hr1, hO.2.1]
        omega
      · right
        have h1 := hO.2.2.2 r (by omega)
        have h2 := (hO.2.2.1 (r + 1) (by omega)).1
        have h3 := hmono (q - (r + 1)) (by omega)
        have h4 : a (r + 2) ≤ L + 1 := by
          have key : ∀ k, r + 2 + k ≤ q → a (r + 2) ≤ a (r + 2 + k) := by
            intro k
            induction k with
            | zero => intro _; exact Nat.le_refl _
            | succ k ihk =>
              intro hk
              have := ihk (by omega)
              have := (hO.2.2.1 (r + 2 + k) (by omega)).1
              show a (r + 2) ≤ a (r + 2 + k + 1)
              omega
          have := key (q - (r + 2)) (by omega)
          rw [show r + 2 + (q - (r + 2)) = q by omega, hO.2.1] at this
          exact this
        have h2' : a (r + 1) + 3 ≤ a (r + 2) := h2
        exact ⟨by omega, h1⟩
    rw [← h7] at o2
    obtain ⟨b, b1, b2⟩ := ob_c (μ := μ) (X := X) (r := r) hS hL (by omega) o2 h (by omega)
    have hno := o2.1
    have e1 : q_X6_carryOut_32 μ0 (L + 1 - a r) (a r) μ (nI (a r)) (nI r) = (if 0 ≤ b.1 then q_X6_carryOut_32 μ0 (L + 1 - a (r + 1)) (a (r + 1)) (fo μ 0 b.2) (nI (a (r + 1))) (nI (r + 1)) else fC (fo μ 0 b.2) (nI r)) := by
      rw [show L + 1 - a r = (L + 1 - a (r + 1) + 1) + (a (r + 1) - 1 - a r) by omega, co_skip hS hL (a (r + 1) - 1 - a r) (a r) (L + 1 - a (r + 1) + 1) (fun i i1 i2 => ⟨by omega, hno i i1 (by omega)⟩), show a r + (a (r + 1) - 1 - a r) = a (r + 1) - 1 by omega]
      conv => lhs; unfold q_X6_carryOut_32
      try dsimp only
      rw [oe_yes hS hL hends, if_neg (by decide), cn_nI (by omega), b1]
      try dsimp only
      rw [nI_1, nI_1, show a (r + 1) - 1 + 1 = a (r + 1) by omega]
      rfl
    have e2 : q_X7_carryOut_23 M0 (27 - r) r X = (if (p_X7_carry X (3 * r)).1 < 0 then fM (p_X7_carry X (3 * r)).2 r else q_X7_carryOut_23 M0 (27 - (r + 1)) (r + 1) (p_X7_carry X (3 * r)).2) := by
      rw [show 27 - r = (27 - (r + 1)) + 1 by omega]
      conv => lhs; unfold q_X7_carryOut_23
      try dsimp only
      rw [if_neg (show ¬ X 0 10 ≤ nI r by rw [h10]; exact nI_ge (by omega) (by omega))]
      rfl
    rw [e1, e2]
    obtain ⟨c1, c2⟩ := b2
    rcases c2 with ⟨c2, c3, c4⟩ | ⟨c2, ⟨n', t', d', c3⟩, c4⟩
    · rw [if_neg (fun z => Int32.lt_irrefl (Int32.lt_of_lt_of_le c2 z)), if_pos (by rw [← c1]; exact c2), c3, c4, fo_self]
      exact co_fin (by omega) (h.mono (by omega))
    · rw [if_pos c2, if_neg (by rw [← c1]; exact Int32.not_lt.mpr c2)]
      have c5 : ∀ p k, ¬ p = 1 → (p_X7_carry X (3 * r)).2 p k = X p k := fun p k hp => by rw [c4 p k hp, rec_in h8]
      generalize (p_X7_carry X (3 * r)).2 = X' at c3 c5 ⊢
      have r11 : fo μ 0 b.2 11 = μ 11 := fo_ne _ _ (by decide)
      have := ih (r + 1) (g + 1000) n' t' d' (fo μ 0 b.2) X' (by omega) (by rw [r11]; exact hS) (by rw [r11]; exact hO) (by rw [← h7]; exact funext fun k => c5 7 k (by decide)) (by rw [fo_at]; exact c3) (by omega) (by rw [c5 0 8 (by decide)]; exact h8) (by rw [c5 0 10 (by decide)]; exact h10)
      rw [show g + 1000 + 1000 * m = g + 1000 * (m + 1) by omega] at this
      obtain ⟨j, j1, j2, j3, j4, j5, j6, j7⟩ := this
      refine ⟨j, j1, j2, j3, j4, by rw [j5, r11], fun q' h0 h1 => by rw [j6 q' h0 h1, fo_ne _ _ h0], fun p k hp => ?_⟩
      rw [j7 p k hp]
      by_cases hk : p = 0 ∧ (k = 7 ∨ k = 8)
      · obtain ⟨rfl, hk⟩ := hk
        rcases hk with rfl | rfl
        · rw [us_at, us_at]
        · rw [us_k (by decide), us_at, us_k (by decide), us_at]
      · rw [us_ne _ _ (by omega), us_ne _ _ (by omega), us_ne _ _ (by omega), us_ne _ _ (by omega)]
        exact c5 p k hp
/-- carryOut: both sides -/
theorem r_carryOut {g n t d L : Nat} {μ : Mu} {M : Sv} (hP : PdR L (μ 11) M) (h : Rl g n t d (μ 0) (M 1)) (hg : g + 28000 < 2 ^ 29) (hw : Wc μ) (h8 : M 0 8 = 0) :
    (p_X2_firstFault (μ 11) = (-6) ∧ ∃ Y, (∀ p k, ¬ (p = 0 ∧ (k = 10 ∨ k = 11 ∨ k = 12)) → ¬ p = 7 → Y p k = M p k) ∧ CoR (g + 27000) (p_X0_prepare μ) (p_X7_record Y) (p_X6_carryOut μ) (p_X7_carryOut M)) ∨
    (¬ p_X2_firstFault (μ 11) = (-6) ∧ p_X6_carryOut μ = (-3, μ) ∧ (p_X7_carryOut M).1 = (-3) ∧ ∀ p k, ¬ (p = 0 ∧ (k = 10 ∨ k = 11 ∨ k = 12)) → ¬ p = 7 → (p_X7_carryOut M).2 p k = M p k) := by
  have h80 := hP.2.2.1
  obtain ⟨f1, f2, f3⟩ := fault_c hP
  unfold p_X6_carryOut p_X7_carryOut
  try dsimp only
  rw [f1]
  by_cases c : p_X2_firstFault (μ 11) = (-6)
  · left
    rw [if_pos c, if_pos c]
    refine ⟨c, (p_X7_faultOf M).2, f2, ?_⟩
    obtain ⟨q, a, hq0, hq, h10, hO⟩ := f3 (f1.trans c)
    generalize (p_X7_faultOf M).2 = Y at f2 h10 hO ⊢
    have p11 : p_X0_prepare μ 11 = μ 11 := pre_ne hw (Or.inr (by decide))
    have p0 : p_X0_prepare μ 0 = μ 0 := pre_ne hw (Or.inl (by decide))
    have hX1 : us (p_X7_record Y) 0 8 1 1 = M 1 := funext fun k => by rw [us_p (by decide), rec1, f2 _ _ (by omega) (by decide)]
    have := co_it (μ0 := μ) (M0 := M) (O := Y) h80 hq q 0 g n t d (p_X0_prepare μ) (us (p_X7_record Y) 0 8 1) (by omega) (by rw [p11]; exact hP.1) (by rw [p11]; exact hO) (funext fun k => by rw [us_p (by decide), fr_record (by decide) (by decide)]) (by rw [p0, hX1]; exact h) (by omega) (us_at _ _ _ _) (by rw [us_k (by decide), fr_rec (by omega) (by decide)]; exact h10)
    rw [hO.1] at this
    have hL : cn ((μ 11) 5 1) + 1 = L + 1 - 0 := by rw [hP.1, cn_nI (by omega)]; omega
    rw [hL]
    obtain ⟨j, j1, j2, j3, ⟨n', t', d', j4⟩, j5, j6, j7⟩ := this
    refine ⟨j, j1, j2, j3, ⟨n', t', d', j4.mono (by omega)⟩, j5, j6, fun p k hp => ?_⟩
    rw [show q_X7_carryOut_23 M 27 0 (us (p_X7_record Y) 0 8 1) = q_X7_carryOut_23 M (27 - 0) 0 (us (p_X7_record Y) 0 8 1) from rfl, j7 p k hp]
    by_cases hk : p = 0 ∧ (k = 7 ∨ k = 8)
    · obtain ⟨rfl, hk⟩ := hk
      rcases hk with rfl | rfl
      · rw [us_at, us_at]
      · rw [us_k (by decide), us_at, us_k (by decide), us_at]
    · rw [us_ne _ _ (by omega), us_ne _ _ (by omega), us_ne _ _ (by omega), us_ne _ _ (by omega), us_ne _ _ (by omega)]
  · right
    rw [if_neg c, if_neg c]
    exact ⟨c, rfl, rfl, f2⟩
