/-! changes, both sides -/
theorem within_ne {a b d : Int32} (h : ¬ p_X6_within a b d = 0) : b ≤ a ∧ a ≤ d := by
  unfold p_X6_within at h
  try dsimp only at h
  by_cases h1 : a < b
  · rw [if_pos h1] at h; exact absurd rfl h
  · rw [if_neg h1] at h
    by_cases h2 : d < a
    · rw [if_pos h2] at h; exact absurd rfl h
    · exact ⟨Int32.not_lt.mp h1, Int32.not_lt.mp h2⟩
theorem within_pos {a b d : Int32} (h1 : b ≤ a) (h2 : a ≤ d) : p_X6_within a b d = 1 := by
  unfold p_X6_within
  try dsimp only
  rw [if_neg (Int32.not_lt.mpr h1), if_neg (Int32.not_lt.mpr h2)]
theorem within_idx {x m : Int32} {n : Nat} (hm : m = nI n) (hn : n < 2 ^ 31) (h : ¬ p_X6_within x 0 m = 0) : ∃ k, k ≤ n ∧ x = nI k := by
  obtain ⟨h1, h2⟩ := within_ne h
  exact nI_of2 (M := m) (by rw [hm]; exact nI_toInt hn) (Int32.not_lt.mpr h1) h2
/-- an index below a count -/
theorem within_lt {x m : Int32} {n : Nat} (hm : m = nI n) (hn : n < 2 ^ 31) (h : ¬ p_X6_within x 0 (m - 1) = 0) : ∃ k, k < n ∧ x = nI k := by
  cases n with
  | zero =>
    obtain ⟨h1, h2⟩ := within_ne h
    rw [hm, nI_0] at h2
    exact absurd (Int32.le_trans h1 h2) (by decide)
  | succ n =>
    obtain ⟨k, hk, e⟩ := within_idx (by rw [hm]; exact nI_pred n) (by omega) h
    exact ⟨k, by omega, e⟩
theorem z1_of {x : Int32} (h : ¬ p_X6_within x 0 1 = 0) : Z1 x := by
  obtain ⟨k, hk, e⟩ := within_idx (n := 1) rfl (by omega) h
  match k, hk, e with
  | 0, _, e => exact Or.inl e
  | 1, _, e => exact Or.inr e
theorem bn_of_w {x : Int32} {m : Int32} {n : Nat} (hm : m = nI n) (hn : n < 2 ^ 31) (h : ¬ p_X6_within x 0 m = 0) : Bn x n := by
  obtain ⟨k, hk, e⟩ := within_idx hm hn h
  exact bn_of e hk hn
theorem shape_eq {a b d : Int32} : p_X7_areSizes a b d = p_X3_isShape a b d := by
  unfold p_X7_areSizes p_X3_isShape
  simp only [in_w]
theorem shape_ne {a b d : Int32} (h : ¬ p_X3_isShape a b d = 0) : Bn a 15 ∧ Bn b 50 ∧ 0 < cn b := by
  unfold p_X3_isShape at h
  try dsimp only at h
  by_cases h1 : p_X6_within a 0 15 = 0
  · rw [if_pos h1] at h; exact absurd rfl h
  · rw [if_neg h1] at h
    by_cases h2 : p_X6_within b 1 50 = 0
    · rw [if_pos h2] at h; exact absurd rfl h
    · obtain ⟨q1, q2⟩ := within_ne h2
      have q0 : (0 : Int32) ≤ b := Int32.le_trans (by decide) q1
      obtain ⟨k, hk, e⟩ := nI_of2 (M := 50) (n := 50) (by decide) (Int32.not_lt.mpr q0) q2
      refine ⟨bn_of_w rfl (by decide) h1, bn_of e hk (by decide), ?_⟩
      rw [e, cn_nI (by omega)]
      refine Nat.pos_of_ne_zero fun z => ?_
      rw [e, z] at q1
      exact absurd q1 (by decide)
/-- an operation on both sides: the same answer; an error changes nothing; else both rows say the same again, and the reference has recorded -/
def OpR (g : Nat) (S M : Sv) (a b : Int32 × Sv) : Prop :=
  a.1 = b.1 ∧ ((a.1 < 0 ∧ a.2 = S ∧ b.2 = M) ∨ (0 ≤ a.1 ∧ (∃ n t d, Rl g n t d a.2 (b.2 1)) ∧ ∀ p k, ¬ p = 1 → b.2 p k = p_X7_record M p k))
theorem OpR.err {g : Nat} {S M : Sv} {a b : Int32 × Sv} {e : Int32} (ha : a = (e, S)) (hb : b = (e, M)) (he : e < 0) : OpR g S M a b := by
  rw [ha, hb]
  exact ⟨rfl, Or.inl ⟨he, rfl, rfl⟩⟩
theorem OpR.ok {g n t d : Nat} {S M S' M' : Sv} {a b : Int32 × Sv} {x y : Int32} (ha : a = (x, S')) (hb : b = (y, M')) (hxy : x = y) (hx : 0 ≤ x) (hR : Rl g n t d S' (M' 1)) (hM : ∀ p k, ¬ p = 1 → M' p k = p_X7_record M p k) : OpR g S M a b := by
  rw [ha, hb]
  exact ⟨hxy, Or.inr ⟨hx, ⟨n, t, d, hR⟩, hM⟩⟩
theorem rec1 {M : Sv} : p_X7_record M 1 = M 1 := funext fun k => fr_record (by decide) (by decide)
theorem z1_ge {x : Int32} (h : Z1 x) : 0 ≤ x := by rcases h with rfl | rfl <;> decide
theorem hasLine_eq {g n t d : Nat} {S M : Sv} {ln : Int32} (h : Rl g n t d S (M 1)) : p_X7_isLine M ln = p_X3_hasLine S ln := by
  unfold p_X7_isLine p_X3_hasLine
  rw [in_w, h.tn, h.en]
theorem hasLine_ne {g n t d : Nat} {S : Sv} {T : Nat → Int32} {ln : Int32} (h : Rl g n t d S T) (q : ¬ p_X3_hasLine S ln = 0) : ∃ i, i < n ∧ ln = nI i ∧ cn ln = i := by
  have hn := h.n12
  obtain ⟨i, hi, e⟩ := within_lt h.en (by omega) q
  exact ⟨i, hi, e, by rw [e]; exact cn_nI (by omega)⟩
/-! set -/
theorem least_v : ∀ k, k < 7 → p_X7_least (nI k) = vLst k := by decide +kernel
theorem most_v : ∀ k, k < 7 → p_X7_most (nI k) = vMst k := by decide +kernel
theorem lst_ge : ∀ k, k < 7 → 0 ≤ vLst k := by decide +kernel
theorem r_set {g n t d : Nat} {S M : Sv} {st vl : Int32} (h : Rl g n t d S (M 1)) : OpR g S M (p_X3_changeSetting S st vl) (p_X7_set M st vl) := by
  unfold p_X3_changeSetting p_X7_set
  try dsimp only
  rw [in_w, in_w, show ((7 : Int32) - 1) = 6 by decide]
  by_cases h1 : p_X6_within st 0 6 = 0
  · rw [if_pos h1, if_pos h1]
    exact .err rfl rfl (by decide)
  · rw [if_neg h1, if_neg h1]
    obtain ⟨k, hk, e⟩ := within_idx (n := 6) rfl (by decide) h1
    have hck : cn st = k := by rw [e]; exact cn_nI (by omega)
    rw [hck, e, least_v k (by omega), most_v k (by omega)]
    by_cases h2 : p_X6_within vl (vLst k) (vMst k) = 0
    · rw [if_pos h2, if_pos h2]
      exact .err rfl rfl (by decide)
    · rw [if_neg h2, if_neg h2]
      have hck2 : cn (nI k) = k := cn_nI (by omega)
      obtain ⟨s7, s8, s9, s10, s11, s12, s13⟩ := h.hs
      refine .ok (n := n) (t := t) (d := d) rfl rfl ?_ (Int32.le_trans (lst_ge k (by omega)) (h.rg k (by omega)).1) ?_ (fun p q hp => us_p hp)
      · rw [rec1, h.st k (by omega)]
      · refine h.hd (Nat.le_refl _) (fun p q _ hp => us_p hp) (fun q hq => by rw [us_k (by omega), rec1]) ⟨?_, h.n12, ?_, h.t6, ?_, h.d8, ?_, fun q hq => ?_, fun q hq => ?_, ?_, ?_, ?_, ?_, ?_, ?_, ?_⟩
        · rw [us_p (by omega)]; exact h.en
        · rw [us_p (by omega)]; exact h.et
        · rw [us_p (by omega)]; exact h.ed
        · rw [us_p (by omega)]; exact h.tk
        · by_cases hqk : q = k
          · rw [hqk, us_at, us_at]
          · rw [us_k hqk, us_k hqk, rec1]; exact h.st q hq
        · by_cases hqk : q = k
          · rw [hqk, us_at]; exact within_ne h2
          · rw [us_k hqk]; exact h.rg q hq
        · rw [us_k (by omega), us_p (by omega), rec1, s7]
        · rw [us_k (by omega), us_p (by omega), rec1, s8]
        · rw [us_k (by omega), us_p (by omega), rec1, s9]
        · rw [us_k (by omega), us_p (by omega), rec1, s10]
        · rw [us_k (by omega), us_p (by omega), rec1, s11]
        · rw [us_k (by omega), us_p (by omega), rec1, s12]
        · rw [us_k (by omega), us_p (by omega), rec1, s13]
/-! change, mask -/
theorem r_change {g n t d : Nat} {S M : Sv} {ln a b c : Int32} (h : Rl g n t d S (M 1)) : OpR g S M (p_X3_changeLine S ln a b c) (p_X7_change M ln a b c) := by
  unfold p_X3_changeLine p_X7_change
  try dsimp only
  rw [hasLine_eq h, shape_eq]
  by_cases h1 : p_X3_hasLine S ln = 0
  · rw [if_pos h1, if_pos h1]
    exact .err rfl rfl (by decide)
  · rw [if_neg h1, if_neg h1]
    obtain ⟨i, hi, -, hci⟩ := hasLine_ne h h1
    rw [hci]
    by_cases h2 : p_X3_isShape a b c = 0
    · rw [if_pos h2, if_pos h2]
      exact .err rfl rfl (by decide)
    · rw [if_neg h2, if_neg h2]
      obtain ⟨g1, g2, g3⟩ := shape_ne h2
      obtain ⟨⟨r0, r1, r2, r3, r4, r5, r6, r7, r8, r9, r10, r11, r12, r13, r14⟩, i0, i1, i1p, i3, i4, i5, i8, i11⟩ := h.2.1 i hi
      refine .ok (n := n) (t := t) (d := d) rfl rfl ?_ (bn_ge0 i0 (by decide)) ?_ (fun p q hp => ?_)
      · unfold p_X7_of
        rw [rec1, r0]
      · refine h.line hi (fun p k hp => fr_shape hp) (fun k hk => ?_) ?_ ?_ ?_
        · rw [fr_book (by omega), fr_book (by omega), fr_book (by omega), rec1]
        · simp [p_X1_shape, us]
        · simp only [book0]
          unfold LnR p_X1_shape
          simp (disch := omega) only [us_at, us_k, rec1, r3, r4, r5, r6, r7, r8, r9, r10, r11, r12, r13, r14]
          simp
        · unfold LnI p_X1_shape
          simp (disch := omega) only [us_at, us_k]
          exact ⟨g1, g2, g3, i3, i4, i5, i8, i11⟩
      · rw [fr_book (by omega), fr_book (by omega), fr_book (by omega)]
theorem r_mask {g n t d : Nat} {S M : Sv} {ln is : Int32} (h : Rl g n t d S (M 1)) : OpR g S M (p_X3_maskLine S ln is) (p_X7_mask M ln is) := by
  unfold p_X3_maskLine p_X7_mask
  try dsimp only
  rw [hasLine_eq h, in_w]
  by_cases h1 : p_X3_hasLine S ln = 0
  · rw [if_pos h1, if_pos h1]
    exact .err rfl rfl (by decide)
  · rw [if_neg h1, if_neg h1]
    obtain ⟨i, hi, -, hci⟩ := hasLine_ne h h1
    rw [hci]
    by_cases h2 : p_X6_within is 0 1 = 0
    · rw [if_pos h2, if_pos h2]
      exact .err rfl rfl (by decide)
    · rw [if_neg h2, if_neg h2]
      have hz := z1_of h2
      obtain ⟨⟨r0, r1, r2, r3, r4, r5, r6, r7, r8, r9, r10, r11, r12, r13, r14⟩, i0, i1, i1p, i3, i4, i5, i8, i11⟩ := h.2.1 i hi
      rw [hz.c, i4.d]
      refine .ok (n := n) (t := t) (d := d) rfl rfl ?_ (z1_ge i4) ?_ (fun p q hp => ?_)
      · unfold p_X7_of
        rw [rec1, r4]
      · refine h.line hi (fun p k hp => us_p hp) (fun k hk => ?_) (us_k (by omega)) ?_ ?_
        · rw [fr_book (by omega), rec1]
        · simp only [book0]
          unfold LnR
          simp (disch := omega) only [us_at, us_k, rec1, r0, r1, r2, r3, r5, r6, r7, r8, r9, r10, r11, r12, r13, r14]
          simp
        · unfold LnI
          simp (disch := omega) only [us_at, us_k]
          exact ⟨i0, i1, i1p, i3, hz, i5, i8, i11⟩
      · rw [fr_book (by omega)]
/-! raise -/
theorem r_raise {g n t d : Nat} {S M : Sv} {ln : Int32} (h : Rl g n t d S (M 1)) : OpR g S M (p_X3_raiseLine S ln) (p_X7_raise M ln) := by
  unfold p_X3_raiseLine p_X7_raise
  try dsimp only
  rw [hasLine_eq h]
  by_cases h1 : p_X3_hasLine S ln = 0
  · rw [if_pos h1, if_pos h1]
    exact .err rfl rfl (by decide)
  · rw [if_neg h1, if_neg h1]
    obtain ⟨i, hi, -, hci⟩ := hasLine_ne h h1
    rw [hci]
    obtain ⟨⟨r0, r1, r2, r3, -⟩, -, -, -, i3, -⟩ := h.2.1 i hi
    have e3 : p_X7_of M i 3 = S (3 + i) 3 := r3
    rw [e3]
    rcases i3 with z | z
    · rw [if_pos z, if_neg (show ¬ S (3 + i) 3 = 1 by rw [z]; decide)]
      have h' : Rl g n t d S (p_X7_record M 1) := by rw [rec1]; exact h
      obtain ⟨q1, q2⟩ := r_edge (kp := if S 1 5 = 1 then 1 else 0) h' hi rfl
      rw [← q1]
      refine .ok (n := n) (t := t) (d := d) rfl rfl rfl ?_ q2 (fun p q hp => fr_edge (by omega))
      split <;> decide
    · rw [if_neg (show ¬ S (3 + i) 3 = 0 by rw [z]; decide), if_pos z]
      exact .err rfl rfl (by decide)
/-! hold -/
theorem dev_up : ∀ v, v < 16 → ∀ k, k < 4 → ∃ r, r ≤ 15 ∧ nI v ||| ((1 : Int32) <<< ((nI k) &&& 31)) = nI r ∧ (nI v &&& (((1 : Int32) <<< (nI k &&& 31)) ^^^ (-1))) ||| ((1 : Int32) <<< (nI k &&& 31)) = nI r := by decide +kernel
theorem dev_dn : ∀ v, v < 16 → ∀ k, k < 4 → ∃ r, r ≤ 15 ∧ nI v &&& (((1 : Int32) <<< ((nI k) &&& 31)) ^^^ (-1)) = nI r ∧ (nI v &&& (((1 : Int32) <<< (nI k &&& 31)) ^^^ (-1))) ||| ((0 : Int32) <<< (nI k &&& 31)) = nI r := by decide +kernel
theorem r_hold {g n t d : Nat} {S M : Sv} {ln dv up : Int32} (h : Rl g n t d S (M 1)) : OpR g S M (p_X3_holdLine S ln dv up) (p_X7_hold M ln dv up) := by
  unfold p_X3_holdLine p_X7_hold
  try dsimp only
  rw [hasLine_eq h, in_w, in_w]
  by_cases h1 : p_X3_hasLine S ln = 0
  · rw [if_pos h1, if_pos h1]
    exact .err rfl rfl (by decide)
  · rw [if_neg h1, if_neg h1]
    obtain ⟨i, hi, -, hci⟩ := hasLine_ne h h1
    rw [hci]
    by_cases h2 : p_X6_within dv 0 3 = 0
    · rw [if_pos h2, if_pos h2]
      exact .err rfl rfl (by decide)
    · rw [if_neg h2, if_neg h2]
      obtain ⟨k, hk, ek⟩ := within_idx (n := 3) rfl (by decide) h2
      have hck : cn dv = k := by rw [ek]; exact cn_nI (by omega)
      rw [hck, ek]
      by_cases h3 : p_X6_within up 0 1 = 0
      · rw [if_pos h3, if_pos h3]
        exact .err rfl rfl (by decide)
      · rw [if_neg h3, if_neg h3]
        have hz := z1_of h3
        obtain ⟨⟨r0, r1, r2, r3, r4, r5, r6, r7, -⟩, i0, i1, i1p, i3, i4, i5, i8, i11⟩ := h.2.1 i hi
        have e3 : p_X7_of M i 3 = S (3 + i) 3 := r3
        have e7 : p_X7_of (p_X7_record M) i 7 = S (3 + i) 8 := by unfold p_X7_of; rw [rec1, r7]
        rw [e3, e7, book0, hz.c]
        by_cases h4 : S (3 + i) 3 = 0
        · rw [if_pos h4, if_pos h4]
          exact .err rfl rfl (by decide)
        · rw [if_neg h4, if_neg h4]
          obtain ⟨v, hv, ev⟩ := bn_to i8
          have key : ∃ r, r ≤ 15 ∧ (if up = 0 then S (3 + i) 8 &&& (((1 : Int32) <<< ((nI k) &&& 31)) ^^^ (-1)) else S (3 + i) 8 ||| ((1 : Int32) <<< ((nI k) &&& 31))) = nI r ∧ ((S (3 + i) 8 &&& (((1 : Int32) <<< (nI k &&& 31)) ^^^ (-1))) ||| ((up : Int32) <<< (nI k &&& 31))) = nI r := by
            rw [ev]
            rcases hz with z | z
            · obtain ⟨r, q1, q2, q3⟩ := dev_dn v (by omega) k (by omega)
              exact ⟨r, q1, by rw [if_pos z]; exact q2, by rw [z]; exact q3⟩
            · obtain ⟨r, q1, q2, q3⟩ := dev_up v (by omega) k (by omega)
              exact ⟨r, q1, by rw [if_neg (by rw [z]; decide)]; exact q2, by rw [z]; exact q3⟩
          obtain ⟨r, hr, w1, w2⟩ := key
          rw [w2]
          unfold p_X1_moveDevice
          try dsimp only
          rw [w1]
          have h' : Rl g n t d S (p_X7_record M 1) := by rw [rec1]; exact h
          have hD := r_follow (r_devs h' hi (bnI hr (by omega))) hi
          obtain ⟨⟨-, -, -, -, -, -, -, y7, -⟩, -, -, -, -, -, -, y8, -⟩ := hD.2.1 i hi
          refine .ok (n := n) (t := t) (d := d) rfl rfl ?_ (bn_ge0 y8 (by decide)) hD (fun p q hp => ?_)
          · unfold p_X7_of
            rw [y7]
          · rw [fr_look (by omega), us_p hp]
