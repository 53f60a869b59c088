/-! bound and load, both sides -/
theorem r_cost {g n t d i : Nat} {S M : Sv} (h : Rl g n t d S (M 1)) (hi : i < n) : p_X7_costOf M i = p_X3_costOf S i ∧ ∃ c, c ≤ 59 ∧ p_X3_costOf S i = nI c := by
  obtain ⟨⟨-, r1, -⟩, -, i1, -⟩ := h.2.1 i hi
  have g4 := h.rg 4 (by omega)
  have e4 : M 1 4 = S 1 4 := h.st 4 (by omega)
  unfold p_X7_costOf p_X3_costOf p_X7_of
  try dsimp only
  rw [r1, e4]
  refine ⟨rfl, ?_⟩
  obtain ⟨q, hq, eq⟩ := bn_to i1
  have g0 : (0 : Int32) ≤ S 1 4 := g4.1
  obtain ⟨w, hw, ew⟩ := nI_of2 (M := 9) (n := 9) (by decide) (Int32.not_lt.mpr g0) g4.2
  exact ⟨q + w, by omega, by rw [eq, ew, nI_add]⟩
theorem div_up {a q : Nat} (ha : a ≤ 3000) (hq : 0 < q) (hq2 : q ≤ 200) : (p_X6_dividedUp (nI a).toInt64 (nI q).toInt64).toInt32 = (nI a + nI q - 1) / nI q := by
  have h1 : nI a + nI q - 1 = nI (a + q - 1) := by rw [nI_add]; exact isb (a := a + q) (b := 1) rfl rfl (by omega)
  rw [h1, pk_div (by omega) hq (by omega), nI_l (by omega), nI_l (by omega)]
  unfold p_X6_dividedUp
  try dsimp only
  have h2 : ¬ lg_cmp (lN q) 0 ≤ 0 := by
    rw [lg_cmp_le]
    exact fun z => absurd ((lN_le (b := 0) (by omega) (by omega)).mp z) (by omega)
  have h3 : lN a + lN q - 1 = lN (a + q - 1) := by rw [lN_add]; exact lN_sub (a := a + q) (b := 1) (by omega)
  rw [if_neg h2, h3, pk_lDiv (by omega) hq (by omega), lN_i]
theorem r_below {g n t d i : Nat} {S M : Sv} {ln : Int32} (h : Rl g n t d S (M 1)) (hi : i < n) (hc : cn ln = i) : itN (q_X7_bound_14 M ln) (cn (M 1 8)) 0 = p_X3_greatestCostBelow S (S (3 + i) 0) := by
  unfold p_X3_greatestCostBelow
  try dsimp only
  rw [h.cn3, h.cn8]
  refine itN_congr n fun j hj σ => ?_
  obtain ⟨⟨r0, -⟩, -⟩ := h.2.1 i hi
  obtain ⟨⟨q0, -⟩, -⟩ := h.2.1 j hj
  unfold q_X7_bound_14 q_X3_greatestCostBelow_4
  try dsimp only
  rw [hc, (r_cost h hj).1]
  have e1 : p_X7_of M j 0 = S (3 + j) 0 := q0
  have e2 : p_X7_of M i 0 = S (3 + i) 0 := r0
  rw [e1, e2]
theorem r_rivals {g n t d i w : Nat} {S M : Sv} {ln A : Int32} (h : Rl g n t d S (M 1)) (hi : i < n) (hln : ln = nI i) (hw : w ≤ 3000) : ∀ m, m ≤ t → itN (q_X7_bound_88 M ln w) m A = A + itN (q_X3_costOfRivals_5 S i (nI w)) m 0 := by
  have hn := h.n12
  have hc : cn ln = i := by rw [hln]; exact cn_nI (by omega)
  intro m
  induction m with
  | zero => intro _; exact (Int32.add_zero A).symm
  | succ m ih =>
    intro hm
    rw [itN_s, itN_s]
    have ih := ih (by omega)
    generalize itN (q_X7_bound_88 M ln w) m A = σ' at ih ⊢
    generalize itN (q_X3_costOfRivals_5 S i (nI w)) m 0 = σ at ih ⊢
    obtain ⟨b0, b1, b2, ⟨k, hk, ek⟩, q, hq, hq2, eq⟩ := h.2.2.2.1 m (by omega)
    obtain ⟨⟨r0, -⟩, -⟩ := h.2.1 i hi
    obtain ⟨⟨k0, -⟩, -⟩ := h.2.1 k hk
    have hck : cn (nI k) = k := cn_nI (by omega)
    have e1 : p_X7_of M k 0 = S (3 + k) 0 := k0
    have e2 : p_X7_of M i 0 = S (3 + i) 0 := r0
    unfold q_X7_bound_88 q_X3_costOfRivals_5
    try dsimp only
    rw [hc, b0, b1, ek, hck, eq, e1, e2, (r_cost h hk).1, hln, div_up hw hq hq2, ih]
    by_cases c1 : nI k = nI i
    · rw [if_pos c1, if_pos c1, if_pos rfl, Int32.add_zero]
    · rw [if_neg c1, if_neg c1]
      by_cases c2 : S (3 + k) 0 < S (3 + i) 0
      · rw [if_pos c2, if_pos c2, if_pos rfl, Int32.add_zero]
      · rw [if_neg c2, if_neg c2, if_neg (by decide), Int32.add_assoc]
theorem r_boundL {g n t d i : Nat} {S M : Sv} {ln v3 : Int32} (h : Rl g n t d S (M 1)) (hi : i < n) (hln : ln = nI i) : ∀ fu j, j + fu ≤ 3001 → q_X7_bound_67 M ln v3 fu j = q_X3_leastBound_32 S ln v3 (p_X3_costOf S i) fu j := by
  have hn := h.n12
  have hc : cn ln = i := by rw [hln]; exact cn_nI (by omega)
  intro fu
  induction fu with
  | zero => intro j _; rfl
  | succ fu ih =>
    intro j hj
    unfold q_X7_bound_67 q_X3_leastBound_32
    try dsimp only
    rw [hc, (r_cost h hi).1, h.cn9, r_rivals h hi hln (by omega) t (Nat.le_refl _), ih (j + 1) (by omega)]
    unfold p_X3_costOfRivals
    try dsimp only
    rw [h.cn5]
    by_cases c : v3 + p_X3_costOf S i + itN (q_X3_costOfRivals_5 S i (nI j)) t 0 = nI j
    · rw [if_pos c, if_pos c.symm]
    · rw [if_neg c, if_neg (fun z => c z.symm)]
theorem r_bound {g n t d : Nat} {S M : Sv} {ln : Int32} (h : Rl g n t d S (M 1)) : p_X3_leastBound S ln = p_X7_bound M ln := by
  unfold p_X3_leastBound p_X7_bound
  try dsimp only
  rw [hasLine_eq h]
  by_cases h1 : p_X3_hasLine S ln = 0
  · rw [if_pos h1, if_pos h1]
  · rw [if_neg h1, if_neg h1]
    obtain ⟨i, hi, ei, hci⟩ := hasLine_ne h h1
    rw [r_below h hi hci, hci, r_boundL h hi ei 3000 1 (by omega)]
/-! load -/
def pNf (p : Nat → Nat) : Nat → Nat
  | 0 => 1
  | m + 1 => pNf p m * p m
def aNf (c p : Nat → Nat) : Nat → Nat
  | 0 => 0
  | m + 1 => aNf c p m * p m + pNf p m * c m
def wNf (c p : Nat → Nat) : Nat → Nat
  | 0 => 0
  | m + 1 => wNf c p m + 1000 * c m / p m
def rNf (c p : Nat → Nat) (P : Nat) : Nat → Nat
  | 0 => 0
  | m + 1 => rNf c p P m + 1000 * c m % p m * (P / p m)
theorem load_id {c p : Nat → Nat} {P t : Nat} (hp : ∀ j, j < t → 0 < p j) : ∀ m, m ≤ t → ∀ K, pNf p m * K = P → 1000 * aNf c p m * K = wNf c p m * P + rNf c p P m := by
  intro m
  induction m with
  | zero => intro _ K _; simp [aNf, wNf, rNf]
  | succ m ih =>
    intro hm K hK
    have h0 := hp m (by omega)
    have i1 := ih (by omega) (p m * K) (by rw [← hK]; show _ = pNf p m * p m * K; rw [Nat.mul_assoc])
    have hd : P / p m = pNf p m * K := by
      rw [← hK]
      show pNf p m * p m * K / p m = _
      rw [Nat.mul_right_comm, Nat.mul_div_cancel _ h0]
    show 1000 * (aNf c p m * p m + pNf p m * c m) * K = (wNf c p m + 1000 * c m / p m) * P + (rNf c p P m + 1000 * c m % p m * (P / p m))
    have h2 : 1000 * c m / p m * P + 1000 * c m % p m * (P / p m) = 1000 * c m * (pNf p m * K) := by
      have h3 : P = p m * (pNf p m * K) := by rw [← hK]; show pNf p m * p m * K = _; rw [Nat.mul_comm (pNf p m) (p m), Nat.mul_assoc]
      rw [hd]
      conv => lhs; rw [show 1000 * c m / p m * P = 1000 * c m / p m * (p m * (pNf p m * K)) from congrArg _ h3]
      rw [← Nat.mul_assoc (1000 * c m / p m) (p m), ← Nat.add_mul, Nat.div_add_mod']
    rw [Nat.add_mul, show ∀ a b c d : Nat, a + b + (c + d) = a + c + (b + d) from fun a b c d => by omega, h2, ← i1]
    rw [Nat.mul_add, Nat.add_mul]
    congr 1
    · simp only [Nat.mul_assoc]
    · simp only [Nat.mul_assoc, Nat.mul_left_comm, Nat.mul_comm]
theorem pN_bd {p : Nat → Nat} {t : Nat} (hp : ∀ j, j < t → 0 < p j ∧ p j ≤ 200) : ∀ m, m ≤ t → 0 < pNf p m ∧ pNf p m ≤ 200 ^ m := by
  intro m
  induction m with
  | zero => intro _; exact ⟨Nat.one_pos, Nat.le_refl _⟩
  | succ m ih =>
    intro hm
    obtain ⟨a, b⟩ := ih (by omega)
    obtain ⟨q1, q2⟩ := hp m (by omega)
    exact ⟨Nat.mul_pos a q1, by show pNf p m * p m ≤ 200 ^ m * 200; exact Nat.mul_le_mul b q2⟩
theorem aN_bd {c p : Nat → Nat} {t : Nat} (hp : ∀ j, j < t → 0 < p j ∧ p j ≤ 200) (hc : ∀ j, j < t → c j ≤ 59) : ∀ m, m ≤ t → aNf c p m * 200 ≤ 59 * m * 200 ^ m := by
  intro m
  induction m with
  | zero => intro _; simp [aNf]
  | succ m ih =>
    intro hm
    have i1 := ih (by omega)
    obtain ⟨-, b⟩ := pN_bd hp m (by omega)
    obtain ⟨q1, q2⟩ := hp m (by omega)
    have q3 := hc m (by omega)
    show (aNf c p m * p m + pNf p m * c m) * 200 ≤ 59 * (m + 1) * (200 ^ m * 200)
    have h1 : aNf c p m * 200 * p m ≤ 59 * m * 200 ^ m * 200 := Nat.mul_le_mul i1 q2
    have h2 : pNf p m * c m ≤ 200 ^ m * 59 := Nat.mul_le_mul b q3
    have h3 : (aNf c p m * p m) * 200 = aNf c p m * 200 * p m := Nat.mul_right_comm _ _ _
    have h4 : 59 * (m + 1) * (200 ^ m * 200) = 59 * m * 200 ^ m * 200 + 200 ^ m * 59 * 200 := by
      rw [Nat.mul_add 59 m 1, Nat.add_mul, ← Nat.mul_assoc (59 * m), Nat.mul_one, ← Nat.mul_assoc 59, Nat.mul_comm 59 (200 ^ m)]
    rw [Nat.add_mul, h3, h4]
    exact Nat.add_le_add h1 (Nat.mul_le_mul_right _ h2)
def pF (S : Sv) (j : Nat) : Nat := cn (S (16 + j) 1)
def cF (S : Sv) (j : Nat) : Nat := cn (p_X3_costOf S (cn (S (16 + j) 0)))
theorem r_tm {g n t d j : Nat} {S M : Sv} (h : Rl g n t d S (M 1)) (hj : j < t) : S (16 + j) 1 = nI (pF S j) ∧ 0 < pF S j ∧ pF S j ≤ 200 ∧ p_X3_costOf S (cn (S (16 + j) 0)) = nI (cF S j) ∧ cF S j ≤ 59 ∧ M 1 (260 + 3 * j + 1) = nI (pF S j) ∧ p_X7_costOf M (cn (M 1 (260 + 3 * j))) = nI (cF S j) := by
  have hn := h.n12
  obtain ⟨b0, b1, b2, ⟨k, hk, ek⟩, q, hq, hq2, eq⟩ := h.2.2.2.1 j hj
  have hck : cn (S (16 + j) 0) = k := by rw [ek]; exact cn_nI (by omega)
  have hpF : pF S j = q := by unfold pF; rw [eq]; exact cn_nI (by omega)
  obtain ⟨e1, c, hc, e2⟩ := r_cost h hk
  have hcF : cF S j = c := by unfold cF; rw [hck, e2]; exact cn_nI (by omega)
  rw [hpF, hcF, b0, hck, b1, e1]
  exact ⟨eq, hq, hq2, e2, hc, eq, e2⟩
theorem load_c {g n t d : Nat} {S M : Sv} (h : Rl g n t d S (M 1)) : ∀ m, m ≤ t → itN (q_X3_loadOfTimers_7 S) m (1, 0) = (lN (pNf (pF S) m), lN (aNf (cF S) (pF S) m)) := by
  intro m
  induction m with
  | zero => intro _; rfl
  | succ m ih =>
    intro hm
    obtain ⟨e1, e2, e3, e4, e5, e6, e7⟩ := r_tm h (show m < t by omega)
    rw [itN_s, ih (by omega)]
    unfold q_X3_loadOfTimers_7
    try dsimp only
    rw [e4, e1, nI_l (by omega), nI_l (by omega), lN_mul, lN_mul, lN_mul, lN_add]
    rfl
theorem load_m {g n t d : Nat} {S M : Sv} (h : Rl g n t d S (M 1)) : ∀ m, m ≤ t → itN (q_X7_load_9 M) m (1, 0) = (lN (pNf (pF S) m), nI (wNf (cF S) (pF S) m)) := by
  intro m
  induction m with
  | zero => intro _; rfl
  | succ m ih =>
    intro hm
    obtain ⟨e1, e2, e3, e4, e5, e6, e7⟩ := r_tm h (show m < t by omega)
    rw [itN_s, ih (by omega)]
    unfold q_X7_load_9
    try dsimp only
    rw [e7, e6, nI_l (by omega), lN_mul, show (1000 : Int32) * nI (cF S m) = nI (1000 * cF S m) from pk_mul 1000 _, pk_div (by omega) e2 (by omega), nI_add]
    rfl
theorem load_r {g n t d P : Nat} {S M : Sv} (h : Rl g n t d S (M 1)) (hP : P < 2 ^ 63) : ∀ m, m ≤ t → itN (q_X7_load_82 M (lN P)) m 0 = lN (rNf (cF S) (pF S) P m) := by
  intro m
  induction m with
  | zero => intro _; rfl
  | succ m ih =>
    intro hm
    obtain ⟨e1, e2, e3, e4, e5, e6, e7⟩ := r_tm h (show m < t by omega)
    rw [itN_s, ih (by omega)]
    unfold q_X7_load_82
    try dsimp only
    rw [e7, e6, nI_l (show pF S m < 2 ^ 31 by omega), show (1000 : Int32) * nI (cF S m) = nI (1000 * cF S m) from pk_mul 1000 _, pk_rem (by omega) e2 (by omega), pk_lDiv hP e2 (by omega), nI_l (Nat.lt_of_lt_of_le (Nat.mod_lt _ e2) (by omega)), lN_mul, lN_add]
    rfl
theorem r_load {g n t d : Nat} {S M : Sv} (h : Rl g n t d S (M 1)) : p_X3_loadOfTimers S = p_X7_load M := by
  have ht := h.t6
  have hp : ∀ j, j < t → 0 < pF S j ∧ pF S j ≤ 200 := fun j hj => ⟨(r_tm h hj).2.1, (r_tm h hj).2.2.1⟩
  have hc : ∀ j, j < t → cF S j ≤ 59 := fun j hj => (r_tm h hj).2.2.2.2.1
  obtain ⟨hP0, hP1⟩ := pN_bd hp t (Nat.le_refl _)
  have hA := aN_bd hp hc t (Nat.le_refl _)
  have hpow : 200 ^ t ≤ 200 ^ 6 := Nat.pow_le_pow_right (by decide) ht
  have hP : pNf (pF S) t < 2 ^ 62 := Nat.lt_of_le_of_lt (Nat.le_trans hP1 hpow) (by decide)
  have hA2 : aNf (cF S) (pF S) t * 200 ≤ 59 * 6 * 200 ^ 6 := Nat.le_trans hA (Nat.mul_le_mul (by omega) hpow)
  have hA3 : 1000 * aNf (cF S) (pF S) t < 2 ^ 62 := by
    have : (59 * 6 * 200 ^ 6 : Nat) = 22656000000000000 := by decide
    rw [this] at hA2
    omega
  have hid := load_id (c := cF S) (P := pNf (pF S) t) (fun j hj => (hp j hj).1) t (Nat.le_refl _) 1 (Nat.mul_one _)
  rw [Nat.mul_one] at hid
  have hR : rNf (cF S) (pF S) (pNf (pF S) t) t < 2 ^ 62 := by omega
  unfold p_X3_loadOfTimers p_X7_load
  try dsimp only
  rw [h.cn5, h.cn9, load_c h t (Nat.le_refl _), load_m h t (Nat.le_refl _)]
  try dsimp only
  rw [load_r h (by omega) t (Nat.le_refl _)]
  generalize pNf (pF S) t = P at *
  generalize aNf (cF S) (pF S) t = A at *
  generalize wNf (cF S) (pF S) t = Wn at *
  generalize rNf (cF S) (pF S) P t = Rn at *
  unfold p_X6_dividedUp
  try dsimp only
  have h2 : ¬ lg_cmp (lN P) 0 ≤ 0 := by
    rw [lg_cmp_le]
    exact fun z => absurd ((pk_lLE (b := 0) (by omega) (by omega)).mp z) (by omega)
  have h3 : (1000 : Int64) * lN A + lN P - 1 = lN (1000 * A + P - 1) := by
    rw [show (1000 : Int64) * lN A = lN (1000 * A) from lN_mul 1000 A, lN_add]
    exact lN_sub (b := 1) (by omega)
  have h4 : lN Rn + lN P - 1 = lN (Rn + P - 1) := by
    rw [lN_add]
    exact lN_sub (b := 1) (by omega)
  rw [if_neg h2, h3, h4, pk_lDiv (by omega) hP0 (by omega), pk_lDiv (by omega) hP0 (by omega), lN_i, lN_i, nI_add, hid]
  congr 1
  rw [show Wn * P + Rn + P - 1 = Rn + P - 1 + P * Wn by rw [Nat.mul_comm Wn P]; omega, Nat.add_mul_div_left _ _ hP0, Nat.add_comm]
