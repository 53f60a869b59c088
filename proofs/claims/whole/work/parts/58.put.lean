/-! put, wipe: both sides. The first eight rows began as rows of laws/BITS.to-paste -/
theorem wb_tb (n : Nat) : (lN n).toBitVec = BitVec.ofNat 64 n := rfl
theorem wb_inj {a b : Int64} (h : a.toBitVec = b.toBitVec) : a = b := Int64.toBitVec_inj.mp h
theorem wb_tn {n : Nat} (h : n < 2 ^ 64) : (lN n).toBitVec.toNat = n := by rw [wb_tb, BitVec.toNat_ofNat, Nat.mod_eq_of_lt h]
theorem wb_of (x : Int64) : ∃ n, n < 2 ^ 64 ∧ x = lN n := ⟨x.toBitVec.toNat, x.toBitVec.isLt, wb_inj (by rw [wb_tb]; simp)⟩
theorem wb_cu : ∀ k, k < 64 → ((nI k).toInt64.toUInt64 &&& Int64.toUInt64 63) = UInt64.ofNat k := by decide +kernel
theorem wb_lt2 {a b : Nat} (h : a < b) : 2 ^ a < 2 ^ b := Nat.pow_lt_pow_right (by decide) h
theorem wb_shr {n k : Nat} (hn : n < 2 ^ 64) (hk : k < 64) : ((lN n).toUInt64 >>> ((nI k).toInt64.toUInt64 &&& Int64.toUInt64 63)).toInt64 = lN (n / 2 ^ k) := by
  rw [wb_cu k hk]
  apply wb_inj
  apply BitVec.eq_of_toNat_eq
  show ((lN n).toUInt64 >>> UInt64.ofNat k).toNat = (BitVec.ofNat 64 _).toNat
  have h1 : (UInt64.ofNat k).toNat = k := by
    show (BitVec.ofNat 64 k).toNat = k
    rw [BitVec.toNat_ofNat, Nat.mod_eq_of_lt (by omega)]
  have h2 : (lN n).toUInt64.toNat = n := wb_tn hn
  rw [UInt64.toNat_shiftRight, h1, h2, Nat.mod_eq_of_lt hk, Nat.shiftRight_eq_div_pow, BitVec.toNat_ofNat, Nat.mod_eq_of_lt (Nat.lt_of_le_of_lt (Nat.div_le_self _ _) hn)]
theorem wb_and {a b : Nat} (ha : a < 2 ^ 64) (hb : b < 2 ^ 64) : lN a &&& lN b = lN (a &&& b) := by
  apply wb_inj
  rw [Int64.toBitVec_and, wb_tb, wb_tb, wb_tb]
  apply BitVec.eq_of_toNat_eq
  rw [BitVec.toNat_and, BitVec.toNat_ofNat, BitVec.toNat_ofNat, BitVec.toNat_ofNat, Nat.mod_eq_of_lt ha, Nat.mod_eq_of_lt hb, Nat.mod_eq_of_lt (Nat.and_lt_two_pow _ hb)]
theorem wb_mask {n k : Nat} (hn : n < 2 ^ 64) (hk : k < 64) : lN n &&& lN (2 ^ k - 1) = lN (n % 2 ^ k) := by
  rw [wb_and hn (by have := wb_lt2 hk; omega), Nat.and_two_pow_sub_one_eq_mod]
theorem lN_eq0 {n : Nat} (h : n < 2 ^ 64) : (lg_cmp (lN n) 0 = 0) = (n = 0) := by
  rw [lg_cmp_eq]
  apply propext
  constructor
  · intro e
    have h1 := congrArg Int64.toBitVec e
    have h2 := congrArg BitVec.toNat h1
    rw [wb_tn h] at h2
    exact h2
  · intro e
    rw [e]
    rfl
/-- byte j of a long, and what stands from it on -/
theorem b255 {n : Nat} (h : n < 2 ^ 64) : ((lN n) &&& 255).toInt32 = nI (n % 256) ∧ ((lN n) &&& 255) = lN (n % 256) := by
  have e : (lN n) &&& 255 = lN (n % 256) := wb_mask (k := 8) h (by decide)
  rw [e, lN_i]
  exact ⟨rfl, rfl⟩
theorem sh_c {c j : Nat} (hc : c < 2 ^ 64) (hj : j < 8) : (((lN c).toUInt64 >>> ((8 * (nI j)).toInt64.toUInt64 &&& Int64.toUInt64 63)).toInt64) = lN (c / 256 ^ j) := by
  rw [show (8 : Int32) * nI j = nI (8 * j) from pk_mul 8 j, wb_shr hc (by omega), Nat.pow_mul]
theorem sh_m {n : Nat} (h : n < 2 ^ 64) : (((lN n).toUInt64 >>> ((8 : Int32).toInt64.toUInt64 &&& Int64.toUInt64 63)).toInt64) = lN (n / 256) := wb_shr (k := 8) h (by decide)
theorem dj_lt {c j : Nat} (hc : c < 2 ^ 64) : c / 256 ^ j < 2 ^ 64 := Nat.lt_of_le_of_lt (Nat.div_le_self _ _) hc
theorem dj_s {c j : Nat} : c / 256 ^ j / 256 = c / 256 ^ (j + 1) := by rw [Nat.div_div_eq_div_mul, Nat.pow_succ]
theorem d8 {c : Nat} (hc : c < 2 ^ 64) : c / 256 ^ 8 = 0 := Nat.div_eq_of_lt (by rw [show 256 ^ 8 = 2 ^ 64 by decide]; exact hc)
def PdR (L : Nat) (S M : Sv) : Prop := S 5 1 = nI L ∧ M 0 7 = nI L ∧ L ≤ 80 ∧ ∀ j, j < L → S 6 j = M 6 j
/-- what the reference does when n signs are good -/
def pW (M : Sv) (ch : Int64) (n : Nat) : Int32 × Sv :=
  let S6 : Sv := (itN (q_X7_put_85 M ch n) (0 + n) (M, (nI n) - 1, ch)).1
  let S11 : Sv := us S6 0 7 ((S6 0 7) + (nI n))
  ((S11 0 7 : Int32), S11)
theorem r_len {M : Sv} {c L : Nat} (hc : c < 2 ^ 64) (hM : M 0 7 = nI L) (hL : L ≤ 80) : ∀ fu j, j + fu = 8 → ∃ n, n ≤ 8 ∧ q_X2_lengthOf_2 (lN c) fu j = nI n ∧ q_X7_put_5 M (lN c) (fu + 1) j (lN (c / 256 ^ j)) = (if n = 0 then (-2, M) else if L + n ≤ 80 then pW M (lN c) n else (-4, M)) := by
  have tail : ∀ fu j, j ≤ 8 → c / 256 ^ j = 0 → q_X7_put_5 M (lN c) (fu + 1) j (lN (c / 256 ^ j)) = (if j = 0 then (-2, M) else if L + j ≤ 80 then pW M (lN c) j else (-4, M)) := by
    intro fu j hj h0
    unfold q_X7_put_5
    try dsimp only
    rw [h0, if_pos (by decide), if_pos (by decide), hM]
    by_cases hj0 : j = 0
    · rw [if_pos (show nI j = 0 by rw [hj0]; exact nI_0), if_pos hj0]
    · rw [if_neg (nI_ne0 (by omega) (by omega)), if_neg hj0, nI_add]
      by_cases hl : L + j ≤ 80
      · rw [if_pos (show nI (L + j) ≤ 80 from nI_le (b := 80) hl (by decide)), if_pos hl]
        rfl
      · rw [if_neg (show ¬ nI (L + j) ≤ 80 from nI_ge (a := 80) (by omega) (by omega)), if_neg hl]
  intro fu
  induction fu with
  | zero =>
    intro j hj
    have hj8 : j = 8 := by omega
    subst hj8
    exact ⟨8, by omega, rfl, tail 0 8 (by omega) (d8 hc)⟩
  | succ fu ih =>
    intro j hj
    by_cases h0 : c / 256 ^ j = 0
    · refine ⟨j, by omega, ?_, tail (fu + 1) j (by omega) h0⟩
      unfold q_X2_lengthOf_2
      try dsimp only
      rw [sh_c hc (by omega), h0, if_pos (by decide)]
    · have hlt := dj_lt (j := j) hc
      by_cases hw : p_X6_within (nI (c / 256 ^ j % 256)) 33 126 = 0
      · refine ⟨0, by omega, ?_, ?_⟩
        · unfold q_X2_lengthOf_2
          try dsimp only
          rw [sh_c hc (by omega), (b255 hlt).1, if_neg (by rw [lN_eq0 hlt]; exact h0), if_pos hw]
          rfl
        · unfold q_X7_put_5
          try dsimp only
          rw [(b255 hlt).1, (b255 hlt).2, in_w, hw, if_pos rfl]
          by_cases hz : c / 256 ^ j % 256 = 0
          · rw [if_pos (by rw [hz]; decide), if_neg (by rw [lN_eq0 hlt]; exact h0), if_pos rfl]
          · rw [if_neg (by rw [lN_eq0 (by omega)]; exact hz), if_pos rfl]
      · obtain ⟨n, hn, e1, e2⟩ := ih (j + 1) (by omega)
        refine ⟨n, hn, ?_, ?_⟩
        · unfold q_X2_lengthOf_2
          try dsimp only
          rw [sh_c hc (by omega), (b255 hlt).1, if_neg (by rw [lN_eq0 hlt]; exact h0), if_neg hw]
          exact e1
        · unfold q_X7_put_5
          try dsimp only
          rw [(b255 hlt).1, (b255 hlt).2, in_w, if_neg hw, sh_m hlt, dj_s, if_neg]
          · exact e2
          · rw [lN_eq0 (by omega)]
            intro z
            rw [z] at hw
            exact hw (by decide)
/-- the signs that are written -/
theorem ap_val {S S4 : Sv} {x1 : Int32} {c L n : Nat} (hc : c < 2 ^ 64) (hL : cn (S 5 1) = L) (hn : cn x1 = n) (hn8 : n ≤ 8) : ∀ m, m ≤ n → (∀ k, ¬ (L + n - m ≤ k ∧ k < L + n) → itN (q_X2_append_39 S (lN c) x1) m S4 6 k = S4 6 k) ∧ ∀ k, L + n - m ≤ k → k < L + n → itN (q_X2_append_39 S (lN c) x1) m S4 6 k = nI (c / 256 ^ (L + n - 1 - k) % 256) := by
  intro m
  induction m with
  | zero => intro _; exact ⟨fun k _ => rfl, fun k h1 h2 => by omega⟩
  | succ m ih =>
    intro hm
    rw [itN_s]
    obtain ⟨i1, i2⟩ := ih (by omega)
    generalize itN (q_X2_append_39 S (lN c) x1) m S4 = σ at i1 i2 ⊢
    unfold q_X2_append_39
    try dsimp only
    rw [hL, hn, sh_c hc (by omega), (b255 (dj_lt hc)).1, pk_char]
    have hb : (nI (c / 256 ^ m % 256)).toBitVec.toNat % 65536 = c / 256 ^ m % 256 := by
      rw [pk_tn (by omega)]
      omega
    rw [hb]
    refine ⟨fun k hk => ?_, fun k h1 h2 => ?_⟩
    · rw [us_k (by omega)]
      exact i1 k (by omega)
    · by_cases hk : k = L + n - 1 - m
      · rw [hk, us_at, show L + n - 1 - (L + n - 1 - m) = m by omega]
      · rw [us_k hk]
        exact i2 k (by omega) h2
theorem pt_val {M : Sv} {v0 : Int32} {c L n : Nat} (hc : c < 2 ^ 64) (hL : cn (M 0 7) = L) : ∀ m, m ≤ n → (itN (q_X7_put_85 M (lN c) n) m (M, v0, lN c)).2.2 = lN (c / 256 ^ m) ∧ (∀ k, ¬ (L + n - m ≤ k ∧ k < L + n) → (itN (q_X7_put_85 M (lN c) n) m (M, v0, lN c)).1 6 k = M 6 k) ∧ ∀ k, L + n - m ≤ k → k < L + n → (itN (q_X7_put_85 M (lN c) n) m (M, v0, lN c)).1 6 k = nI (c / 256 ^ (L + n - 1 - k) % 256) := by
  intro m
  induction m with
  | zero => intro _; exact ⟨by rw [Nat.pow_zero, Nat.div_one]; rfl, fun k _ => rfl, fun k h1 h2 => by omega⟩
  | succ m ih =>
    intro hm
    rw [itN_s]
    obtain ⟨i0, i1, i2⟩ := ih (by omega)
    generalize itN (q_X7_put_85 M (lN c) n) m (M, v0, lN c) = σ at i0 i1 i2 ⊢
    unfold q_X7_put_85
    try dsimp only
    rw [hL, i0, (b255 (dj_lt hc)).1, sh_m (dj_lt hc), dj_s]
    refine ⟨rfl, fun k hk => ?_, fun k h1 h2 => ?_⟩
    · rw [us_k (by omega)]
      exact i1 k (by omega)
    · by_cases hk : k = L + (n - m - 1)
      · rw [hk, us_at, show L + n - 1 - (L + (n - m - 1)) = m by omega]
      · rw [us_k hk]
        exact i2 k (by omega) h2
theorem r_put {L : Nat} {S M : Sv} {ch : Int64} (h : PdR L S M) : (p_X2_append S ch).1 = (p_X7_put M ch).1 ∧ (∃ L', PdR L' (p_X2_append S ch).2 (p_X7_put M ch).2) ∧ (∀ p k, ¬ p = 6 → ¬ (p = 5 ∧ k = 1) → (p_X2_append S ch).2 p k = S p k) ∧ (∀ p k, ¬ p = 6 → ¬ (p = 0 ∧ k = 7) → (p_X7_put M ch).2 p k = M p k) ∧
    ((∀ j, j < 80 → narrow .char (.int (S 6 j)) = .int (S 6 j)) → ∀ j, j < 80 → narrow .char (.int ((p_X2_append S ch).2 6 j)) = .int ((p_X2_append S ch).2 6 j)) := by
  obtain ⟨h1, h2, h3, h4⟩ := id h
  obtain ⟨c, hc, rfl⟩ := wb_of ch
  obtain ⟨n, hn, e1, e2⟩ := r_len (M := M) hc h2 h3 8 0 rfl
  have e2' : p_X7_put M (lN c) = (if n = 0 then (-2, M) else if L + n ≤ 80 then pW M (lN c) n else (-4, M)) := by
    rw [Nat.pow_zero, Nat.div_one] at e2
    exact e2
  have hcn : cn (nI n) = n := cn_nI (by omega)
  unfold p_X2_append p_X2_lengthOf
  try dsimp only
  rw [e1, e2', h1, hcn, nI_add]
  by_cases hn0 : n = 0
  · rw [if_pos (show nI n = 0 by rw [hn0]; exact nI_0), if_pos hn0]
    exact ⟨rfl, ⟨L, h⟩, fun _ _ _ _ => rfl, fun _ _ _ _ => rfl, fun q => q⟩
  · rw [if_neg (nI_ne0 (by omega) (by omega)), if_neg hn0]
    by_cases hl : L + n ≤ 80
    · rw [if_pos (show nI (L + n) ≤ 80 from nI_le (b := 80) hl (by decide)), if_pos hl]
      have hcL : cn (S 5 1) = L := by rw [h1]; exact cn_nI (by omega)
      have hcL2 : cn (M 0 7) = L := by rw [h2]; exact cn_nI (by omega)
      obtain ⟨a1, a2⟩ := ap_val (S := S) (S4 := us S 5 1 (nI (L + n))) (x1 := nI n) hc hcL hcn hn n (Nat.le_refl _)
      have a3 : ∀ p k, ¬ p = 6 → itN (q_X2_append_39 S (lN c) (nI n)) n (us S 5 1 (nI (L + n))) p k = us S 5 1 (nI (L + n)) p k := fun p k hp => ap_keep n p k hp
      obtain ⟨-, b1, b2⟩ := pt_val (M := M) (v0 := nI n - 1) (n := n) hc hcL2 n (Nat.le_refl _)
      have b3 : ∀ p k, ¬ p = 6 → (itN (q_X7_put_85 M (lN c) n) n (M, nI n - 1, lN c)).1 p k = M p k := fun p k hp => pt_keep n p k hp
      unfold pW
      try dsimp only
      rw [Nat.zero_add]
      generalize itN (q_X2_append_39 S (lN c) (nI n)) n (us S 5 1 (nI (L + n))) = S5 at a1 a2 a3 ⊢
      generalize (itN (q_X7_put_85 M (lN c) n) n (M, nI n - 1, lN c)).1 = M6 at b1 b2 b3 ⊢
      have s51 : S5 5 1 = nI (L + n) := by rw [a3 _ _ (by decide), us_at]
      have m07 : M6 0 7 + nI n = nI (L + n) := by rw [b3 _ _ (by decide), h2, nI_add]
      rw [us_at, m07]
      refine ⟨s51, ⟨L + n, s51, us_at _ _ _ _, hl, fun j hj => ?_⟩, fun p k p1 p2 => by rw [a3 _ _ p1, us_ne _ _ p2], fun p k p1 p2 => by rw [us_ne _ _ p2, b3 _ _ p1], fun q j hj => ?_⟩
      · rw [us_p (by decide)]
        by_cases hjL : j < L
        · rw [a1 _ (by omega), b1 _ (by omega), us_p (by decide)]
          exact h4 j hjL
        · rw [a2 _ (by omega) hj, b2 _ (by omega) hj]
      · by_cases hjL : L ≤ j ∧ j < L + n
        · rw [a2 _ (by omega) (by omega)]
          exact (pk_charN (by omega)).1
        · rw [a1 _ (by omega), us_p (by decide)]
          exact q j hj
    · rw [if_neg (show ¬ nI (L + n) ≤ 80 from nI_ge (a := 80) (by omega) (by omega)), if_neg hl]
      exact ⟨rfl, ⟨L, h⟩, fun _ _ _ _ => rfl, fun _ _ _ _ => rfl, fun q => q⟩
theorem r_wipe {L : Nat} {S M : Sv} (h : PdR L S M) : (p_X2_clear S).1 = (p_X7_wipe M).1 ∧ PdR 0 (p_X2_clear S).2 (p_X7_wipe M).2 := by
  obtain ⟨h1, h2, -, -⟩ := h
  unfold p_X2_clear p_X7_wipe
  try dsimp only
  exact ⟨h1.trans h2.symm, us_at _ _ _ _, us_at _ _ _ _, by omega, fun j hj => by omega⟩
