/-! of the class alone: rows of the claim whole that speak of no reference -/
theorem us_p {S : Sv} {p k p' k' : Nat} {v : Int32} (h : p' ≠ p) : us S p k v p' k' = S p' k' := us_ne _ _ (fun q => h q.1)
theorem us_k {S : Sv} {p k p' k' : Nat} {v : Int32} (h : k' ≠ k) : us S p k v p' k' = S p' k' := us_ne _ _ (fun q => h q.2)
theorem cn_nI {n : Nat} (h : n < 2 ^ 31) : cn (nI n) = n := nI_clamp h
theorem nI_inj {a b : Nat} (h : nI a = nI b) (ha : a < 2 ^ 31 := by omega) (hb : b < 2 ^ 31 := by omega) : a = b := (nI_eq ha hb).mp h
theorem nI_n6 {k : Nat} (h : k < 2 ^ 31) : ¬ nI k = (-6) := fun e => by
  have h1 := nI_pos h
  rw [e] at h1
  exact h1 (by decide)
theorem n6_nI {k : Nat} (h : k < 2 ^ 31) : ¬ (-6) = nI k := fun e => nI_n6 h e.symm
theorem bn_to {x : Int32} {b : Nat} (h : Bn x b) : ∃ k, k ≤ b ∧ x = nI k := ⟨cn x, h.2, h.1⟩
theorem bn_of {x : Int32} {b k : Nat} (h : x = nI k) (hk : k ≤ b) (hb : b < 2 ^ 31) : Bn x b := by rw [h]; exact bnI hk (by omega)
theorem bn_mono {x : Int32} {b c : Nat} (h : Bn x b) (hc : b ≤ c) : Bn x c := ⟨h.1, Nat.le_trans h.2 hc⟩
theorem bn_ge0 {x : Int32} {b : Nat} (h : Bn x b) (hb : b < 2 ^ 31) : 0 ≤ x := by
  have h2 := h.2
  rw [h.1]
  exact nI_pos' (by omega)
theorem bn_z {b : Nat} : Bn 0 b := ⟨by decide, by rw [show cn 0 = 0 by decide]; exact Nat.zero_le _⟩
def Z1 (x : Int32) : Prop := x = 0 ∨ x = 1
theorem z1_0 : Z1 0 := Or.inl rfl
theorem z1_1 : Z1 1 := Or.inr rfl
theorem Z1.c {x : Int32} (h : Z1 x) : (if x = 1 then (1 : Int32) else 0) = x := by rcases h with rfl | rfl <;> rfl
theorem Z1.d {x : Int32} (h : Z1 x) : (if x = 0 then (0 : Int32) else 1) = x := by rcases h with rfl | rfl <;> rfl
def PlI (d : Nat) (S : Sv) (i : Nat) : Prop := S (3 + i) 7 = (-6) ∨ ∃ k, k < d ∧ S (3 + i) 7 = nI k ∧ S (23 + k) 0 = nI i
theorem pl_neg {x : Int32} (h : x = (-6) ∨ ∃ k, k < 8 ∧ x = nI k) : (0 ≤ x ↔ ¬ x = (-6)) := by
  rcases h with rfl | ⟨k, hk, rfl⟩
  · decide
  · exact ⟨fun _ => nI_n6 (by omega), fun _ => nI_pos' (by omega)⟩
theorem ite_min {a b : Int32} : (if a ≤ b then a else b) = (if b ≤ a then b else a) := by
  by_cases h1 : a ≤ b <;> by_cases h2 : b ≤ a <;> simp [h1, h2]
  · exact Int32.le_antisymm h1 h2
  · exact absurd (Int32.le_total a b) (by simp [h1, h2])
theorem mayB {S : Sv} {j : Nat} : (p_X1_mayBegin S j = 0) = ¬ (¬ S (3 + j) 5 = 0 ∧ S (3 + j) 4 = 0 ∧ S (3 + j) 7 = (-6)) := by
  unfold p_X1_mayBegin
  by_cases h1 : S (3 + j) 5 = 0 <;> by_cases h2 : S (3 + j) 4 = 0 <;> by_cases h3 : S (3 + j) 7 = (-6) <;> simp [h1, h2, h3]
theorem en_f {S : Sv} {i : Nat} {pl : Int32} : p_X1_enterNest S i pl (3 + i) 0 = S (3 + i) 0 ∧ p_X1_enterNest S i pl (3 + i) 1 = S (3 + i) 1 ∧ p_X1_enterNest S i pl (3 + i) 2 = S (3 + i) 2 ∧ p_X1_enterNest S i pl (3 + i) 3 = S (3 + i) 3 ∧ p_X1_enterNest S i pl (3 + i) 4 = S (3 + i) 4 ∧ p_X1_enterNest S i pl (3 + i) 5 = 0 ∧ p_X1_enterNest S i pl (3 + i) 7 = pl ∧
    p_X1_enterNest S i pl (3 + i) 8 = S (3 + i) 8 ∧ p_X1_enterNest S i pl (3 + i) 9 = S (3 + i) 9 ∧ p_X1_enterNest S i pl (3 + i) 10 = S (3 + i) 10 ∧ p_X1_enterNest S i pl (3 + i) 11 = S (3 + i) 11 + 1 ∧ p_X1_enterNest S i pl (3 + i) 12 = S (3 + i) 12 ∧
    p_X1_enterNest S i pl (3 + i) 13 = (if S (3 + i) 6 ≤ S (3 + i) 13 then S (3 + i) 13 else S (3 + i) 6) ∧ p_X1_enterNest S i pl (3 + i) 14 = S (3 + i) 14 + S (3 + i) 6 ∧ p_X1_enterNest S i pl (3 + i) 15 = S (3 + i) 15 + (if S (3 + i) 2 ≤ 0 then 0 else if S (3 + i) 6 ≤ S (3 + i) 2 then 0 else 1) := by
  unfold p_X1_enterNest
  by_cases h1 : S (3 + i) 6 ≤ S (3 + i) 13 <;> by_cases h2 : S (3 + i) 2 ≤ 0 <;> by_cases h3 : S (3 + i) 6 ≤ S (3 + i) 2 <;>
    simp (disch := omega) [us_at, us_p, us_k, h1, h2, h3]
def cb (S : Sv) (i d : Nat) (rk : Int32) : Sv :=
  let S8 : Sv := (if (S 0 7) ≤ 0 then S else us S 0 10 ((S 0 10) + 1))
  let S10 : Sv := us S8 (23 + d) 0 (nI i)
  let S11 : Sv := us S10 (23 + d) 1 rk
  let S13 : Sv := us S11 (23 + d) 2 (p_X3_costOf S11 i)
  let S14 : Sv := us S13 (23 + d) 3 (S13 0 0)
  let S15 : Sv := p_X1_enterNest S14 i (S14 0 7)
  let S16 : Sv := us S15 0 7 ((S15 0 7) + 1)
  (if (S16 0 7) ≤ (S16 0 9) then S16 else us S16 0 9 (S16 0 7))
def cb1 (S : Sv) (i d : Nat) (rk : Int32) : Sv :=
  let S8 : Sv := (if (S 0 7) ≤ 0 then S else us S 0 10 ((S 0 10) + 1))
  let S10 : Sv := us S8 (23 + d) 0 (nI i)
  let S11 : Sv := us S10 (23 + d) 1 rk
  let S13 : Sv := us S11 (23 + d) 2 (p_X3_costOf S11 i)
  us S13 (23 + d) 3 (S13 0 0)
def cb2 (S15 : Sv) : Sv :=
  let S16 : Sv := us S15 0 7 ((S15 0 7) + 1)
  (if (S16 0 7) ≤ (S16 0 9) then S16 else us S16 0 9 (S16 0 7))
theorem cb_12 {S : Sv} {i d : Nat} {rk : Int32} : cb S i d rk = cb2 (p_X1_enterNest (cb1 S i d rk) i (cb1 S i d rk 0 7)) := rfl
theorem cb1_o {S : Sv} {i d p k : Nat} {rk : Int32} (h : ¬ p = 23 + d) (h2 : ¬ (p = 0 ∧ k = 10)) : cb1 S i d rk p k = S p k := by
  unfold cb1
  try dsimp only
  rw [us_p h, us_p h, us_p h, us_p h]
  split
  · rfl
  · exact us_ne _ _ h2
theorem cb1_f {S : Sv} {i d : Nat} {rk : Int32} : cb1 S i d rk (23 + d) 0 = nI i ∧ cb1 S i d rk (23 + d) 1 = rk ∧ cb1 S i d rk (23 + d) 3 = S 0 0 ∧ cb1 S i d rk 0 10 = (if S 0 7 ≤ 0 then S 0 10 else S 0 10 + 1) := by
  unfold cb1
  by_cases h1 : S 0 7 ≤ 0 <;> simp (disch := omega) [us_at, us_p, us_k, h1]
theorem cb1_2 {S : Sv} {i d : Nat} {rk : Int32} (hi : i < 12) : cb1 S i d rk (23 + d) 2 = S (3 + i) 1 + S 1 4 := by
  unfold cb1 p_X3_costOf
  by_cases h1 : S 0 7 ≤ 0 <;> simp (disch := omega) [us_at, us_p, us_k, h1]
theorem cb2_o {S : Sv} {p k : Nat} (h : ¬ (p = 0 ∧ (k = 7 ∨ k = 9))) : cb2 S p k = S p k := by
  unfold cb2
  try dsimp only
  split
  · exact us_ne _ _ (by omega)
  · rw [us_ne _ _ (by omega), us_ne _ _ (by omega)]
theorem cb2_f {S : Sv} : cb2 S 0 7 = S 0 7 + 1 ∧ cb2 S 0 9 = (if S 0 7 + 1 ≤ S 0 9 then S 0 9 else S 0 7 + 1) := by
  unfold cb2
  by_cases h1 : S 0 7 + 1 ≤ S 0 9 <;> simp (disch := omega) [us_at, us_p, us_k, h1]
theorem cb_o {S : Sv} {i d p k : Nat} {rk : Int32} (h0 : ¬ (p = 0 ∧ (k = 7 ∨ k = 9 ∨ k = 10))) (h1 : ¬ p = 3 + i) (h2 : ¬ p = 23 + d) : cb S i d rk p k = S p k := by
  rw [cb_12, cb2_o (by omega), fr_enterNest h1, cb1_o h2 (by omega)]
theorem cb_0 {S : Sv} {i d : Nat} {rk : Int32} : cb S i d rk 0 7 = S 0 7 + 1 ∧ cb S i d rk 0 9 = (if S 0 7 + 1 ≤ S 0 9 then S 0 9 else S 0 7 + 1) ∧ cb S i d rk 0 10 = (if S 0 7 ≤ 0 then S 0 10 else S 0 10 + 1) := by
  rw [cb_12, cb2_f.1, cb2_f.2, cb2_o (by omega), fr_enterNest (by omega), fr_enterNest (by omega), fr_enterNest (by omega), cb1_o (by omega) (by omega), cb1_o (by omega) (by omega), cb1_f.2.2.2]
  exact ⟨rfl, rfl, rfl⟩
theorem cb_n {S : Sv} {i d : Nat} {rk : Int32} (hi : i < 12) : cb S i d rk (23 + d) 0 = nI i ∧ cb S i d rk (23 + d) 1 = rk ∧ cb S i d rk (23 + d) 2 = S (3 + i) 1 + S 1 4 ∧ cb S i d rk (23 + d) 3 = S 0 0 := by
  rw [cb_12, cb2_o (by omega), cb2_o (by omega), cb2_o (by omega), cb2_o (by omega), fr_enterNest (by omega), fr_enterNest (by omega), fr_enterNest (by omega), fr_enterNest (by omega), cb1_2 hi, cb1_f.1, cb1_f.2.1, cb1_f.2.2.1]
  exact ⟨rfl, rfl, rfl, rfl⟩
theorem cb_l {S : Sv} {i d : Nat} {rk : Int32} (hi : i < 12) : cb S i d rk (3 + i) 0 = S (3 + i) 0 ∧ cb S i d rk (3 + i) 1 = S (3 + i) 1 ∧ cb S i d rk (3 + i) 2 = S (3 + i) 2 ∧ cb S i d rk (3 + i) 3 = S (3 + i) 3 ∧ cb S i d rk (3 + i) 4 = S (3 + i) 4 ∧ cb S i d rk (3 + i) 5 = 0 ∧ cb S i d rk (3 + i) 7 = S 0 7 ∧
    cb S i d rk (3 + i) 8 = S (3 + i) 8 ∧ cb S i d rk (3 + i) 9 = S (3 + i) 9 ∧ cb S i d rk (3 + i) 10 = S (3 + i) 10 ∧ cb S i d rk (3 + i) 11 = S (3 + i) 11 + 1 ∧ cb S i d rk (3 + i) 12 = S (3 + i) 12 ∧
    cb S i d rk (3 + i) 13 = (if S (3 + i) 6 ≤ S (3 + i) 13 then S (3 + i) 13 else S (3 + i) 6) ∧ cb S i d rk (3 + i) 14 = S (3 + i) 14 + S (3 + i) 6 ∧ cb S i d rk (3 + i) 15 = S (3 + i) 15 + (if S (3 + i) 2 ≤ 0 then 0 else if S (3 + i) 6 ≤ S (3 + i) 2 then 0 else 1) := by
  have h0 : ∀ k, cb1 S i d rk (3 + i) k = S (3 + i) k := fun k => by
    unfold cb1
    try dsimp only
    by_cases hd : 3 + i = 23 + d
    · omega
    · rw [us_p hd, us_p hd, us_p hd, us_p hd]
      split
      · rfl
      · exact us_p (by omega)
  have h1 := @en_f (cb1 S i d rk) i (cb1 S i d rk 0 7)
  rw [cb1_o (by omega) (by omega)] at h1
  simp only [h0] at h1
  rw [cb_12]
  have h2 : ∀ k, cb2 (p_X1_enterNest (cb1 S i d rk) i (cb1 S i d rk 0 7)) (3 + i) k = p_X1_enterNest (cb1 S i d rk) i (S 0 7) (3 + i) k := fun k => by
    rw [cb2_o (by omega), cb1_o (by omega) (by omega)]
  simp only [h2]
  exact h1
theorem cb_eq {S : Sv} {i d : Nat} (hf : p_X3_foundLine S = nI i) (hi : i < 12) (hd : cn (S 0 7) = d) (ht : ¬ p_X3_nestTakes S (p_X1_presentRank S i (S 1 0) (S 1 1)) = 0) : p_X3_beginFoundLine S = (nI i, cb S i d (p_X1_presentRank S i (S 1 0) (S 1 1))) := by
  unfold p_X3_beginFoundLine
  try dsimp only
  rw [hf, if_neg (nI_n6 (by omega)), cn_nI (show i < 2 ^ 31 by omega), if_neg ht, hd]
  rfl
theorem pos_cost {a b : Int32} (ha : Bn a 50) (ha0 : 0 < cn a) (hb : 0 ≤ b) (hb9 : b ≤ 9) : 0 < a + b := by
  obtain ⟨w, hw, ew⟩ := nI_of2 (M := 9) (n := 9) (by decide) (Int32.not_lt.mpr hb) hb9
  have h2 := ha.2
  rw [ha.1, ew, nI_add, ← nI_0]
  exact nI_lt (by omega) (by omega)
theorem bn_suc {x : Int32} {g : Nat} (h : Bn x g) (hg : g < 2 ^ 30) : Bn (x + 1) (g + 1) := by
  have h2 := h.2
  have e := ia h.1 (lI 1)
  exact bn_of e (by omega) (by omega)
theorem ite_add {c : Prop} {h : Decidable c} {a b x : Int32} : x + (@ite _ c h a b) = @ite _ c h (x + a) (x + b) := by
  split <;> rfl
theorem and_dec : ∀ q, q < 16 → ∃ r, r ≤ 15 ∧ nI q &&& (nI q - 1) = nI r := by decide +kernel
theorem bn_and {x : Int32} (h : Bn x 15) : Bn (x &&& (x - 1)) 15 := by
  obtain ⟨q, hq, e⟩ := bn_to h
  obtain ⟨r, hr, e2⟩ := and_dec q (by omega)
  rw [e, e2]
  exact bnI hr (by omega)
theorem lt_dec {x : Int32} (h : 0 < x) : (0 < x - 1 ∧ ¬ x - 1 = 0) ∨ (¬ 0 < x - 1 ∧ x - 1 = 0) := by
  obtain ⟨q, hq, e⟩ := nI_of (x := x) (fun z => Int32.lt_irrefl (Int32.lt_trans h z))
  have h0 : 0 < q := Nat.pos_of_ne_zero fun z => by rw [e, z, nI_0] at h; exact Int32.lt_irrefl h
  have e1 : x - 1 = nI (q - 1) := isb e (lI 1) h0
  rw [e1, ← nI_0]
  by_cases hq1 : q = 1
  · right
    rw [hq1]
    exact ⟨nI_nlt (Nat.le_refl _) (by omega), rfl⟩
  · left
    exact ⟨nI_lt (by omega) (by omega), fun z => by have := nI_inj z; omega⟩
theorem sv_c {S : Sv} {e : Nat} (h : S 0 7 = nI (e + 1)) (he : e < 8) : p_X3_serveTop S = (if 0 < S (23 + e) 2 - 1 then us (us S 0 8 (S 0 8 + 1)) (23 + e) 2 (S (23 + e) 2 - 1) else p_X1_leaveNest (us (us (us S 0 8 (S 0 8 + 1)) (23 + e) 2 (S (23 + e) 2 - 1)) 0 7 (S 0 7 - 1)) (cn (S (23 + e) 0))) := by
  have hc : cn (S 0 7) - 1 = e := by rw [h, cn_nI (by omega)]; omega
  unfold p_X3_serveTop
  rw [if_neg (by rw [h]; exact nI_ne0 (by omega) (by omega)), hc]
  try dsimp only
  simp (disch := omega) only [us_at, us_p, us_k]
theorem leave_c {B : Sv} {i : Nat} : p_X1_leaveNest B i = (if B (3 + i) 3 = 0 then us (us B (3 + i) 7 (-6)) (3 + i) 12 (B (3 + i) 12 + 1) else p_X1_followDevices (us (us (us B (3 + i) 7 (-6)) (3 + i) 12 (B (3 + i) 12 + 1)) (3 + i) 8 (B (3 + i) 8 &&& (B (3 + i) 8 - 1))) i) := by
  unfold p_X1_leaveNest
  try dsimp only
  simp (disch := omega) only [us_k]
theorem within_ne {a b d : Int32} (h : ¬ p_X6_within a b d = 0) : b ≤ a ∧ a ≤ d := by
  unfold p_X6_within at h
  try dsimp only at h
  by_cases h1 : a < b
  · rw [if_pos h1] at h; exact absurd rfl h
  · rw [if_neg h1] at h
    by_cases h2 : d < a
    · rw [if_pos h2] at h; exact absurd rfl h
    · exact ⟨Int32.not_lt.mp h1, Int32.not_lt.mp h2⟩
theorem within_pos {a b d : Int32} (h1 : b ≤ a) (h2 : a ≤ d) : p_X6_within a b d = 1 := by
  unfold p_X6_within
  try dsimp only
  rw [if_neg (Int32.not_lt.mpr h1), if_neg (Int32.not_lt.mpr h2)]
theorem within_idx {x m : Int32} {n : Nat} (hm : m = nI n) (hn : n < 2 ^ 31) (h : ¬ p_X6_within x 0 m = 0) : ∃ k, k ≤ n ∧ x = nI k := by
  obtain ⟨h1, h2⟩ := within_ne h
  exact nI_of2 (M := m) (by rw [hm]; exact nI_toInt hn) (Int32.not_lt.mpr h1) h2
theorem within_lt {x m : Int32} {n : Nat} (hm : m = nI n) (hn : n < 2 ^ 31) (h : ¬ p_X6_within x 0 (m - 1) = 0) : ∃ k, k < n ∧ x = nI k := by
  cases n with
  | zero =>
    obtain ⟨h1, h2⟩ := within_ne h
    rw [hm, nI_0] at h2
    exact absurd (Int32.le_trans h1 h2) (by decide)
  | succ n =>
    obtain ⟨k, hk, e⟩ := within_idx (by rw [hm]; exact nI_pred n) (by omega) h
    exact ⟨k, by omega, e⟩
theorem z1_of {x : Int32} (h : ¬ p_X6_within x 0 1 = 0) : Z1 x := by
  obtain ⟨k, hk, e⟩ := within_idx (n := 1) rfl (by omega) h
  match k, hk, e with
  | 0, _, e => exact Or.inl e
  | 1, _, e => exact Or.inr e
theorem bn_of_w {x : Int32} {m : Int32} {n : Nat} (hm : m = nI n) (hn : n < 2 ^ 31) (h : ¬ p_X6_within x 0 m = 0) : Bn x n := by
  obtain ⟨k, hk, e⟩ := within_idx hm hn h
  exact bn_of e hk hn
theorem shape_ne {a b d : Int32} (h : ¬ p_X3_isShape a b d = 0) : Bn a 15 ∧ Bn b 50 ∧ 0 < cn b := by
  unfold p_X3_isShape at h
  try dsimp only at h
  by_cases h1 : p_X6_within a 0 15 = 0
  · rw [if_pos h1] at h; exact absurd rfl h
  · rw [if_neg h1] at h
    by_cases h2 : p_X6_within b 1 50 = 0
    · rw [if_pos h2] at h; exact absurd rfl h
    · obtain ⟨q1, q2⟩ := within_ne h2
      have q0 : (0 : Int32) ≤ b := Int32.le_trans (by decide) q1
      obtain ⟨k, hk, e⟩ := nI_of2 (M := 50) (n := 50) (by decide) (Int32.not_lt.mpr q0) q2
      refine ⟨bn_of_w rfl (by decide) h1, bn_of e hk (by decide), ?_⟩
      rw [e, cn_nI (by omega)]
      refine Nat.pos_of_ne_zero fun z => ?_
      rw [e, z] at q1
      exact absurd q1 (by decide)
theorem z1_ge {x : Int32} (h : Z1 x) : 0 ≤ x := by rcases h with rfl | rfl <;> decide
theorem lst_ge : ∀ k, k < 7 → 0 ≤ vLst k := by decide +kernel
theorem dev_up : ∀ v, v < 16 → ∀ k, k < 4 → ∃ r, r ≤ 15 ∧ nI v ||| ((1 : Int32) <<< ((nI k) &&& 31)) = nI r ∧ (nI v &&& (((1 : Int32) <<< (nI k &&& 31)) ^^^ (-1))) ||| ((1 : Int32) <<< (nI k &&& 31)) = nI r := by decide +kernel
theorem dev_dn : ∀ v, v < 16 → ∀ k, k < 4 → ∃ r, r ≤ 15 ∧ nI v &&& (((1 : Int32) <<< ((nI k) &&& 31)) ^^^ (-1)) = nI r ∧ (nI v &&& (((1 : Int32) <<< (nI k &&& 31)) ^^^ (-1))) ||| ((0 : Int32) <<< (nI k &&& 31)) = nI r := by decide +kernel
theorem cs_f {S : Sv} {i k2 : Nat} (h : ¬ k2 = i) : ∀ f, f < 3 → p_X5_copyFromS S i k2 (16 + i) f = S (16 + k2) f := by
  intro f hf
  unfold p_X5_copyFromS
  try dsimp only
  match f, hf with
  | 0, _ => simp (disch := omega) only [us_at, us_p, us_k]
  | 1, _ => simp (disch := omega) only [us_at, us_p, us_k]
  | 2, _ => simp (disch := omega) only [us_at, us_p, us_k]
theorem rm_val {S : Sv} {tm : Int32} {c : Nat} (hc : cn tm = c) : ∀ m, (∀ p k, ¬ (16 + c ≤ p ∧ p < 16 + c + m) → itN (q_X3_removeTimer_12 S tm) m S p k = S p k) ∧ ∀ q, c ≤ q → q < c + m → ∀ f, f < 3 → itN (q_X3_removeTimer_12 S tm) m S (16 + q) f = S (16 + (q + 1)) f := by
  intro m
  induction m with
  | zero => exact ⟨fun p k _ => rfl, fun q h1 h2 => by omega⟩
  | succ m ih =>
    rw [itN_s]
    obtain ⟨i1, i2⟩ := ih
    generalize itN (q_X3_removeTimer_12 S tm) m S = σ at i1 i2 ⊢
    unfold q_X3_removeTimer_12
    try dsimp only
    rw [hc]
    refine ⟨fun p k hp => ?_, fun q h1 h2 f hf => ?_⟩
    · rw [fr_copyS (by omega)]
      exact i1 p k (by omega)
    · by_cases hq : q = c + m
      · rw [hq, cs_f (by omega) f hf]
        exact i1 _ _ (by omega)
      · rw [fr_copyS (by omega)]
        exact i2 q h1 (by omega) f hf
theorem cl_0 : cn 0 = 0 := by decide
theorem cl_1 : cn 1 = 1 := by decide
theorem cl_2 : cn 2 = 2 := by decide
theorem cl_3 : cn 3 = 3 := by decide
theorem cl_4 : cn 4 = 4 := by decide
theorem cl_5 : cn 5 = 5 := by decide
theorem cl_6 : cn 6 = 6 := by decide
theorem cl_7 : cn 7 = 7 := by decide
theorem cl_8 : cn 8 = 8 := by decide
theorem cl_9 : cn 9 = 9 := by decide
theorem cl_10 : cn 10 = 10 := by decide
theorem cl_11 : cn 11 = 11 := by decide
theorem cl_12 : cn 12 = 12 := by decide
theorem cl_13 : cn 13 = 13 := by decide
theorem cl_14 : cn 14 = 14 := by decide
theorem within_no {x a b : Int32} {n m : Nat} (ha : a = nI n) (hb : b = nI m) (hn : n < 2 ^ 31) (hm : m < 2 ^ 31) (h : ∀ k, n ≤ k → k ≤ m → ¬ x = nI k) : p_X6_within x a b = 0 := by
  refine Classical.byContradiction fun q => ?_
  obtain ⟨h1, h2⟩ := within_ne q
  rw [ha] at h1
  rw [hb] at h2
  have h0 : (0 : Int32) ≤ x := Int32.le_trans (nI_pos' hn) h1
  obtain ⟨k, hk, e⟩ := nI_of2 (M := nI m) (n := m) (nI_toInt hm) (Int32.not_lt.mpr h0) h2
  rw [e] at h1
  exact h k ((nI_leI hn (by omega)).mp h1) hk e
theorem ofLine_out {S M : Sv} {i : Nat} {wh : Int32} (h : ∀ k, k ≤ 16 → ¬ wh = nI k) : p_X1_number S i wh (S 1 0) (S 1 1) = (-2) := by
  unfold p_X1_number
  try dsimp only
  rw [if_neg (show ¬ wh = 0 from h 0 (by omega)), if_neg (show ¬ wh = 1 from h 1 (by omega)), if_neg (show ¬ wh = 2 from h 2 (by omega)), if_neg (show ¬ wh = 3 from h 3 (by omega)), if_neg (show ¬ wh = 4 from h 4 (by omega)), if_neg (show ¬ wh = 5 from h 5 (by omega)), if_neg (show ¬ wh = 6 from h 6 (by omega)), if_neg (show ¬ wh = 7 from h 7 (by omega)), if_neg (show ¬ wh = 8 from h 8 (by omega)), if_neg (show ¬ wh = 9 from h 9 (by omega)), if_neg (show ¬ wh = 10 from h 10 (by omega)), if_neg (show ¬ wh = 11 from h 11 (by omega)), if_neg (show ¬ wh = 12 from h 12 (by omega)), if_neg (show ¬ wh = 13 from h 13 (by omega)), if_neg (show ¬ wh = 14 from h 14 (by omega)), if_neg (show ¬ wh = 15 from h 15 (by omega)), if_neg (show ¬ wh = 16 from h 16 (by omega))]
theorem itN_congr {α : Type} {f f' : Nat → α → α} {a : α} : ∀ m, (∀ j, j < m → ∀ σ, f j σ = f' j σ) → itN f m a = itN f' m a := by
  intro m
  induction m with
  | zero => intro _; rfl
  | succ m ih =>
    intro h
    rw [itN_s, itN_s, ih (fun j hj => h j (by omega)), h m (by omega)]
theorem all_out {S : Sv} {wh : Int32} (h : ∀ k, k ≤ 9 → ¬ wh = nI k) (h2 : p_X6_within wh 12 18 = 0) : p_X3_numberOfAll S wh = (-2) := by
  unfold p_X3_numberOfAll
  try dsimp only
  rw [if_neg (show ¬ wh = 0 from h 0 (by omega)), if_neg (show ¬ wh = 1 from h 1 (by omega)), if_neg (show ¬ wh = 2 from h 2 (by omega)), if_neg (show ¬ wh = 3 from h 3 (by omega)), if_neg (show ¬ wh = 4 from h 4 (by omega)), if_neg (show ¬ wh = 5 from h 5 (by omega)), if_neg (show ¬ wh = 6 from h 6 (by omega)), if_neg (show ¬ wh = 7 from h 7 (by omega)), if_neg (show ¬ wh = 8 from h 8 (by omega)), if_neg (show ¬ wh = 9 from h 9 (by omega))]
  by_cases h1 : wh < 12
  · rw [if_pos h1]
  · rw [if_neg h1]
    have h3 : ¬ wh ≤ 18 := fun q => by
      rw [within_pos (Int32.not_lt.mp h1) q] at h2
      exact absurd h2 (by decide)
    have h4 : (7 : Int32) ≤ wh - 12 := by
      obtain ⟨k, hk, e⟩ := nI_of (x := wh) (fun z => h1 (Int32.lt_of_lt_of_le z (by decide)))
      have hk12 : 12 ≤ k := Nat.le_of_not_lt fun z => h1 (by rw [e]; exact nI_lt (b := 12) z (by decide))
      have hk18 : 18 < k := Nat.lt_of_not_le fun z => h3 (by rw [e]; exact nI_le (b := 18) z (by decide))
      rw [isb e (lI 12) hk12]
      exact nI_le (a := 7) (by omega) (by omega)
    rw [if_pos h4]
def Zb (S : Sv) : Prop := ∀ i, i < 12 → Z1 (S (3 + i) 3) ∧ Z1 (S (3 + i) 4) ∧ Z1 (S (3 + i) 5)
theorem ws_of {S : Sv} (h1 : Wf S) (h2 : Zb S) : Ws S := ⟨h1, h2⟩
theorem zb_us {S : Sv} {p k : Nat} {v : Int32} (h : Zb S) (hk : (¬ k = 3 ∧ ¬ k = 4 ∧ ¬ k = 5) ∨ p < 3 ∨ 15 ≤ p) : Zb (us S p k v) := by
  intro i hi
  obtain ⟨a, b, c⟩ := h i hi
  rw [us_ne _ _ (by omega), us_ne _ _ (by omega), us_ne _ _ (by omega)]
  exact ⟨a, b, c⟩
theorem zb_v {S : Sv} {p k : Nat} {v : Int32} (h : Zb S) (hv : Z1 v) : Zb (us S p k v) := by
  intro i hi
  obtain ⟨a, b, c⟩ := h i hi
  unfold us
  refine ⟨?_, ?_, ?_⟩ <;> split <;> assumption
theorem z1_ite {c : Prop} {h : Decidable c} {a b : Int32} (ha : Z1 a) (hb : Z1 b) : Z1 (@ite _ c h a b) := by split <;> assumption
theorem zb_ite {c : Prop} {h : Decidable c} {a b : Sv} (ha : Zb a) (hb : Zb b) : Zb (@ite _ c h a b) := by split <;> assumption
theorem zb_follow {S : Sv} {i : Nat} (h : Zb S) : Zb (p_X1_followDevices S i) := by
  unfold p_X1_followDevices
  try dsimp only
  exact zb_v (zb_ite h (zb_ite (zb_us h (Or.inl (by omega))) h)) (z1_ite z1_0 (z1_ite z1_1 z1_0))
theorem zb_take {S : Sv} {i : Nat} {b : Int32} (h : Zb S) : Zb (p_X1_takeEdge S i b).2 := by
  have h1 : Zb (us S (3 + i) 9 (S (3 + i) 9 + 1)) := zb_us h (Or.inl (by omega))
  unfold p_X1_takeEdge
  try dsimp only
  repeat' split
  all_goals first | exact zb_us (zb_v h1 z1_1) (Or.inl (by omega)) | exact zb_us h1 (Or.inl (by omega))
theorem zb_leave {S : Sv} {i : Nat} (h : Zb S) : Zb (p_X1_leaveNest S i) := by
  have h1 : ∀ v, Zb (us (us S (3 + i) 7 (-6)) (3 + i) 12 v) := fun v => zb_us (zb_us h (Or.inl (by omega))) (Or.inl (by omega))
  unfold p_X1_leaveNest
  try dsimp only
  exact zb_ite (h1 _) (zb_follow (zb_us (h1 _) (Or.inl (by omega))))
theorem zb_enter {S : Sv} {i : Nat} {pl : Int32} (h : Zb S) : Zb (p_X1_enterNest S i pl) := by
  have h1 : ∀ v w, Zb (us (us (us (us S (3 + i) 7 pl) (3 + i) 5 0) (3 + i) 11 v) (3 + i) 14 w) := fun v w => zb_us (zb_us (zb_v (zb_us h (Or.inl (by omega))) z1_0) (Or.inl (by omega))) (Or.inl (by omega))
  unfold p_X1_enterNest
  try dsimp only
  repeat' split
  all_goals first | exact h1 _ _ | exact zb_us (h1 _ _) (Or.inl (by omega)) | exact zb_us (zb_us (h1 _ _) (Or.inl (by omega))) (Or.inl (by omega))
theorem zb_raise {S0 S : Sv} (h : Zb S) : ∀ m, Zb (itN (q_X3_raiseByTimers_2 S0) m S) := by
  intro m
  induction m with
  | zero => exact h
  | succ m ih =>
    rw [itN_s]
    generalize itN (q_X3_raiseByTimers_2 S0) m S = σ at ih ⊢
    unfold q_X3_raiseByTimers_2
    try dsimp only
    exact zb_ite ih (zb_us (zb_take ih) (Or.inr (Or.inr (by omega))))
theorem zb_grow {S0 S : Sv} (h : Zb S) : ∀ m, Zb (itN (q_X3_growWaits_2 S0) m S) := by
  intro m
  induction m with
  | zero => exact h
  | succ m ih =>
    rw [itN_s]
    generalize itN (q_X3_growWaits_2 S0) m S = σ at ih ⊢
    unfold q_X3_growWaits_2
    try dsimp only
    exact zb_ite ih (zb_us ih (Or.inl (by omega)))
theorem zb_begin {S : Sv} (h : Zb S) : Zb (p_X3_beginFoundLine S).2 := by
  have h8 : Zb (if S 0 7 ≤ 0 then S else us S 0 10 (S 0 10 + 1)) := zb_ite h (zb_us h (Or.inl (by omega)))
  unfold p_X3_beginFoundLine
  try dsimp only
  split
  · exact h
  · split
    · exact h
    · try dsimp only
      generalize (if S 0 7 ≤ 0 then S else us S 0 10 (S 0 10 + 1)) = S8 at h8 ⊢
      have hq : ∀ q a b c e, Zb (us (us (us (us S8 (23 + q) 0 a) (23 + q) 1 b) (23 + q) 2 c) (23 + q) 3 e) := fun q a b c e => zb_us (zb_us (zb_us (zb_us h8 (Or.inr (Or.inr (by omega)))) (Or.inr (Or.inr (by omega)))) (Or.inr (Or.inr (by omega)))) (Or.inr (Or.inr (by omega)))
      exact zb_ite (zb_us (zb_enter (hq _ _ _ _ _)) (Or.inl (by omega))) (zb_us (zb_us (zb_enter (hq _ _ _ _ _)) (Or.inl (by omega))) (Or.inl (by omega)))
theorem zb_serve {S : Sv} (h : Zb S) : Zb (p_X3_serveTop S) := by
  have h3 : ∀ q v, Zb (us (us S 0 8 (S 0 8 + 1)) (23 + q) 2 v) := fun q v => zb_us (zb_us h (Or.inl (by omega))) (Or.inl (by omega))
  unfold p_X3_serveTop
  try dsimp only
  exact zb_ite h (zb_ite (h3 _ _) (zb_leave (zb_us (h3 _ _) (Or.inl (by omega)))))
theorem zb_pass {S : Sv} (h : Zb S) : Zb (p_X3_passTick S).2 := by
  unfold p_X3_passTick p_X3_raiseByTimers
  try dsimp only
  refine zb_us ?_ (Or.inl (by omega))
  unfold p_X3_growWaits
  exact zb_grow (zb_serve (zb_begin (zb_raise h _))) _
theorem ws_pass {S : Sv} (h : Ws S) : Ws (p_X3_passTick S).2 := ⟨wf_pass h.1, zb_pass h.2⟩
theorem ws_it {S : Sv} {tk : Int32} (h : Ws S) : ∀ m, Ws (itN (q_X3_passTicks_16 S tk) m S) := by
  intro m
  induction m with
  | zero => exact h
  | succ m ih =>
    rw [itN_s]
    exact ws_pass ih
theorem ws_ticks {S : Sv} {tk : Int32} (h : Ws S) : Ws (p_X3_passTicks S tk).2 := by
  unfold p_X3_passTicks
  try dsimp only
  split
  · exact h
  · exact ws_it h _
theorem zb_set {S : Sv} {a b : Int32} (h : Zb S) : Zb (p_X3_changeSetting S a b).2 := by
  unfold p_X3_changeSetting
  try dsimp only
  repeat' split
  all_goals first | exact h | exact zb_us h (Or.inr (Or.inl (by omega)))
theorem zb_shape {S : Sv} {i : Nat} {a b d : Int32} (h : Zb S) : Zb (p_X1_shape S i a b d) := by
  unfold p_X1_shape
  exact zb_us (zb_us (zb_us h (Or.inl (by omega))) (Or.inl (by omega))) (Or.inl (by omega))
theorem zb_new {S : Sv} {i : Nat} {b : Int32} (h : Zb S) (hb : Z1 b) : Zb (p_X1_becomeNew S i b) := by
  unfold p_X1_becomeNew
  try dsimp only
  exact zb_us (zb_us (zb_us (zb_us (zb_us (zb_us (zb_us (zb_us (zb_us (zb_us (zb_v (zb_v (zb_v h hb) z1_0) z1_0) (Or.inl (by omega))) (Or.inl (by omega))) (Or.inl (by omega))) (Or.inl (by omega))) (Or.inl (by omega))) (Or.inl (by omega))) (Or.inl (by omega))) (Or.inl (by omega))) (Or.inl (by omega))) (Or.inl (by omega))
theorem zb_addLine {S : Sv} {a b d lv : Int32} (h : Zb S) : Zb (p_X3_addLine S a b d lv).2 := by
  unfold p_X3_addLine
  try dsimp only
  repeat' split
  all_goals first | exact h | exact zb_us (zb_shape (zb_new h (z1_ite z1_1 z1_0))) (Or.inr (Or.inl (by omega))) | exact zb_us (zb_shape (zb_new h z1_1)) (Or.inr (Or.inl (by omega))) | exact zb_us (zb_shape (zb_new h z1_0)) (Or.inr (Or.inl (by omega)))
theorem zb_changeLine {S : Sv} {ln a b d : Int32} (h : Zb S) : Zb (p_X3_changeLine S ln a b d).2 := by
  unfold p_X3_changeLine
  try dsimp only
  repeat' split
  all_goals first | exact h | exact zb_shape h
theorem zb_addTimer {S : Sv} {ln a b : Int32} (h : Zb S) : Zb (p_X3_addTimer S ln a b).2 := by
  unfold p_X3_addTimer
  try dsimp only
  repeat' split
  all_goals first | exact h | exact zb_us (zb_us (zb_us (zb_us h (Or.inr (Or.inr (by omega)))) (Or.inr (Or.inr (by omega)))) (Or.inr (Or.inr (by omega)))) (Or.inr (Or.inl (by omega)))
theorem zb_rm {S : Sv} {tm : Int32} (h : Zb S) : ∀ m, Zb (itN (q_X3_removeTimer_12 S tm) m S) := by
  intro m i hi
  obtain ⟨a, b, c⟩ := h i hi
  rw [rm_keep _ _ _ (by omega), rm_keep _ _ _ (by omega), rm_keep _ _ _ (by omega)]
  exact ⟨a, b, c⟩
theorem zb_removeTimer {S : Sv} {tm : Int32} (h : Zb S) : Zb (p_X3_removeTimer S tm).2 := by
  unfold p_X3_removeTimer
  try dsimp only
  split
  · exact h
  · exact zb_us (zb_rm h _) (Or.inr (Or.inl (by omega)))
theorem zb_raiseLine {S : Sv} {ln : Int32} (h : Zb S) : Zb (p_X3_raiseLine S ln).2 := by
  unfold p_X3_raiseLine
  try dsimp only
  repeat' split
  all_goals first | exact h | exact zb_take h
theorem zb_move {S : Sv} {i d : Nat} {up : Int32} (h : Zb S) : Zb (p_X1_moveDevice S i d up) := by
  unfold p_X1_moveDevice
  exact zb_follow (zb_us h (Or.inl (by omega)))
theorem zb_holdLine {S : Sv} {ln dv up : Int32} (h : Zb S) : Zb (p_X3_holdLine S ln dv up).2 := by
  unfold p_X3_holdLine
  try dsimp only
  repeat' split
  all_goals first | exact h | exact zb_move h
theorem zb_maskLine {S : Sv} {ln i : Int32} (h : Zb S) : Zb (p_X3_maskLine S ln i).2 := by
  unfold p_X3_maskLine
  try dsimp only
  repeat' split
  all_goals first | exact h | exact zb_v h z1_1 | exact zb_v h z1_0 | exact zb_v h (z1_ite z1_1 z1_0)
def chgF (μ : Mu) (a : Int32 × Sv) : Int32 × Mu := ((p_X0_recordUnlessError ((fo (p_X0_prepare μ) 0 a.2) 11) a.1).1, fo (fo (p_X0_prepare μ) 0 a.2) 11 (p_X0_recordUnlessError ((fo (p_X0_prepare μ) 0 a.2) 11) a.1).2)
theorem rcu_1 {S : Sv} {a : Int32} : (p_X0_recordUnlessError S a).1 = a := rfl
theorem rcu_err {S : Sv} {a : Int32} (h : a < 0) : (p_X0_recordUnlessError S a).2 = S := by
  unfold p_X0_recordUnlessError
  try dsimp only
  rw [if_pos h]
theorem rcu_ok {S : Sv} {a : Int32} {nx u : Nat} (h : 0 ≤ a) (h1 : S 3 1 = nI nx) (h2 : S 3 2 = nI u) (hn : nx ≤ 6) (hu : u ≤ 6) :
    (p_X0_recordUnlessError S a).2 3 1 = nI ((nx + 1) % 7) ∧ (p_X0_recordUnlessError S a).2 3 2 = nI (if u < 6 then u + 1 else 6) ∧ ∀ p k, ¬ (p = 3 ∧ (k = 1 ∨ k = 2)) → (p_X0_recordUnlessError S a).2 p k = S p k := by
  unfold p_X0_recordUnlessError
  try dsimp only
  rw [if_neg (Int32.not_lt.mpr h), us_k (p := 3) (k := 1) (p' := 3) (k' := 2) (by decide), h1, h2]
  refine ⟨?_, ?_, fun p k hp => by rw [us_ne _ _ (by omega), us_ne _ _ (by omega)]⟩
  · rw [us_k (by decide), us_at]
    by_cases hx : nx = 6
    · rw [if_pos (by rw [hx]; decide), hx]; rfl
    · rw [nI_1, if_neg (show ¬ (7 : Int32) ≤ nI (nx + 1) from nI_ge (b := 7) (by omega) (by decide)), Nat.mod_eq_of_lt (by omega)]
  · rw [us_at]
    by_cases hx : u = 6
    · rw [if_pos (by rw [hx]; decide), if_neg (by omega)]; rfl
    · rw [if_neg (show ¬ (6 : Int32) ≤ nI u from nI_ge (b := 6) (by omega) (by decide)), if_pos (by omega), nI_1]
theorem ws_wb {S : Sv} (h : Ws S) : Zb S := h.2
