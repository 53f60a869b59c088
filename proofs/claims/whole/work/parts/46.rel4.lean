/-! a service begins -/
theorem en_f {S : Sv} {i : Nat} {pl : Int32} : p_X1_enterNest S i pl (3 + i) 0 = S (3 + i) 0 ∧ p_X1_enterNest S i pl (3 + i) 1 = S (3 + i) 1 ∧ p_X1_enterNest S i pl (3 + i) 2 = S (3 + i) 2 ∧ p_X1_enterNest S i pl (3 + i) 3 = S (3 + i) 3 ∧ p_X1_enterNest S i pl (3 + i) 4 = S (3 + i) 4 ∧ p_X1_enterNest S i pl (3 + i) 5 = 0 ∧ p_X1_enterNest S i pl (3 + i) 7 = pl ∧
    p_X1_enterNest S i pl (3 + i) 8 = S (3 + i) 8 ∧ p_X1_enterNest S i pl (3 + i) 9 = S (3 + i) 9 ∧ p_X1_enterNest S i pl (3 + i) 10 = S (3 + i) 10 ∧ p_X1_enterNest S i pl (3 + i) 11 = S (3 + i) 11 + 1 ∧ p_X1_enterNest S i pl (3 + i) 12 = S (3 + i) 12 ∧
    p_X1_enterNest S i pl (3 + i) 13 = (if S (3 + i) 6 ≤ S (3 + i) 13 then S (3 + i) 13 else S (3 + i) 6) ∧ p_X1_enterNest S i pl (3 + i) 14 = S (3 + i) 14 + S (3 + i) 6 ∧ p_X1_enterNest S i pl (3 + i) 15 = S (3 + i) 15 + (if S (3 + i) 2 ≤ 0 then 0 else if S (3 + i) 6 ≤ S (3 + i) 2 then 0 else 1) := by
  unfold p_X1_enterNest
  by_cases h1 : S (3 + i) 6 ≤ S (3 + i) 13 <;> by_cases h2 : S (3 + i) 2 ≤ 0 <;> by_cases h3 : S (3 + i) 6 ≤ S (3 + i) 2 <;>
    simp (disch := omega) [us_at, us_p, us_k, h1, h2, h3]
def cb (S : Sv) (i d : Nat) (rk : Int32) : Sv :=
  let S8 : Sv := (if (S 0 7) ≤ 0 then S else us S 0 10 ((S 0 10) + 1))
  let S10 : Sv := us S8 (23 + d) 0 (nI i)
  let S11 : Sv := us S10 (23 + d) 1 rk
  let S13 : Sv := us S11 (23 + d) 2 (p_X3_costOf S11 i)
  let S14 : Sv := us S13 (23 + d) 3 (S13 0 0)
  let S15 : Sv := p_X1_enterNest S14 i (S14 0 7)
  let S16 : Sv := us S15 0 7 ((S15 0 7) + 1)
  (if (S16 0 7) ≤ (S16 0 9) then S16 else us S16 0 9 (S16 0 7))
/-- the first five steps: all but the counts and the line -/
def cb1 (S : Sv) (i d : Nat) (rk : Int32) : Sv :=
  let S8 : Sv := (if (S 0 7) ≤ 0 then S else us S 0 10 ((S 0 10) + 1))
  let S10 : Sv := us S8 (23 + d) 0 (nI i)
  let S11 : Sv := us S10 (23 + d) 1 rk
  let S13 : Sv := us S11 (23 + d) 2 (p_X3_costOf S11 i)
  us S13 (23 + d) 3 (S13 0 0)
def cb2 (S15 : Sv) : Sv :=
  let S16 : Sv := us S15 0 7 ((S15 0 7) + 1)
  (if (S16 0 7) ≤ (S16 0 9) then S16 else us S16 0 9 (S16 0 7))
theorem cb_12 {S : Sv} {i d : Nat} {rk : Int32} : cb S i d rk = cb2 (p_X1_enterNest (cb1 S i d rk) i (cb1 S i d rk 0 7)) := rfl
theorem cb1_o {S : Sv} {i d p k : Nat} {rk : Int32} (h : ¬ p = 23 + d) (h2 : ¬ (p = 0 ∧ k = 10)) : cb1 S i d rk p k = S p k := by
  unfold cb1
  try dsimp only
  rw [us_p h, us_p h, us_p h, us_p h]
  split
  · rfl
  · exact us_ne _ _ h2
theorem cb1_f {S : Sv} {i d : Nat} {rk : Int32} : cb1 S i d rk (23 + d) 0 = nI i ∧ cb1 S i d rk (23 + d) 1 = rk ∧ cb1 S i d rk (23 + d) 3 = S 0 0 ∧ cb1 S i d rk 0 10 = (if S 0 7 ≤ 0 then S 0 10 else S 0 10 + 1) := by
  unfold cb1
  by_cases h1 : S 0 7 ≤ 0 <;> simp (disch := omega) [us_at, us_p, us_k, h1]
theorem cb1_2 {S : Sv} {i d : Nat} {rk : Int32} (hi : i < 12) : cb1 S i d rk (23 + d) 2 = S (3 + i) 1 + S 1 4 := by
  unfold cb1 p_X3_costOf
  by_cases h1 : S 0 7 ≤ 0 <;> simp (disch := omega) [us_at, us_p, us_k, h1]
theorem cb2_o {S : Sv} {p k : Nat} (h : ¬ (p = 0 ∧ (k = 7 ∨ k = 9))) : cb2 S p k = S p k := by
  unfold cb2
  try dsimp only
  split
  · exact us_ne _ _ (by omega)
  · rw [us_ne _ _ (by omega), us_ne _ _ (by omega)]
theorem cb2_f {S : Sv} : cb2 S 0 7 = S 0 7 + 1 ∧ cb2 S 0 9 = (if S 0 7 + 1 ≤ S 0 9 then S 0 9 else S 0 7 + 1) := by
  unfold cb2
  by_cases h1 : S 0 7 + 1 ≤ S 0 9 <;> simp (disch := omega) [us_at, us_p, us_k, h1]
theorem cb_o {S : Sv} {i d p k : Nat} {rk : Int32} (h0 : ¬ (p = 0 ∧ (k = 7 ∨ k = 9 ∨ k = 10))) (h1 : ¬ p = 3 + i) (h2 : ¬ p = 23 + d) : cb S i d rk p k = S p k := by
  rw [cb_12, cb2_o (by omega), fr_enterNest h1, cb1_o h2 (by omega)]
theorem cb_0 {S : Sv} {i d : Nat} {rk : Int32} : cb S i d rk 0 7 = S 0 7 + 1 ∧ cb S i d rk 0 9 = (if S 0 7 + 1 ≤ S 0 9 then S 0 9 else S 0 7 + 1) ∧ cb S i d rk 0 10 = (if S 0 7 ≤ 0 then S 0 10 else S 0 10 + 1) := by
  rw [cb_12, cb2_f.1, cb2_f.2, cb2_o (by omega), fr_enterNest (by omega), fr_enterNest (by omega), fr_enterNest (by omega), cb1_o (by omega) (by omega), cb1_o (by omega) (by omega), cb1_f.2.2.2]
  exact ⟨rfl, rfl, rfl⟩
theorem cb_n {S : Sv} {i d : Nat} {rk : Int32} (hi : i < 12) : cb S i d rk (23 + d) 0 = nI i ∧ cb S i d rk (23 + d) 1 = rk ∧ cb S i d rk (23 + d) 2 = S (3 + i) 1 + S 1 4 ∧ cb S i d rk (23 + d) 3 = S 0 0 := by
  rw [cb_12, cb2_o (by omega), cb2_o (by omega), cb2_o (by omega), cb2_o (by omega), fr_enterNest (by omega), fr_enterNest (by omega), fr_enterNest (by omega), fr_enterNest (by omega), cb1_2 hi, cb1_f.1, cb1_f.2.1, cb1_f.2.2.1]
  exact ⟨rfl, rfl, rfl, rfl⟩
theorem cb_l {S : Sv} {i d : Nat} {rk : Int32} (hi : i < 12) : cb S i d rk (3 + i) 0 = S (3 + i) 0 ∧ cb S i d rk (3 + i) 1 = S (3 + i) 1 ∧ cb S i d rk (3 + i) 2 = S (3 + i) 2 ∧ cb S i d rk (3 + i) 3 = S (3 + i) 3 ∧ cb S i d rk (3 + i) 4 = S (3 + i) 4 ∧ cb S i d rk (3 + i) 5 = 0 ∧ cb S i d rk (3 + i) 7 = S 0 7 ∧
    cb S i d rk (3 + i) 8 = S (3 + i) 8 ∧ cb S i d rk (3 + i) 9 = S (3 + i) 9 ∧ cb S i d rk (3 + i) 10 = S (3 + i) 10 ∧ cb S i d rk (3 + i) 11 = S (3 + i) 11 + 1 ∧ cb S i d rk (3 + i) 12 = S (3 + i) 12 ∧
    cb S i d rk (3 + i) 13 = (if S (3 + i) 6 ≤ S (3 + i) 13 then S (3 + i) 13 else S (3 + i) 6) ∧ cb S i d rk (3 + i) 14 = S (3 + i) 14 + S (3 + i) 6 ∧ cb S i d rk (3 + i) 15 = S (3 + i) 15 + (if S (3 + i) 2 ≤ 0 then 0 else if S (3 + i) 6 ≤ S (3 + i) 2 then 0 else 1) := by
  have h0 : ∀ k, cb1 S i d rk (3 + i) k = S (3 + i) k := fun k => by
    unfold cb1
    try dsimp only
    by_cases hd : 3 + i = 23 + d
    · omega
    · rw [us_p hd, us_p hd, us_p hd, us_p hd]
      split
      · rfl
      · exact us_p (by omega)
  have h1 := @en_f (cb1 S i d rk) i (cb1 S i d rk 0 7)
  rw [cb1_o (by omega) (by omega)] at h1
  simp only [h0] at h1
  rw [cb_12]
  have h2 : ∀ k, cb2 (p_X1_enterNest (cb1 S i d rk) i (cb1 S i d rk 0 7)) (3 + i) k = p_X1_enterNest (cb1 S i d rk) i (S 0 7) (3 + i) k := fun k => by
    rw [cb2_o (by omega), cb1_o (by omega) (by omega)]
  simp only [h2]
  exact h1
theorem cb_eq {S : Sv} {i d : Nat} (hf : p_X3_foundLine S = nI i) (hi : i < 12) (hd : cn (S 0 7) = d) (ht : ¬ p_X3_nestTakes S (p_X1_presentRank S i (S 1 0) (S 1 1)) = 0) : p_X3_beginFoundLine S = (nI i, cb S i d (p_X1_presentRank S i (S 1 0) (S 1 1))) := by
  unfold p_X3_beginFoundLine
  try dsimp only
  rw [hf, if_neg (nI_n6 (by omega)), cn_nI (show i < 2 ^ 31 by omega), if_neg ht, hd]
  rfl
/-! the reference -/
def mb1 (S : Sv) (li d : Nat) : Sv :=
  let S2 : Sv := us S 1 (220 + 4 * d) (nI li)
  let x3 : Int32 := p_X7_present S2 li
  let S4 : Sv := us S2 1 (220 + 4 * d + 1) x3
  let x5 : Int32 := p_X7_of S4 li 1
  let S6 : Sv := us S4 1 (220 + 4 * d + 2) (x5 + (S4 1 4))
  us S6 1 (220 + 4 * d + 3) (S6 1 7)
def mb2 (S7 : Sv) : Sv :=
  let v9 : Int32 := (if (S7 1 10) ≤ 0 then 0 else 1)
  let S11 : Sv := us S7 1 13 ((S7 1 13) + v9)
  let S12 : Sv := us S11 1 10 ((S11 1 10) + 1)
  let v14 : Int32 := (if (S12 1 10) ≤ (S12 1 12) then S12 1 12 else S12 1 10)
  us S12 1 12 v14
def mb3 (S16 : Sv) (li : Nat) (x1 : Int32) : Sv :=
  let S17 : Sv := p_X7_book S16 li 10 1 1
  let S18 : Sv := p_X7_book S17 li 13 x1 1
  let x19 : Int32 := p_X7_of S18 li 12
  let v22 : Int32 := (if x1 ≤ x19 then (let x21 : Int32 := p_X7_of S18 li 12; x21) else x1)
  let S24 : Sv := p_X7_book S18 li 12 v22 0
  let x25 : Int32 := p_X7_of S24 li 2
  let v29 : Int32 := (if x25 ≤ 0 then 0 else (let x27 : Int32 := p_X7_of S24 li 2; (if x1 ≤ x27 then 0 else 1)))
  let S31 : Sv := p_X7_book S24 li 14 v29 1
  p_X7_turn S31 li 0
theorem mb_eq {S : Sv} {li : Nat} : p_X7_begin S li = mb3 (mb2 (mb1 S li (cn (S 1 10)))) li (p_X7_of S li 6) := rfl
theorem mb1_o {S : Sv} {li d k : Nat} (h : ¬ (220 + 4 * d ≤ k ∧ k < 224 + 4 * d)) : mb1 S li d 1 k = S 1 k := by
  unfold mb1
  try dsimp only
  rw [us_k (by omega), us_k (by omega), us_k (by omega), us_k (by omega)]
theorem mb1_f {S : Sv} {li d : Nat} (hli : li < 12) : mb1 S li d 1 (220 + 4 * d) = nI li ∧ mb1 S li d 1 (220 + 4 * d + 1) = p_X7_present S li ∧ mb1 S li d 1 (220 + 4 * d + 2) = S 1 (20 + 16 * li + 1) + S 1 4 ∧ mb1 S li d 1 (220 + 4 * d + 3) = S 1 7 := by
  unfold mb1 p_X7_present p_X7_waits p_X7_of
  simp (disch := omega) [us_at, us_k]
theorem mb2_o {S : Sv} {k : Nat} (h : ¬ (k = 10 ∨ k = 12 ∨ k = 13)) : mb2 S 1 k = S 1 k := by
  unfold mb2
  try dsimp only
  rw [us_k (by omega), us_k (by omega), us_k (by omega)]
theorem mb2_f {S : Sv} : mb2 S 1 10 = S 1 10 + 1 ∧ mb2 S 1 12 = (if S 1 10 + 1 ≤ S 1 12 then S 1 12 else S 1 10 + 1) ∧ mb2 S 1 13 = S 1 13 + (if S 1 10 ≤ 0 then 0 else 1) := by
  unfold mb2
  simp (disch := omega) [us_at, us_k]
theorem mb3_o {S : Sv} {li k : Nat} {x1 : Int32} (h : ¬ (20 + 16 * li ≤ k ∧ k < 36 + 16 * li)) : mb3 S li x1 1 k = S 1 k := by
  unfold mb3
  try dsimp only
  rw [fr_turn (by omega), fr_book (by omega), fr_book (by omega), fr_book (by omega), fr_book (by omega)]
theorem mb3_f {S : Sv} {li : Nat} {x1 : Int32} : mb3 S li x1 1 (20 + 16 * li + 0) = S 1 (20 + 16 * li + 0) ∧ mb3 S li x1 1 (20 + 16 * li + 1) = S 1 (20 + 16 * li + 1) ∧ mb3 S li x1 1 (20 + 16 * li + 2) = S 1 (20 + 16 * li + 2) ∧ mb3 S li x1 1 (20 + 16 * li + 3) = S 1 (20 + 16 * li + 3) ∧ mb3 S li x1 1 (20 + 16 * li + 4) = S 1 (20 + 16 * li + 4) ∧ mb3 S li x1 1 (20 + 16 * li + 5) = 0 ∧ mb3 S li x1 1 (20 + 16 * li + 6) = 0 ∧
    mb3 S li x1 1 (20 + 16 * li + 7) = S 1 (20 + 16 * li + 7) ∧ mb3 S li x1 1 (20 + 16 * li + 8) = S 1 (20 + 16 * li + 8) ∧ mb3 S li x1 1 (20 + 16 * li + 9) = S 1 (20 + 16 * li + 9) ∧ mb3 S li x1 1 (20 + 16 * li + 10) = S 1 (20 + 16 * li + 10) + 1 ∧ mb3 S li x1 1 (20 + 16 * li + 11) = S 1 (20 + 16 * li + 11) ∧
    mb3 S li x1 1 (20 + 16 * li + 12) = (if x1 ≤ S 1 (20 + 16 * li + 12) then S 1 (20 + 16 * li + 12) else x1) ∧ mb3 S li x1 1 (20 + 16 * li + 13) = S 1 (20 + 16 * li + 13) + x1 ∧ mb3 S li x1 1 (20 + 16 * li + 14) = S 1 (20 + 16 * li + 14) + (if S 1 (20 + 16 * li + 2) ≤ 0 then 0 else if x1 ≤ S 1 (20 + 16 * li + 2) then 0 else 1) := by
  unfold mb3 p_X7_turn p_X7_book p_X7_of
  simp (disch := omega) [us_at, us_k]
