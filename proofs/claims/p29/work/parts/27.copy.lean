/-! a server copied: which cells are the other's -/

theorem cv1_at {S T : Sv} {i : Nat} : ∀ k, k < 16 → p_X1_copyFromO S i T (3 + i) k = T (3 + i) k
  | 0, _ => by simp [p_X1_copyFromO, us]
  | 1, _ => by simp [p_X1_copyFromO, us]
  | 2, _ => by simp [p_X1_copyFromO, us]
  | 3, _ => by simp [p_X1_copyFromO, us]
  | 4, _ => by simp [p_X1_copyFromO, us]
  | 5, _ => by simp [p_X1_copyFromO, us]
  | 6, _ => by simp [p_X1_copyFromO, us]
  | 7, _ => by simp [p_X1_copyFromO, us]
  | 8, _ => by simp [p_X1_copyFromO, us]
  | 9, _ => by simp [p_X1_copyFromO, us]
  | 10, _ => by simp [p_X1_copyFromO, us]
  | 11, _ => by simp [p_X1_copyFromO, us]
  | 12, _ => by simp [p_X1_copyFromO, us]
  | 13, _ => by simp [p_X1_copyFromO, us]
  | 14, _ => by simp [p_X1_copyFromO, us]
  | 15, _ => by simp [p_X1_copyFromO, us]
  | n + 16, h => absurd h (by omega)
theorem cv1_val {S T S0 : Sv} : ∀ n, n ≤ 12 → ∀ i, i < n → ∀ k, k < 16 → itN (q_X3_copyFrom_36 S T) n S0 (3 + i) k = T (3 + i) k := by
  intro n
  induction n with
  | zero => intro _ i hi; omega
  | succ n ih =>
    intro hn i hi k hk
    rw [itN_s]
    show p_X1_copyFromO (itN (q_X3_copyFrom_36 S T) n S0) n T (3 + i) k = T (3 + i) k
    by_cases hin : i = n
    · rw [hin]
      exact cv1_at k hk
    · rw [fr_copyO1 (by omega)]
      exact ih (by omega) i (by omega) k hk
theorem cv1_out {S T S0 : Sv} : ∀ n, n ≤ 12 → ∀ p k, ¬ (3 ≤ p ∧ p < 3 + n) → itN (q_X3_copyFrom_36 S T) n S0 p k = S0 p k := by
  intro n
  induction n with
  | zero => intro _ p k _; rfl
  | succ n ih =>
    intro hn p k hp
    rw [itN_s]
    show p_X1_copyFromO (itN (q_X3_copyFrom_36 S T) n S0) n T p k = S0 p k
    rw [fr_copyO1 (by omega)]
    exact ih (by omega) p k (by omega)

theorem cv5_at {S T : Sv} {i : Nat} : ∀ k, k < 3 → p_X5_copyFromO S i T (16 + i) k = T (16 + i) k
  | 0, _ => by simp [p_X5_copyFromO, us]
  | 1, _ => by simp [p_X5_copyFromO, us]
  | 2, _ => by simp [p_X5_copyFromO, us]
  | n + 3, h => absurd h (by omega)
theorem cv5_val {S T S0 : Sv} : ∀ n, n ≤ 6 → ∀ i, i < n → ∀ k, k < 3 → itN (q_X3_copyFrom_75 S T) n S0 (16 + i) k = T (16 + i) k := by
  intro n
  induction n with
  | zero => intro _ i hi; omega
  | succ n ih =>
    intro hn i hi k hk
    rw [itN_s]
    show p_X5_copyFromO (itN (q_X3_copyFrom_75 S T) n S0) n T (16 + i) k = T (16 + i) k
    by_cases hin : i = n
    · rw [hin]
      exact cv5_at k hk
    · rw [fr_copyO5 (by omega)]
      exact ih (by omega) i (by omega) k hk
theorem cv5_out {S T S0 : Sv} : ∀ n, n ≤ 6 → ∀ p k, ¬ (16 ≤ p ∧ p < 16 + n) → itN (q_X3_copyFrom_75 S T) n S0 p k = S0 p k := by
  intro n
  induction n with
  | zero => intro _ p k _; rfl
  | succ n ih =>
    intro hn p k hp
    rw [itN_s]
    show p_X5_copyFromO (itN (q_X3_copyFrom_75 S T) n S0) n T p k = S0 p k
    rw [fr_copyO5 (by omega)]
    exact ih (by omega) p k (by omega)

theorem cv4_at {S T : Sv} {i : Nat} : ∀ k, k < 4 → p_X4_copyFromO S i T (23 + i) k = T (23 + i) k
  | 0, _ => by simp [p_X4_copyFromO, us]
  | 1, _ => by simp [p_X4_copyFromO, us]
  | 2, _ => by simp [p_X4_copyFromO, us]
  | 3, _ => by simp [p_X4_copyFromO, us]
  | n + 4, h => absurd h (by omega)
theorem cv4_val {S T S0 : Sv} : ∀ n, n ≤ 8 → ∀ i, i < n → ∀ k, k < 4 → itN (q_X3_copyFrom_114 S T) n S0 (23 + i) k = T (23 + i) k := by
  intro n
  induction n with
  | zero => intro _ i hi; omega
  | succ n ih =>
    intro hn i hi k hk
    rw [itN_s]
    show p_X4_copyFromO (itN (q_X3_copyFrom_114 S T) n S0) n T (23 + i) k = T (23 + i) k
    by_cases hin : i = n
    · rw [hin]
      exact cv4_at k hk
    · rw [fr_copyO4 (by omega)]
      exact ih (by omega) i (by omega) k hk
theorem cv4_out {S T S0 : Sv} : ∀ n, n ≤ 8 → ∀ p k, ¬ (23 ≤ p ∧ p < 23 + n) → itN (q_X3_copyFrom_114 S T) n S0 p k = S0 p k := by
  intro n
  induction n with
  | zero => intro _ p k _; rfl
  | succ n ih =>
    intro hn p k hp
    rw [itN_s]
    show p_X4_copyFromO (itN (q_X3_copyFrom_114 S T) n S0) n T p k = S0 p k
    rw [fr_copyO4 (by omega)]
    exact ih (by omega) p k (by omega)

/-- the cells that a copy takes over -/
def InC (T : Sv) (p k : Nat) : Prop := (p = 0 ∧ (k = 0 ∨ k = 3 ∨ k = 5 ∨ k = 7 ∨ k = 8 ∨ k = 9 ∨ k = 10)) ∨ (p = 1 ∧ k < 7) ∨ (3 ≤ p ∧ p < 3 + cn (T 0 3) ∧ k < 16) ∨ (16 ≤ p ∧ p < 16 + cn (T 0 5) ∧ k < 3) ∨ (23 ≤ p ∧ p < 23 + cn (T 0 7) ∧ k < 4)
/-- the cells that a copy may touch -/
def ToC (T : Sv) (p k : Nat) : Prop := (p = 0 ∧ (k = 0 ∨ k = 3 ∨ k = 5 ∨ k = 7 ∨ k = 8 ∨ k = 9 ∨ k = 10)) ∨ p = 1 ∨ (3 ≤ p ∧ p < 3 + cn (T 0 3)) ∨ (16 ≤ p ∧ p < 16 + cn (T 0 5)) ∨ (23 ≤ p ∧ p < 23 + cn (T 0 7))
theorem copy_out {S T : Sv} (hn : cn (T 0 3) ≤ 12) (ht : cn (T 0 5) ≤ 6) (hd : cn (T 0 7) ≤ 8) {p k : Nat} (h : ¬ ToC T p k) : p_X3_copyFrom S T p k = S p k := by
  unfold ToC at h
  unfold p_X3_copyFrom
  rw [us_ne _ _ (by omega), us_ne _ _ (by omega), us_ne _ _ (by omega), cv4_out _ hd p k (by omega), us_ne _ _ (by omega), cv5_out _ ht p k (by omega), us_ne _ _ (by omega), cv1_out _ hn p k (by omega), us_ne _ _ (by omega)]
  unfold cpS
  rw [if_neg (by omega), us_ne _ _ (by omega)]
theorem copy_in {S T : Sv} (hn : cn (T 0 3) ≤ 12) (ht : cn (T 0 5) ≤ 6) (hd : cn (T 0 7) ≤ 8) {p k : Nat} (h : InC T p k) : p_X3_copyFrom S T p k = T p k := by
  unfold p_X3_copyFrom
  rcases h with ⟨rfl, h⟩ | ⟨rfl, h⟩ | ⟨h1, h2, h3⟩ | ⟨h1, h2, h3⟩ | ⟨h1, h2, h3⟩
  · rcases h with rfl | rfl | rfl | rfl | rfl | rfl | rfl
    · rw [us_ne _ _ (by omega), us_ne _ _ (by omega), us_ne _ _ (by omega), cv4_out _ hd _ _ (by omega), us_ne _ _ (by omega), cv5_out _ ht _ _ (by omega), us_ne _ _ (by omega), cv1_out _ hn _ _ (by omega), us_ne _ _ (by omega)]
      unfold cpS
      rw [if_neg (by omega), us_at]
    · rw [us_ne _ _ (by omega), us_ne _ _ (by omega), us_ne _ _ (by omega), cv4_out _ hd _ _ (by omega), us_ne _ _ (by omega), cv5_out _ ht _ _ (by omega), us_ne _ _ (by omega), cv1_out _ hn _ _ (by omega), us_at]
    · rw [us_ne _ _ (by omega), us_ne _ _ (by omega), us_ne _ _ (by omega), cv4_out _ hd _ _ (by omega), us_ne _ _ (by omega), cv5_out _ ht _ _ (by omega), us_at]
    · rw [us_ne _ _ (by omega), us_ne _ _ (by omega), us_ne _ _ (by omega), cv4_out _ hd _ _ (by omega), us_at]
    · rw [us_ne _ _ (by omega), us_ne _ _ (by omega), us_at]
    · rw [us_ne _ _ (by omega), us_at]
    · rw [us_at]
  · rw [us_ne _ _ (by omega), us_ne _ _ (by omega), us_ne _ _ (by omega), cv4_out _ hd _ _ (by omega), us_ne _ _ (by omega), cv5_out _ ht _ _ (by omega), us_ne _ _ (by omega), cv1_out _ hn _ _ (by omega), us_ne _ _ (by omega)]
    unfold cpS
    rw [if_pos ⟨rfl, h⟩]
  · obtain ⟨i, rfl⟩ : ∃ i, p = 3 + i := ⟨p - 3, by omega⟩
    rw [us_ne _ _ (by omega), us_ne _ _ (by omega), us_ne _ _ (by omega), cv4_out _ hd _ _ (by omega), us_ne _ _ (by omega), cv5_out _ ht _ _ (by omega), us_ne _ _ (by omega)]
    exact cv1_val _ hn i (by omega) k h3
  · obtain ⟨i, rfl⟩ : ∃ i, p = 16 + i := ⟨p - 16, by omega⟩
    rw [us_ne _ _ (by omega), us_ne _ _ (by omega), us_ne _ _ (by omega), cv4_out _ hd _ _ (by omega), us_ne _ _ (by omega)]
    exact cv5_val _ ht i (by omega) k h3
  · obtain ⟨i, rfl⟩ : ∃ i, p = 23 + i := ⟨p - 23, by omega⟩
    rw [us_ne _ _ (by omega), us_ne _ _ (by omega), us_ne _ _ (by omega)]
    exact cv4_val _ hd i (by omega) k h3
/-- a server that may be copied and may pass ticks -/
def Ws (S : Sv) : Prop := Wf S ∧ ∀ i, i < 12 → (S (3 + i) 3 = 0 ∨ S (3 + i) 3 = 1) ∧ (S (3 + i) 4 = 0 ∨ S (3 + i) 4 = 1) ∧ (S (3 + i) 5 = 0 ∨ S (3 + i) 5 = 1)
theorem wf_copy {S T : Sv} (h : Wf T) : Wf (p_X3_copyFrom S T) := by
  obtain ⟨a, b, c, d, e⟩ := id h
  have k := fun p k (hi : InC T p k) => copy_in (S := S) a.2 b.2 c.2 hi
  refine ⟨by rw [k 0 3 (Or.inl ⟨rfl, by omega⟩)]; exact a, by rw [k 0 5 (Or.inl ⟨rfl, by omega⟩)]; exact b, by rw [k 0 7 (Or.inl ⟨rfl, by omega⟩)]; exact c, fun q hq => ?_, fun q hq => ?_⟩
  · rw [k 0 5 (Or.inl ⟨rfl, by omega⟩)] at hq
    rw [k (16 + q) 0 (Or.inr (Or.inr (Or.inr (Or.inl ⟨by omega, by omega, by omega⟩))))]
    exact d q hq
  · rw [k 0 7 (Or.inl ⟨rfl, by omega⟩)] at hq
    rw [k (23 + q) 0 (Or.inr (Or.inr (Or.inr (Or.inr ⟨by omega, by omega, by omega⟩))))]
    exact e q hq
theorem ws_copy {S T : Sv} (hS : Ws S) (h : Ws T) : Ws (p_X3_copyFrom S T) := by
  refine ⟨wf_copy h.1, fun i hi => ?_⟩
  obtain ⟨a, b, c, _, _⟩ := h.1
  have c2 := c.2
  have b2 := b.2
  by_cases hin : i < cn (T 0 3)
  · have k := fun k (hk : k < 16) => copy_in (S := S) (p := 3 + i) (k := k) a.2 b.2 c.2 (Or.inr (Or.inr (Or.inl ⟨by omega, by omega, hk⟩)))
    rw [k 3 (by decide), k 4 (by decide), k 5 (by decide)]
    exact h.2 i hi
  · have k := fun k => copy_out (S := S) (p := 3 + i) (k := k) a.2 b.2 c.2 (by unfold ToC; omega)
    rw [k 3, k 4, k 5]
    exact hS.2 i hi
/-- what an InterruptInn stands on -/
def Wc (μ : Mu) : Prop := (∀ r, r < 11 → Ws (μ r)) ∧ Bn (μ 11 3 1) 6 ∧ Bn (μ 11 3 2) 6 ∧ Bn (μ 11 5 1) 80 ∧ (∀ j, j < 80 → narrow .char (.int (μ 11 6 j)) = .int (μ 11 6 j)) ∧ (∀ j, j < 7 → μ 12 1 j = vLst j) ∧ (∀ j, j < 7 → μ 12 2 j = vMst j)

