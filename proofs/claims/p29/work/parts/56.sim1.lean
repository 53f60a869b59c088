/-! a tick: the law's own rows beside the class's numbers -/
def AR (B S A : Sv) (i : Nat) : Prop :=
  A 0 i = S (3 + i) 5 ∧ (S (3 + i) 5 = 1 → A 1 i = S (3 + i) 6) ∧ A 2 i = S (3 + i) 8 ∧ A 3 i = S (3 + i) 7 ∧ A 4 i = S (3 + i) 9 ∧ A 5 i = S (3 + i) 10 ∧ A 6 i = S (3 + i) 11 ∧ A 7 i = S (3 + i) 12 ∧ A 8 i = S (3 + i) 13 ∧ A 9 i = S (3 + i) 14 ∧ A 10 i = S (3 + i) 15 ∧ ∀ f, f < 5 → S (3 + i) f = B (3 + i) f
def AN (d : Nat) (S A : Sv) : Prop := ∀ k, k < d → A 11 k = S (23 + k) 0 ∧ A 12 k = S (23 + k) 1 ∧ A 13 k = S (23 + k) 2
theorem AR.same {B S S' A A' : Sv} {i : Nat} (h : AR B S A i) (hA : ∀ p, p ≤ 10 → A' p i = A p i) (hS : ∀ k, S' (3 + i) k = S (3 + i) k) : AR B S' A' i := by
  unfold AR at h ⊢
  rw [hA 0 (by omega), hA 1 (by omega), hA 2 (by omega), hA 3 (by omega), hA 4 (by omega), hA 5 (by omega), hA 6 (by omega), hA 7 (by omega), hA 8 (by omega), hA 9 (by omega), hA 10 (by omega)]
  simp only [hS]
  exact h
theorem AN.same {d : Nat} {S S' A A' : Sv} (h : AN d S A) (hA : ∀ p k, k < d → (p = 11 ∨ p = 12 ∨ p = 13) → A' p k = A p k) (hS : ∀ k f, k < d → f < 3 → S' (23 + k) f = S (23 + k) f) : AN d S' A' := fun k hk => by
  rw [hA 11 k hk (by omega), hA 12 k hk (by omega), hA 13 k hk (by omega), hS k 0 hk (by omega), hS k 1 hk (by omega), hS k 2 hk (by omega)]
  exact h k hk
/-! the rows at the start -/
theorem q97_o {B A σ : Sv} {n d t j p k : Nat} (h : ¬ (p ≤ 10 ∧ k = j)) : q_T1_97 B A n d t j σ p k = σ p k := by
  unfold q_T1_97
  try dsimp only
  rw [us_ne _ _ (by omega), us_ne _ _ (by omega), us_ne _ _ (by omega), us_ne _ _ (by omega), us_ne _ _ (by omega), us_ne _ _ (by omega), us_ne _ _ (by omega), us_ne _ _ (by omega), us_ne _ _ (by omega), us_ne _ _ (by omega), us_ne _ _ (by omega)]
section SIM
variable {w a c g u n t d : Nat} {v : Nat → Nat} {B A : Sv}
theorem q97_f (h : KS w a c g u v n t d B) {j : Nat} (hj : j < n) {σ : Sv} : AR B B (q_T1_97 B A n d t j σ) j := by
  obtain ⟨a0, a1, a2, a3, a4, a5, -⟩ := (h.2.1 j hj).1
  unfold AR q_T1_97
  try dsimp only
  rw [h.nl5 hj, h.nl6 hj, h.nl8 hj, h.nl9 hj, h.nl10 hj, h.nl11 hj, h.nl12 hj, h.nl13 hj, h.nl14 hj, h.nl15 hj, h.nl16 hj]
  simp (disch := omega) [us_at, us_p, us_k]
  intro q
  simp [q]
theorem t97 (h : KS w a c g u v n t d B) : ∀ m, m ≤ n → (∀ i, i < m → AR B B (itN (q_T1_97 B A n d t) m A) i) := by
  intro m
  induction m with
  | zero => intro _ i hi; exact absurd hi (by omega)
  | succ m ih =>
    intro hm i hi
    rw [itN_s]
    have ih := ih (by omega)
    generalize itN (q_T1_97 B A n d t) m A = σ at ih ⊢
    by_cases him : i = m
    · rw [him]; exact q97_f h (by omega)
    · exact (ih i (by omega)).same (fun p hp => q97_o (by omega)) (fun _ => rfl)
theorem q271_o {σ : Sv} {j p k : Nat} (h : ¬ ((p = 11 ∨ p = 12 ∨ p = 13) ∧ k = j)) : q_T1_271 B A n d t j σ p k = σ p k := by
  unfold q_T1_271
  try dsimp only
  rw [us_ne _ _ (by omega), us_ne _ _ (by omega), us_ne _ _ (by omega)]
theorem t271 (h : KS w a c g u v n t d B) {A1 : Sv} : ∀ m, m ≤ d → AN m B (itN (q_T1_271 B A n d t) m A1) ∧ ∀ p k, ¬ (p = 11 ∨ p = 12 ∨ p = 13) → itN (q_T1_271 B A n d t) m A1 p k = A1 p k := by
  intro m
  induction m with
  | zero => intro _; exact ⟨fun k hk => absurd hk (by omega), fun _ _ _ => rfl⟩
  | succ m ih =>
    intro hm
    rw [itN_s]
    obtain ⟨i1, i2⟩ := ih (by omega)
    generalize itN (q_T1_271 B A n d t) m A1 = σ at i1 i2 ⊢
    refine ⟨fun k hk => ?_, fun p k hp => by rw [q271_o (by omega)]; exact i2 p k hp⟩
    by_cases hkm : k = m
    · rw [hkm]
      unfold q_T1_271
      try dsimp only
      rw [h.np0 (by omega), h.np1 (by omega), h.np2 (by omega)]
      simp (disch := omega) [us_at, us_p, us_k]
    · rw [q271_o (by omega), q271_o (by omega), q271_o (by omega)]
      exact i1 k (by omega)
/-! timers -/
/-- an edge in the law's own rows -/
def tkA (A : Sv) (i : Nat) (w4 kp : Int32) : Sv :=
  if A 0 i = 1 then us (us A 4 i (A 4 i + 1)) 5 i (A 5 i + 1) else (if w4 = 1 then (if kp = 0 then us (us A 4 i (A 4 i + 1)) 5 i (A 5 i + 1) else us (us (us A 4 i (A 4 i + 1)) 0 i 1) 1 i 0) else us (us (us A 4 i (A 4 i + 1)) 0 i 1) 1 i 0)
theorem tkA_o {i p k : Nat} {w4 kp : Int32} (h : ¬ ((p = 0 ∨ p = 1 ∨ p = 4 ∨ p = 5) ∧ k = i)) : tkA A i w4 kp p k = A p k := by
  unfold tkA
  split
  · rw [us_ne _ _ (by omega), us_ne _ _ (by omega)]
  · split
    · split
      · rw [us_ne _ _ (by omega), us_ne _ _ (by omega)]
      · rw [us_ne _ _ (by omega), us_ne _ _ (by omega), us_ne _ _ (by omega)]
    · rw [us_ne _ _ (by omega), us_ne _ _ (by omega), us_ne _ _ (by omega)]
theorem ar_edge {S : Sv} {i : Nat} {kp : Int32} (h : AR B S A i) (h5 : Z1 (S (3 + i) 5)) (h4 : Z1 (S (3 + i) 4)) : AR B (p_X1_takeEdge S i kp).2 (tkA A i (S (3 + i) 4) kp) i := by
  obtain ⟨a0, a1, a2, a3, a4, a5, a6, a7, a8, a9, a10, af⟩ := h
  have no : ¬ Gs1 S i kp → AR B (p_X1_takeEdge S i kp).2 (us (us A 4 i (A 4 i + 1)) 5 i (A 5 i + 1)) i := fun hg => by
    obtain ⟨-, o, e10, e9⟩ := te_no hg
    unfold AR
    rw [o 5 (by decide) (by decide), o 6 (by decide) (by decide), o 7 (by decide) (by decide), o 8 (by decide) (by decide), o 11 (by decide) (by decide), o 12 (by decide) (by decide), o 13 (by decide) (by decide), o 14 (by decide) (by decide), o 15 (by decide) (by decide), e9, e10]
    simp (disch := omega) only [us_at, us_p, us_k]
    exact ⟨a0, a1, a2, a3, by rw [a4], by rw [a5], a6, a7, a8, a9, a10, fun f hf => by rw [o f (by omega) (by omega)]; exact af f hf⟩
  have yes : Gs1 S i kp → AR B (p_X1_takeEdge S i kp).2 (us (us (us A 4 i (A 4 i + 1)) 0 i 1) 1 i 0) i := fun hg => by
    obtain ⟨-, o, e5, e6, e9⟩ := te_yes hg
    unfold AR
    rw [e5, e6, o 7 (by decide) (by decide) (by decide), o 8 (by decide) (by decide) (by decide), o 10 (by decide) (by decide) (by decide), o 11 (by decide) (by decide) (by decide), o 12 (by decide) (by decide) (by decide), o 13 (by decide) (by decide) (by decide), o 14 (by decide) (by decide) (by decide), o 15 (by decide) (by decide) (by decide), e9]
    simp (disch := omega) only [us_at, us_p, us_k]
    exact ⟨trivial, fun _ => trivial, a2, a3, by rw [a4], a5, a6, a7, a8, a9, a10, fun f hf => by rw [o f (by omega) (by omega) (by omega)]; exact af f hf⟩
  unfold tkA
  rw [a0]
  rcases h5 with h5 | h5
  · rw [if_neg (by rw [h5]; decide)]
    rcases h4 with h4 | h4
    · rw [if_neg (by rw [h4]; decide)]
      exact yes ⟨h5, Or.inl h4⟩
    · rw [if_pos h4]
      by_cases hk : kp = 0
      · rw [if_pos hk]
        exact no fun q => q.2.elim (fun z => absurd (z.symm.trans h4) (by decide)) (fun z => z hk)
      · rw [if_neg hk]
        exact yes ⟨h5, Or.inr hk⟩
  · rw [if_pos h5]
    exact no fun q => absurd (q.1.symm.trans h5) (by decide)
theorem q354_eq (h : KS w a c g u v n t d B) {m i : Nat} (hm : m < t) (hi : i < n) (ei : B (16 + m) 0 = nI i) {α : Sv} : q_T1_354 B A n d t m α =
    (if B (16 + m) 2 = B 0 0 then us (tkA (us α 14 m (B (16 + m) 2)) i (B (3 + i) 4) (B 1 5)) 14 m (B (16 + m) 2 + B (16 + m) 1) else us α 14 m (B (16 + m) 2)) := by
  have hn := h.n12
  have hc : cn (nI i) = i := cn_nI (by omega)
  unfold q_T1_354
  try dsimp only
  rw [h.nt0 hm, h.nt1 hm, h.nt2 hm, ei, hc, na0, na17, h.nl4 hi, us_at]
  by_cases hx : B (16 + m) 2 = B 0 0
  · rw [if_pos hx, if_pos hx]
    unfold tkA
    have e1 : us (us α 14 m (B (16 + m) 2)) 4 i (us α 14 m (B (16 + m) 2) 4 i + 1) 0 i = us α 14 m (B (16 + m) 2) 0 i := us_p (by decide)
    have e2 : us (us α 14 m (B (16 + m) 2)) 4 i (us α 14 m (B (16 + m) 2) 4 i + 1) 5 i = us α 14 m (B (16 + m) 2) 5 i := us_p (by decide)
    rw [e1, e2]
    congr 1
    have e14 : ∀ (x : Sv), x 14 m = B (16 + m) 2 → x 14 m + B (16 + m) 1 = B (16 + m) 2 + B (16 + m) 1 := fun x e => by rw [e]
    apply e14
    split
    · simp (disch := omega) [us_at, us_p, us_k]
    · split
      · split
        · simp (disch := omega) [us_at, us_p, us_k]
        · simp (disch := omega) [us_at, us_p, us_k]
      · simp (disch := omega) [us_at, us_p, us_k]
  · rw [if_neg hx, if_neg hx]
end SIM
theorem KS.tnext {w a c g u n t d m y : Nat} {v v' : Nat → Nat} {S S' : Sv} (h : KS w a c g u v n t d S) (hm : m < t) (hv : ∀ j, ¬ j = m → v' j = v j) (hy : v' m ≤ y ∧ y ≤ v' m + 500) (hS : ∀ p k, ¬ (p = 16 + m ∧ k = 2) → S' p k = S p k) (h2 : S' (16 + m) 2 = nI y) : KS w a c g u v' n t d S' := by
  have hn := h.n12
  have hd := h.d8
  have ht := h.t6
  obtain ⟨a1, a2, a3, a4, a5⟩ := h
  refine ⟨a1.same (fun k _ _ => hS _ _ (by omega)) (fun k => hS _ _ (by omega)), fun j hj => ⟨(a2 j hj).1.same (fun k => hS _ _ (by omega)), (a2 j hj).2.same (hS _ _ (by omega)) (fun k hk => hS _ _ (by omega))⟩, fun j hj => ?_, fun k hk => (a4 k hk).same (fun f => hS _ _ (by omega)) (fun i _ _ => hS _ _ (by omega)), fun k hk => ?_⟩
  · by_cases hjm : j = m
    · rw [hjm]
      obtain ⟨⟨i, i1, i2, i3⟩, ⟨q, q1, q2, q3⟩, -⟩ := a3 m hm
      exact ⟨⟨i, i1, by rw [hS _ _ (by omega)]; exact i2, by rw [hS _ _ (by omega)]; exact i3⟩, ⟨q, q1, q2, by rw [hS _ _ (by omega)]; exact q3⟩, y, hy.1, hy.2, h2⟩
    · rw [hv j hjm]
      exact (a3 j hj).same (fun f => hS _ _ (by omega)) (fun i _ => hS _ _ (by omega))
  · rw [hS (23 + k) _ (by omega), hS (23 + (k + 1)) _ (by omega)]
    exact a5 k hk
/-- the timers so far -/
def TI (w a c g u n t d : Nat) (B : Sv) (m : Nat) (σ α : Sv) : Prop :=
  KS w a (c + m) g u (fun j => if j < m then g + 1 else g) n t d σ ∧ (∀ i, i < n → AR B σ α i) ∧ AN d σ α ∧ (∀ j, j < m → α 14 j = σ (16 + j) 2) ∧ (∀ j, j < t → σ (16 + j) 0 = B (16 + j) 0 ∧ σ (16 + j) 1 = B (16 + j) 1) ∧ (∀ j, m ≤ j → j < t → σ (16 + j) 2 = B (16 + j) 2) ∧ ∀ p k, (p = 0 ∨ p = 1 ∨ 23 ≤ p) → σ p k = B p k
theorem ti_step {w a c g u n t d m : Nat} {B A σ α : Sv} (hB : KS w a c g u (fun _ => g) n t d B) (hm : m < t) (h : TI w a c g u n t d B m σ α) : TI w a c g u n t d B (m + 1) (q_X3_raiseByTimers_2 B m σ) (q_T1_354 B A n d t m α) := by
  obtain ⟨hK, hA, hN, h14, h01, h2, ho⟩ := h
  have hn := hB.n12
  have ht := hB.t6
  have hg := hB.g1000
  obtain ⟨⟨i, i1, i2, i3⟩, ⟨q, q1, q2, q3⟩, x, x1, x2, x3⟩ := hB.2.2.1 m hm
  have x1 : g ≤ x := x1
  have x2 : x ≤ g + 500 := x2
  have hc : cn (nI i) = i := cn_nI (by omega)
  have e2 : σ (16 + m) 2 = nI x := (h2 m (Nat.le_refl _) hm).trans x3
  have e0 : σ 0 0 = nI g := hK.eg
  have e15 : σ 1 5 = B 1 5 := ho 1 5 (by omega)
  have e1 : σ (16 + m) 1 = nI q := (h01 m hm).2.trans q3
  rw [q354_eq hB hm i1 i2]
  unfold q_X3_raiseByTimers_2
  try dsimp only
  rw [e0, e2, x3, hB.eg, i2, hc, q3, e15, hB.s5.c]
  by_cases hx : x = g
  · have hlt : ¬ nI g < nI x := by rw [hx]; exact Int32.lt_irrefl
    rw [if_neg hlt, if_pos (by rw [hx])]
    have h3 : σ (3 + i) 3 = 0 := by rw [(hA i i1).2.2.2.2.2.2.2.2.2.2.2 3 (by omega)]; exact i3
    have h4 : σ (3 + i) 4 = B (3 + i) 4 := (hA i i1).2.2.2.2.2.2.2.2.2.2.2 4 (by omega)
    obtain ⟨-, -, -, -, z4, z5, -⟩ := (hK.2.1 i i1).1
    have hK1 := hK.edge (kp := B 1 5) i1 h3
    have hA1 := ar_edge (kp := B 1 5) ((hA i i1).same (A' := us α 14 m (nI x)) (fun p hp => us_p (by omega)) (fun _ => rfl)) z5 z4
    rw [h4] at hA1
    have fr : ∀ p k, ¬ p = 3 + i → (p_X1_takeEdge σ i (B 1 5)).2 p k = σ p k := fun p k hp => fr_takeEdge hp
    generalize (p_X1_takeEdge σ i (B 1 5)).2 = T at hK1 hA1 fr ⊢
    have o : ∀ p k, ¬ (p = 16 + m ∧ k = 2) → us T (16 + m) 2 (T (16 + m) 2 + T (16 + m) 1) p k = T p k := fun p k hp => us_ne _ _ hp
    have e : us T (16 + m) 2 (T (16 + m) 2 + T (16 + m) 1) (16 + m) 2 = nI (x + q) := by
      rw [us_at, fr _ _ (by omega), fr _ _ (by omega), e2, e1]
      exact nI_add x q
    generalize us T (16 + m) 2 (T (16 + m) 2 + T (16 + m) 1) = T' at o e ⊢
    have oa : ∀ p k, ¬ ((p = 0 ∨ p = 1 ∨ p = 4 ∨ p = 5) ∧ k = i) → tkA (us α 14 m (nI x)) i (B (3 + i) 4) (B 1 5) p k = us α 14 m (nI x) p k := fun p k hp => tkA_o hp
    generalize tkA (us α 14 m (nI x)) i (B (3 + i) 4) (B 1 5) = α1 at hA1 oa ⊢
    refine ⟨?_, fun j hj => ?_, ?_, fun j hj => ?_, fun j hj => ?_, fun j j1 j2 => ?_, fun p k hp => ?_⟩
    · rw [show c + (m + 1) = c + m + 1 by omega]
      refine hK1.tnext hm (fun j hj => ?_) (y := x + q) ?_ o e
      · by_cases hjm : j < m
        · rw [if_pos hjm, if_pos (by omega)]
        · rw [if_neg hjm, if_neg (by omega)]
      · rw [if_pos (by omega)]
        omega
    · by_cases hji : j = i
      · rw [hji]
        exact hA1.same (fun p hp => us_p (by omega)) (fun k => o _ _ (by omega))
      · exact (hA j hj).same (fun p hp => by rw [us_p (by omega), oa _ _ (by omega), us_p (by omega)]) (fun k => by rw [o _ _ (by omega), fr _ _ (by omega)])
    · exact hN.same (fun p k hk hp => by rw [us_p (by omega), oa _ _ (by omega), us_p (by omega)]) (fun k f hk hf => by rw [o _ _ (by omega), fr _ _ (by omega)])
    · by_cases hjm : j = m
      · rw [hjm, us_at, e]
        exact nI_add x q
      · rw [us_k hjm, oa _ _ (by omega), us_k hjm, o _ _ (by omega), fr _ _ (by omega)]
        exact h14 j (by omega)
    · rw [o _ _ (by omega), o _ _ (by omega), fr _ _ (by omega), fr _ _ (by omega)]
      exact h01 j hj
    · rw [o _ _ (by omega), fr _ _ (by omega)]
      exact h2 j (by omega) j2
    · rw [o _ _ (by omega), fr _ _ (by omega)]
      exact ho p k hp
  · have hgx : g < x := by omega
    rw [if_pos (nI_lt hgx (by omega)), if_neg (fun z => hx (nI_inj z))]
    refine ⟨?_, fun j hj => (hA j hj).same (fun p hp => us_p (by omega)) (fun _ => rfl), hN.same (fun p k hk hp => us_p (by omega)) (fun _ _ _ _ => rfl), fun j hj => ?_, h01, fun j j1 j2 => h2 j (by omega) j2, ho⟩
    · refine (hK.mono (Nat.le_refl _) (Nat.le_refl _) (Nat.le_succ _)).tnext hm (fun j hj => ?_) (y := x) ?_ (fun _ _ _ => rfl) e2
      · by_cases hjm : j < m
        · rw [if_pos hjm, if_pos (by omega)]
        · rw [if_neg hjm, if_neg (by omega)]
      · rw [if_pos (by omega)]
        omega
    · by_cases hjm : j = m
      · rw [hjm, us_at, e2]
      · rw [us_k hjm]
        exact h14 j (by omega)
theorem ti_it {w a c g u n t d : Nat} {B A α : Sv} (hB : KS w a c g u (fun _ => g) n t d B) (h0 : TI w a c g u n t d B 0 B α) : ∀ m, m ≤ t → TI w a c g u n t d B m (itN (q_X3_raiseByTimers_2 B) m B) (itN (q_T1_354 B A n d t) m α) := by
  intro m
  induction m with
  | zero => intro _; exact h0
  | succ m ih =>
    intro hm
    rw [itN_s, itN_s]
    exact ti_step hB (by omega) (ih (by omega))
/-- behind the first stretch -/
theorem t1_all {w a c g u n t d : Nat} {B A : Sv} (hB : KS w a c g u (fun _ => g) n t d B) : TI w a c g u n t d B t (p_X3_raiseByTimers B) (g_T1 B A n d t).1 := by
  unfold p_X3_raiseByTimers g_T1
  try dsimp only
  rw [hB.cn5]
  refine ti_it hB ?_ t (Nat.le_refl _)
  have h1 := t97 (A := A) hB n (Nat.le_refl _)
  generalize itN (q_T1_97 B A n d t) n A = A1 at h1 ⊢
  obtain ⟨h2, h3⟩ := t271 (A := A) (A1 := A1) hB d (Nat.le_refl _)
  exact ⟨hB, fun i hi => (h1 i hi).same (fun p hp => h3 p i (by omega)) (fun _ => rfl), h2, fun j hj => absurd hj (by omega), fun j _ => ⟨rfl, rfl⟩, fun j _ _ => rfl, fun _ _ _ => rfl⟩
