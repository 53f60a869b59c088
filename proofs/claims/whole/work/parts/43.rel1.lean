/-! the two sides compared: a server's state S (class) and a row T of 280 numbers (reference) -/
theorem us_p {S : Sv} {p k p' k' : Nat} {v : Int32} (h : p' ≠ p) : us S p k v p' k' = S p' k' := us_ne _ _ (fun q => h q.1)
theorem us_k {S : Sv} {p k p' k' : Nat} {v : Int32} (h : k' ≠ k) : us S p k v p' k' = S p' k' := us_ne _ _ (fun q => h q.2)
theorem cn_nI {n : Nat} (h : n < 2 ^ 31) : cn (nI n) = n := nI_clamp h
theorem nI_inj {a b : Nat} (h : nI a = nI b) (ha : a < 2 ^ 31 := by omega) (hb : b < 2 ^ 31 := by omega) : a = b := (nI_eq ha hb).mp h
theorem nI_n6 {k : Nat} (h : k < 2 ^ 31) : ¬ nI k = (-6) := fun e => by
  have h1 := nI_pos h
  rw [e] at h1
  exact h1 (by decide)
theorem n6_nI {k : Nat} (h : k < 2 ^ 31) : ¬ (-6) = nI k := fun e => nI_n6 h e.symm
theorem bn_to {x : Int32} {b : Nat} (h : Bn x b) : ∃ k, k ≤ b ∧ x = nI k := ⟨cn x, h.2, h.1⟩
theorem bn_of {x : Int32} {b k : Nat} (h : x = nI k) (hk : k ≤ b) (hb : b < 2 ^ 31) : Bn x b := by rw [h]; exact bnI hk (by omega)
theorem bn_mono {x : Int32} {b c : Nat} (h : Bn x b) (hc : b ≤ c) : Bn x c := ⟨h.1, Nat.le_trans h.2 hc⟩
theorem bn_ge0 {x : Int32} {b : Nat} (h : Bn x b) (hb : b < 2 ^ 31) : 0 ≤ x := by
  have h2 := h.2
  rw [h.1]
  exact nI_pos' (by omega)
theorem bn_z {b : Nat} : Bn 0 b := ⟨by decide, by rw [show cn 0 = 0 by decide]; exact Nat.zero_le _⟩
def Z1 (x : Int32) : Prop := x = 0 ∨ x = 1
theorem z1_0 : Z1 0 := Or.inl rfl
theorem z1_1 : Z1 1 := Or.inr rfl
theorem Z1.c {x : Int32} (h : Z1 x) : (if x = 1 then (1 : Int32) else 0) = x := by rcases h with rfl | rfl <;> rfl
theorem Z1.d {x : Int32} (h : Z1 x) : (if x = 0 then (0 : Int32) else 1) = x := by rcases h with rfl | rfl <;> rfl
/-- a line: both rows say the same -/
def LnR (S : Sv) (T : Nat → Int32) (i : Nat) : Prop :=
  T (20 + 16 * i + 0) = S (3 + i) 0 ∧ T (20 + 16 * i + 1) = S (3 + i) 1 ∧ T (20 + 16 * i + 2) = S (3 + i) 2 ∧ T (20 + 16 * i + 3) = S (3 + i) 3 ∧ T (20 + 16 * i + 4) = S (3 + i) 4 ∧ T (20 + 16 * i + 5) = S (3 + i) 5 ∧ T (20 + 16 * i + 6) = (if S (3 + i) 5 = 0 then 0 else S (3 + i) 6) ∧
  T (20 + 16 * i + 7) = S (3 + i) 8 ∧ T (20 + 16 * i + 8) = S (3 + i) 9 ∧ T (20 + 16 * i + 9) = S (3 + i) 10 ∧ T (20 + 16 * i + 10) = S (3 + i) 11 ∧ T (20 + 16 * i + 11) = S (3 + i) 12 ∧ T (20 + 16 * i + 12) = S (3 + i) 13 ∧ T (20 + 16 * i + 13) = S (3 + i) 14 ∧ T (20 + 16 * i + 14) = S (3 + i) 15
def LnI (g : Nat) (S : Sv) (i : Nat) : Prop :=
  Bn (S (3 + i) 0) 15 ∧ Bn (S (3 + i) 1) 50 ∧ 0 < cn (S (3 + i) 1) ∧ Z1 (S (3 + i) 3) ∧ Z1 (S (3 + i) 4) ∧ Z1 (S (3 + i) 5) ∧ Bn (S (3 + i) 8) 15 ∧ Bn (S (3 + i) 11) g
def TmR (n : Nat) (S : Sv) (T : Nat → Int32) (j : Nat) : Prop :=
  T (260 + 3 * j) = S (16 + j) 0 ∧ T (260 + 3 * j + 1) = S (16 + j) 1 ∧ T (260 + 3 * j + 2) = S (16 + j) 2 ∧ (∃ i, i < n ∧ S (16 + j) 0 = nI i) ∧ ∃ q, 0 < q ∧ q ≤ 200 ∧ S (16 + j) 1 = nI q
def NsR (n : Nat) (S : Sv) (T : Nat → Int32) (k : Nat) : Prop :=
  T (220 + 4 * k) = S (23 + k) 0 ∧ T (220 + 4 * k + 1) = S (23 + k) 1 ∧ T (220 + 4 * k + 2) = S (23 + k) 2 ∧ T (220 + 4 * k + 3) = S (23 + k) 3 ∧ (∃ i, i < n ∧ S (23 + k) 0 = nI i ∧ S (3 + i) 7 = nI k) ∧ 0 < S (23 + k) 2
def PlI (d : Nat) (S : Sv) (i : Nat) : Prop := S (3 + i) 7 = (-6) ∨ ∃ k, k < d ∧ S (3 + i) 7 = nI k ∧ S (23 + k) 0 = nI i
def Hd (g n t d : Nat) (S : Sv) (T : Nat → Int32) : Prop :=
  S 0 3 = nI n ∧ n ≤ 12 ∧ S 0 5 = nI t ∧ t ≤ 6 ∧ S 0 7 = nI d ∧ d ≤ 8 ∧ Bn (S 0 0) g ∧ (∀ k, k < 7 → T k = S 1 k) ∧ (∀ k, k < 7 → vLst k ≤ S 1 k ∧ S 1 k ≤ vMst k) ∧
  T 7 = S 0 0 ∧ T 8 = S 0 3 ∧ T 9 = S 0 5 ∧ T 10 = S 0 7 ∧ T 11 = S 0 8 ∧ T 12 = S 0 9 ∧ T 13 = S 0 10
def Rl (g n t d : Nat) (S : Sv) (T : Nat → Int32) : Prop :=
  Hd g n t d S T ∧ (∀ i, i < n → LnR S T i ∧ LnI g S i) ∧ (∀ i, n ≤ i → i < 12 → ∀ f, f < 16 → T (20 + 16 * i + f) = 0) ∧ (∀ j, j < t → TmR n S T j) ∧ (∀ k, k < d → NsR n S T k) ∧ ∀ i, i < n → PlI d S i
theorem Hd.mono {g g' n t d : Nat} {S : Sv} {T : Nat → Int32} (h : Hd g n t d S T) (hg : g ≤ g') : Hd g' n t d S T := by
  obtain ⟨a1, a2, a3, a4, a5, a6, a7, a8⟩ := h
  exact ⟨a1, a2, a3, a4, a5, a6, bn_mono a7 hg, a8⟩
theorem LnI.mono {g g' i : Nat} {S : Sv} (h : LnI g S i) (hg : g ≤ g') : LnI g' S i := by
  obtain ⟨a1, a2, a3, a4, a5, a6, a7, a8⟩ := h
  exact ⟨a1, a2, a3, a4, a5, a6, a7, bn_mono a8 hg⟩
theorem Rl.mono {g g' n t d : Nat} {S : Sv} {T : Nat → Int32} (h : Rl g n t d S T) (hg : g ≤ g') : Rl g' n t d S T :=
  ⟨h.1.mono hg, fun i hi => ⟨(h.2.1 i hi).1, (h.2.1 i hi).2.mono hg⟩, h.2.2⟩
theorem Rl.n12 {g n t d : Nat} {S : Sv} {T : Nat → Int32} (h : Rl g n t d S T) : n ≤ 12 := h.1.2.1
theorem Rl.t6 {g n t d : Nat} {S : Sv} {T : Nat → Int32} (h : Rl g n t d S T) : t ≤ 6 := h.1.2.2.2.1
theorem Rl.d8 {g n t d : Nat} {S : Sv} {T : Nat → Int32} (h : Rl g n t d S T) : d ≤ 8 := h.1.2.2.2.2.2.1
theorem Rl.en {g n t d : Nat} {S : Sv} {T : Nat → Int32} (h : Rl g n t d S T) : S 0 3 = nI n := h.1.1
theorem Rl.et {g n t d : Nat} {S : Sv} {T : Nat → Int32} (h : Rl g n t d S T) : S 0 5 = nI t := h.1.2.2.1
theorem Rl.ed {g n t d : Nat} {S : Sv} {T : Nat → Int32} (h : Rl g n t d S T) : S 0 7 = nI d := h.1.2.2.2.2.1
theorem Rl.tk {g n t d : Nat} {S : Sv} {T : Nat → Int32} (h : Rl g n t d S T) : Bn (S 0 0) g := h.1.2.2.2.2.2.2.1
theorem Rl.st {g n t d : Nat} {S : Sv} {T : Nat → Int32} (h : Rl g n t d S T) : ∀ k, k < 7 → T k = S 1 k := h.1.2.2.2.2.2.2.2.1
theorem Rl.rg {g n t d : Nat} {S : Sv} {T : Nat → Int32} (h : Rl g n t d S T) : ∀ k, k < 7 → vLst k ≤ S 1 k ∧ S 1 k ≤ vMst k := h.1.2.2.2.2.2.2.2.2.1
theorem Rl.hs {g n t d : Nat} {S : Sv} {T : Nat → Int32} (h : Rl g n t d S T) : T 7 = S 0 0 ∧ T 8 = S 0 3 ∧ T 9 = S 0 5 ∧ T 10 = S 0 7 ∧ T 11 = S 0 8 ∧ T 12 = S 0 9 ∧ T 13 = S 0 10 := h.1.2.2.2.2.2.2.2.2.2
theorem Rl.tn {g n t d : Nat} {S : Sv} {T : Nat → Int32} (h : Rl g n t d S T) : T 8 = nI n := h.hs.2.1.trans h.en
theorem Rl.tt {g n t d : Nat} {S : Sv} {T : Nat → Int32} (h : Rl g n t d S T) : T 9 = nI t := h.hs.2.2.1.trans h.et
theorem Rl.td {g n t d : Nat} {S : Sv} {T : Nat → Int32} (h : Rl g n t d S T) : T 10 = nI d := h.hs.2.2.2.1.trans h.ed
theorem Rl.cn3 {g n t d : Nat} {S : Sv} {T : Nat → Int32} (h : Rl g n t d S T) : cn (S 0 3) = n := by have := h.n12; rw [h.en]; exact cn_nI (by omega)
theorem Rl.cn5 {g n t d : Nat} {S : Sv} {T : Nat → Int32} (h : Rl g n t d S T) : cn (S 0 5) = t := by have := h.t6; rw [h.et]; exact cn_nI (by omega)
theorem Rl.cn7 {g n t d : Nat} {S : Sv} {T : Nat → Int32} (h : Rl g n t d S T) : cn (S 0 7) = d := by have := h.d8; rw [h.ed]; exact cn_nI (by omega)
theorem Rl.cn8 {g n t d : Nat} {S : Sv} {T : Nat → Int32} (h : Rl g n t d S T) : cn (T 8) = n := by have := h.n12; rw [h.tn]; exact cn_nI (by omega)
theorem Rl.cn9 {g n t d : Nat} {S : Sv} {T : Nat → Int32} (h : Rl g n t d S T) : cn (T 9) = t := by have := h.t6; rw [h.tt]; exact cn_nI (by omega)
theorem Rl.cn10 {g n t d : Nat} {S : Sv} {T : Nat → Int32} (h : Rl g n t d S T) : cn (T 10) = d := by have := h.d8; rw [h.td]; exact cn_nI (by omega)
theorem Rl.keep1 {g n t d : Nat} {S : Sv} {T : Nat → Int32} (h : Rl g n t d S T) : Z1 (S 1 5) := by
  have h1 := h.rg 5 (by omega)
  have h2 : (0 : Int32) ≤ S 1 5 ∧ S 1 5 ≤ 1 := h1
  have a1 := Int32.le_iff_toInt_le.mp h2.1
  have a2 := Int32.le_iff_toInt_le.mp h2.2
  have b0 : (0 : Int32).toInt = 0 := by decide
  have b1 : (1 : Int32).toInt = 1 := by decide
  rw [b0] at a1
  rw [b1] at a2
  by_cases hz : (S 1 5).toInt = 0
  · exact Or.inl (Int32.toInt_inj.mp (hz.trans b0.symm))
  · exact Or.inr (Int32.toInt_inj.mp (by rw [b1]; omega))
/-- one line's row changes, its place apart -/
theorem LnR.same {S S' : Sv} {T T' : Nat → Int32} {i : Nat} (h : LnR S T i) (hS : ∀ k, S' (3 + i) k = S (3 + i) k) (hT : ∀ f, f < 16 → T' (20 + 16 * i + f) = T (20 + 16 * i + f)) : LnR S' T' i := by
  unfold LnR at h ⊢
  rw [hT 0 (by omega), hT 1 (by omega), hT 2 (by omega), hT 3 (by omega), hT 4 (by omega), hT 5 (by omega), hT 6 (by omega), hT 7 (by omega), hT 8 (by omega), hT 9 (by omega), hT 10 (by omega), hT 11 (by omega), hT 12 (by omega), hT 13 (by omega), hT 14 (by omega)]
  simp only [hS]
  exact h
theorem LnI.same {g : Nat} {S S' : Sv} {i : Nat} (h : LnI g S i) (hS : ∀ k, S' (3 + i) k = S (3 + i) k) : LnI g S' i := by
  unfold LnI at h ⊢
  simp only [hS]
  exact h
theorem TmR.same {n : Nat} {S S' : Sv} {T T' : Nat → Int32} {j : Nat} (h : TmR n S T j) (hS : ∀ k, S' (16 + j) k = S (16 + j) k) (hT : ∀ f, f < 3 → T' (260 + 3 * j + f) = T (260 + 3 * j + f)) : TmR n S' T' j := by
  unfold TmR at h ⊢
  rw [hT 1 (by omega), hT 2 (by omega), show T' (260 + 3 * j) = T (260 + 3 * j) from hT 0 (by omega)]
  simp only [hS]
  exact h
theorem NsR.same {n : Nat} {S S' : Sv} {T T' : Nat → Int32} {k : Nat} (h : NsR n S T k) (hS : ∀ f, S' (23 + k) f = S (23 + k) f) (hT : ∀ f, f < 4 → T' (220 + 4 * k + f) = T (220 + 4 * k + f)) (hP : ∀ i, i < n → S (23 + k) 0 = nI i → S' (3 + i) 7 = S (3 + i) 7) : NsR n S' T' k := by
  unfold NsR at h ⊢
  rw [hT 1 (by omega), hT 2 (by omega), hT 3 (by omega), show T' (220 + 4 * k) = T (220 + 4 * k) from hT 0 (by omega)]
  simp only [hS]
  obtain ⟨a1, a2, a3, a4, ⟨i, i1, i2, i3⟩, a6⟩ := h
  exact ⟨a1, a2, a3, a4, ⟨i, i1, i2, by rw [hP i i1 i2]; exact i3⟩, a6⟩
theorem Hd.same {g n t d : Nat} {S S' : Sv} {T T' : Nat → Int32} (h : Hd g n t d S T) (h0 : ∀ k, S' 0 k = S 0 k) (h1 : ∀ k, S' 1 k = S 1 k) (hT : ∀ k, k < 14 → T' k = T k) : Hd g n t d S' T' := by
  unfold Hd at h ⊢
  rw [hT 7 (by omega), hT 8 (by omega), hT 9 (by omega), hT 10 (by omega), hT 11 (by omega), hT 12 (by omega), hT 13 (by omega)]
  simp only [h0, h1]
  obtain ⟨a1, a2, a3, a4, a5, a6, a7, a8, a9⟩ := h
  exact ⟨a1, a2, a3, a4, a5, a6, a7, fun k hk => (hT k (by omega)).trans (a8 k hk), a9⟩
theorem Rl.line {g n t d : Nat} {S S' : Sv} {T T' : Nat → Int32} {i : Nat} (h : Rl g n t d S T) (hi : i < n) (hS : ∀ p k, ¬ p = 3 + i → S' p k = S p k) (hT : ∀ k, ¬ (20 + 16 * i ≤ k ∧ k < 36 + 16 * i) → T' k = T k) (h7 : S' (3 + i) 7 = S (3 + i) 7) (hL : LnR S' T' i) (hI : LnI g S' i) : Rl g n t d S' T' := by
  have hn := h.n12
  have ht := h.t6
  have hd := h.d8
  obtain ⟨a1, a2, a3, a4, a5, a6⟩ := h
  have e7 : ∀ j, S' (3 + j) 7 = S (3 + j) 7 := fun j => by
    by_cases hj : j = i
    · rw [hj]; exact h7
    · exact hS _ _ (by omega)
  refine ⟨a1.same (fun k => hS _ _ (by omega)) (fun k => hS _ _ (by omega)) (fun k hk => hT _ (by omega)), fun j hj => ?_, fun j h1 h2 f hf => ?_, fun j hj => ?_, fun k hk => ?_, fun j hj => ?_⟩
  · by_cases hji : j = i
    · rw [hji]; exact ⟨hL, hI⟩
    · exact ⟨(a2 j hj).1.same (fun k => hS _ _ (by omega)) (fun f hf => hT _ (by omega)), (a2 j hj).2.same (fun k => hS _ _ (by omega))⟩
  · rw [hT _ (by omega)]
    exact a3 j h1 h2 f hf
  · exact (a4 j hj).same (fun k => hS _ _ (by omega)) (fun f hf => hT _ (by omega))
  · exact (a5 k hk).same (fun f => hS _ _ (by omega)) (fun f hf => hT _ (by omega)) (fun j _ _ => e7 j)
  · rcases a6 j hj with q | ⟨k, k1, k2, k3⟩
    · exact Or.inl ((e7 j).trans q)
    · exact Or.inr ⟨k, k1, (e7 j).trans k2, (hS _ _ (by omega)).trans k3⟩
/-! an edge -/
set_option maxHeartbeats 4000000 in
theorem r_edge {g n t d : Nat} {S M : Sv} {i : Nat} {kp : Int32} (h : Rl g n t d S (M 1)) (hi : i < n) (ek : kp = if S 1 5 = 1 then 1 else 0) :
    (p_X7_edge M i).1 = (p_X1_takeEdge S i kp).1 ∧ Rl g n t d (p_X1_takeEdge S i kp).2 ((p_X7_edge M i).2 1) := by
  have hz := h.keep1
  rw [hz.c] at ek
  have hk : M 1 5 = S 1 5 := h.st 5 (by omega)
  have key : (p_X7_edge M i).1 = (p_X1_takeEdge S i kp).1 ∧ LnR (p_X1_takeEdge S i kp).2 ((p_X7_edge M i).2 1) i ∧ LnI g (p_X1_takeEdge S i kp).2 i ∧ (p_X1_takeEdge S i kp).2 (3 + i) 7 = S (3 + i) 7 := by
    obtain ⟨⟨r0, r1, r2, r3, r4, r5, r6, r7, r8, r9, r10, r11, r12, r13, r14⟩, i0, i1, i1p, i3, i4, i5, i8, i11⟩ := h.2.1 i hi
    have r0' : M 1 (20 + 16 * i) = S (3 + i) 0 := r0
    subst ek
    unfold LnR LnI p_X1_takeEdge p_X7_edge p_X7_turn p_X7_waits p_X7_of p_X7_book
    rcases i4 with h4 | h4 <;> rcases i5 with h5 | h5 <;> rcases hz with hz | hz <;>
      simp (disch := omega) [us_at, us_p, us_k, r0', r1, r2, r3, r4, r5, r6, r7, r8, r9, r10, r11, r12, r13, r14, i0, i1, i1p, i3, h4, h5, hz, hk, i8, i11, z1_0, z1_1]
  exact ⟨key.1, h.line hi (fun p k hp => fr_takeEdge hp) (fun k hk => fr_edge (by omega)) key.2.2.2 key.2.1 key.2.2.1⟩
