/-! the top is served, waits grow -/
def hs (x : Int32) (k : Int32) : Int32 := p_L_has x k
/-- the lowest device lets go, as the law has it -/
def clr (x : Int32) : Int32 := if p_L_has x 0 = 0 then (if p_L_has x 1 = 0 then (if p_L_has x 2 = 0 then (if p_L_has x 3 = 0 then x else x ^^^ ((1 : Int32) <<< ((3 : Int32) &&& 31))) else x ^^^ ((1 : Int32) <<< ((2 : Int32) &&& 31))) else x ^^^ ((1 : Int32) <<< ((1 : Int32) &&& 31))) else x ^^^ ((1 : Int32) <<< ((0 : Int32) &&& 31))
theorem clr_dec : ∀ q, q < 16 → clr (nI q) = nI q &&& (nI q - 1) := by decide +kernel
theorem clr_eq {x : Int32} (h : Bn x 15) : clr x = x &&& (x - 1) := by
  obtain ⟨q, q1, rfl⟩ := bn_to h
  exact clr_dec q (by omega)
/-- the law's rows when the line l leaves -/
def lvA (A : Sv) (l : Nat) (lev : Int32) : Sv :=
  let S4 : Sv := us A 7 l (A 7 l + 1)
  let S5 : Sv := us S4 3 l (-6)
  if lev = 1 then us (us (us S5 2 l (clr (S5 2 l))) 0 l (if clr (S5 2 l) = 0 then 0 else 1)) 1 l 0 else S5
theorem us_self {S : Sv} {p k : Nat} : us S p k (S p k) = S := by
  funext p' k'
  unfold us
  split
  · next h => rw [h.1, h.2]
  · rfl
theorem t4_eq {B A : Sv} {d : Nat} {u19 : Int32} : g_T4 B A d u19 = (if nI d ≤ 0 then (A, nI d, u19) else
    if us A 13 (d - 1) (A 13 (d - 1) - 1) 13 (d - 1) = 0 then (lvA (us A 13 (d - 1) (A 13 (d - 1) - 1)) (cn (us A 13 (d - 1) (A 13 (d - 1) - 1) 11 (d - 1))) (p_X3_numberOfLine B (us A 13 (d - 1) (A 13 (d - 1) - 1) 11 (d - 1)) 3), nI d + (-1), u19 + 1) else (us A 13 (d - 1) (A 13 (d - 1) - 1), nI d, u19 + 1)) := by
  unfold g_T4
  try dsimp only
  by_cases h1 : nI d ≤ 0
  · rw [if_pos h1, if_pos h1]
  · rw [if_neg h1, if_neg h1]
    generalize us A 13 (d - 1) (A 13 (d - 1) - 1) = S2
    by_cases h2 : S2 13 (d - 1) = 0
    · rw [if_pos h2, if_pos h2]
      generalize cn (S2 11 (d - 1)) = l
      generalize p_X3_numberOfLine B (S2 11 (d - 1)) 3 = lev
      unfold lvA
      try dsimp only
      by_cases h3 : lev = 1
      · rw [if_pos h3, if_pos h3]
        generalize us (us S2 7 l (S2 7 l + 1)) 3 l (-6) = S5
        unfold clr
        by_cases q0 : p_L_has (S5 2 l) 0 = 0
        · by_cases q1 : p_L_has (S5 2 l) 1 = 0
          · by_cases q2 : p_L_has (S5 2 l) 2 = 0
            · by_cases q3 : p_L_has (S5 2 l) 3 = 0
              · simp only [if_pos q0, if_pos q1, if_pos q2, if_pos q3, us_self]
              · simp only [if_pos q0, if_pos q1, if_pos q2, if_neg q3, us_at]
            · simp only [if_pos q0, if_pos q1, if_neg q2, us_at]
          · simp only [if_pos q0, if_neg q1, us_at]
        · simp only [if_neg q0, us_at]
      · rw [if_neg h3, if_neg h3]
    · rw [if_neg h2, if_neg h2]
theorem lvA_o {A : Sv} {l p k : Nat} {lev : Int32} (h : ¬ ((p = 0 ∨ p = 1 ∨ p = 2 ∨ p = 3 ∨ p = 7) ∧ k = l)) : lvA A l lev p k = A p k := by
  unfold lvA
  try dsimp only
  split
  · rw [us_ne _ _ (by omega), us_ne _ _ (by omega), us_ne _ _ (by omega), us_ne _ _ (by omega), us_ne _ _ (by omega)]
  · rw [us_ne _ _ (by omega), us_ne _ _ (by omega)]
theorem lvA_0 {A : Sv} {l : Nat} {lev : Int32} (h : ¬ lev = 1) : lvA A l lev 0 l = A 0 l ∧ lvA A l lev 1 l = A 1 l ∧ lvA A l lev 2 l = A 2 l ∧ lvA A l lev 3 l = (-6) ∧ lvA A l lev 7 l = A 7 l + 1 := by
  unfold lvA
  try dsimp only
  rw [if_neg h]
  simp (disch := omega) [us_at, us_p]
theorem lvA_1 {A : Sv} {l : Nat} : lvA A l 1 0 l = (if clr (A 2 l) = 0 then 0 else 1) ∧ lvA A l 1 1 l = 0 ∧ lvA A l 1 2 l = clr (A 2 l) ∧ lvA A l 1 3 l = (-6) ∧ lvA A l 1 7 l = A 7 l + 1 := by
  unfold lvA
  try dsimp only
  rw [if_pos rfl]
  simp (disch := omega) [us_at, us_p]
/-- the service on top gets its tick -/
theorem KS.tick1 {w a c g u n t e q : Nat} {v : Nat → Nat} {S S' : Sv} (h : KS w a c g u v n t (e + 1) S) (hS : ∀ p k, ¬ (p = 0 ∧ k = 8) → ¬ (p = 23 + e ∧ k = 2) → S' p k = S p k) (h2 : S' (23 + e) 2 = nI q) (hq : 0 < q ∧ q ≤ 59) : KS w a c g u v n t (e + 1) S' := by
  have hn := h.n12
  have ht := h.t6
  obtain ⟨a1, a2, a3, a4, a5⟩ := h
  refine ⟨a1.same (fun k h8 h10 => hS _ _ (by omega) (by omega)) (fun k => hS _ _ (by omega) (by omega)), fun j hj => ⟨(a2 j hj).1.same (fun k => hS _ _ (by omega) (by omega)), (a2 j hj).2.same (hS _ _ (by omega) (by omega)) (fun k hk => hS _ _ (by omega) (by omega))⟩, fun j hj => (a3 j hj).same (fun f => hS _ _ (by omega) (by omega)) (fun i _ => hS _ _ (by omega) (by omega)), fun k hk => ?_, fun k hk => ?_⟩
  · obtain ⟨⟨i, i1, i2, i3⟩, ⟨r, r1, r2⟩, k3, gg, g1, g2⟩ := a4 k hk
    refine ⟨⟨i, i1, by rw [hS _ _ (by omega) (by omega)]; exact i2, by rw [hS _ _ (by omega) (by omega)]; exact i3⟩, ⟨r, r1, by rw [hS _ _ (by omega) (by omega)]; exact r2⟩, ?_, gg, g1, by rw [hS _ _ (by omega) (by omega)]; exact g2⟩
    by_cases hke : k = e
    · rw [hke]; exact ⟨q, hq.1, hq.2, h2⟩
    · rw [hS _ _ (by omega) (by omega)]; exact k3
  · rw [hS (23 + k) _ (by omega) (by omega), hS (23 + (k + 1)) _ (by omega) (by omega)]
    exact a5 k hk
/-- the service on top ends, its line leaves -/
theorem KS.leave {w a c g u n t e i : Nat} {v : Nat → Nat} {S S' : Sv} (h : KS w a c g u v n t (e + 1) S) (hi : i < n) (hl : S (23 + e) 0 = nI i) (h7i : S (3 + i) 7 = nI e) (hS : ∀ p k, ¬ (p = 0 ∧ (k = 7 ∨ k = 8)) → ¬ p = 23 + e → ¬ p = 3 + i → S' p k = S p k) (e7 : S' 0 7 = nI e) (l7 : S' (3 + i) 7 = (-6)) (l3 : S' (3 + i) 3 = S (3 + i) 3) (hL : LK w a c S' i) : KS w a c g u v n t e S' := by
  have hn := h.n12
  have ht := h.t6
  have hd := h.d8
  obtain ⟨⟨b1, b2, b3, b4, b5, b6, b7, b8, ⟨x, x1, x2, x3⟩, b10⟩, a2, a3, a4, a5⟩ := h
  refine ⟨⟨by rw [hS _ _ (by omega) (by omega) (by omega)]; exact b1, b2, by rw [hS _ _ (by omega) (by omega) (by omega)]; exact b3, b4, e7, by omega, by rw [hS _ _ (by omega) (by omega) (by omega)]; exact b7, b8, ⟨x, by omega, x2, by rw [hS _ _ (by omega) (by omega) (by omega)]; exact x3⟩, fun k hk => by rw [hS _ _ (by omega) (by omega) (by omega)]; exact b10 k hk⟩, fun j hj => ?_, fun j hj => ?_, fun k hk => ?_, fun k hk => ?_⟩
  · by_cases hji : j = i
    · rw [hji]
      exact ⟨hL, Or.inl l7⟩
    · refine ⟨(a2 j hj).1.same (fun k => hS _ _ (by omega) (by omega) (by omega)), ?_⟩
      rcases (a2 j hj).2 with q | ⟨k, k1, k2, k3⟩
      · exact Or.inl (by rw [hS _ _ (by omega) (by omega) (by omega)]; exact q)
      · have hke : ¬ k = e := fun z => hji (nI_inj (by rw [← k3, z, hl]))
        exact Or.inr ⟨k, by omega, by rw [hS _ _ (by omega) (by omega) (by omega)]; exact k2, by rw [hS _ _ (by omega) (by omega) (by omega)]; exact k3⟩
  · refine (a3 j hj).same (fun f => hS _ _ (by omega) (by omega) (by omega)) (fun i' _ => ?_)
    by_cases hji : i' = i
    · rw [hji]; exact l3
    · exact hS _ _ (by omega) (by omega) (by omega)
  · obtain ⟨⟨i', i1, i2, i3⟩, k1, k2, gg, g1, g2⟩ := a4 k (by omega)
    have hii : ¬ i' = i := fun z => by
      rw [z, h7i] at i3
      exact absurd (nI_inj i3) (by omega)
    exact ⟨⟨i', i1, by rw [hS _ _ (by omega) (by omega) (by omega)]; exact i2, by rw [hS _ _ (by omega) (by omega) (by omega)]; exact i3⟩, by rw [hS _ _ (by omega) (by omega) (by omega)]; exact k1, by rw [hS _ _ (by omega) (by omega) (by omega)]; exact k2, gg, g1, by rw [hS _ _ (by omega) (by omega) (by omega)]; exact g2⟩
  · rw [hS (23 + k) _ (by omega) (by omega) (by omega), hS (23 + (k + 1)) _ (by omega) (by omega) (by omega)]
    exact a5 k (by omega)
theorem sub_1 {x y : Int32} (h : x - y = 1) : x - (y + 1) = 0 := by
  rw [Int32.sub_eq_add_neg, Int32.neg_add, Int32.sub_eq_add_neg (-y) 1, ← Int32.add_assoc, ← Int32.sub_eq_add_neg, ← Int32.sub_eq_add_neg, h]
  decide
/-- a line leaves, from the numbers T in which its service has ended -/
theorem lk_leave {w a c i e : Nat} {S T : Sv} (h : LK w a c S i) (h7 : S (3 + i) 7 = nI e) (he : e < 2 ^ 31) (hT : ∀ k, T (3 + i) k = S (3 + i) k) : LK w a c (p_X1_leaveNest T i) i ∧ p_X1_leaveNest T i (3 + i) 7 = (-6) ∧ p_X1_leaveNest T i (3 + i) 12 = S (3 + i) 12 + 1 ∧ p_X1_leaveNest T i (3 + i) 8 = (if S (3 + i) 3 = 0 then S (3 + i) 8 else S (3 + i) 8 &&& (S (3 + i) 8 - 1)) ∧
    (S (3 + i) 3 = 0 → p_X1_leaveNest T i (3 + i) 5 = S (3 + i) 5 ∧ p_X1_leaveNest T i (3 + i) 6 = S (3 + i) 6) ∧ (¬ S (3 + i) 3 = 0 → p_X1_leaveNest T i (3 + i) 5 = (if S (3 + i) 8 &&& (S (3 + i) 8 - 1) = 0 then 0 else 1) ∧ (p_X1_leaveNest T i (3 + i) 5 = 1 → p_X1_leaveNest T i (3 + i) 6 = 0)) ∧
    ∀ k, ¬ k = 5 → ¬ k = 6 → ¬ k = 7 → ¬ k = 8 → ¬ k = 12 → p_X1_leaveNest T i (3 + i) k = S (3 + i) k := by
  obtain ⟨z0, z1, z2, z3, z4, z5, z8, z6, zd, zl, zb, z13, z9⟩ := h
  rw [h7, if_neg (nI_n6 he)] at zb
  have zb' := sub_1 zb
  rw [leave_c]
  by_cases h3 : S (3 + i) 3 = 0
  · rw [if_pos (by rw [hT]; exact h3)]
    generalize hU : us (us T (3 + i) 7 (-6)) (3 + i) 12 (T (3 + i) 12 + 1) = U
    have o : ∀ k, ¬ k = 7 → ¬ k = 12 → U (3 + i) k = S (3 + i) k := fun k k7 k12 => by rw [← hU, us_k k12, us_k k7, hT]
    have e7 : U (3 + i) 7 = (-6) := by rw [← hU, us_k (by decide), us_at]
    have e12 : U (3 + i) 12 = S (3 + i) 12 + 1 := by rw [← hU, us_at, hT]
    refine ⟨?_, e7, e12, by rw [o 8 (by decide) (by decide), if_pos h3], fun _ => ⟨o 5 (by decide) (by decide), o 6 (by decide) (by decide)⟩, fun q => absurd h3 q, fun k _ _ k7 _ k12 => o k k7 k12⟩
    unfold LK
    rw [o 0 (by decide) (by decide), o 1 (by decide) (by decide), o 2 (by decide) (by decide), o 3 (by decide) (by decide), o 4 (by decide) (by decide), o 5 (by decide) (by decide), o 6 (by decide) (by decide), o 8 (by decide) (by decide), o 9 (by decide) (by decide), o 10 (by decide) (by decide), o 11 (by decide) (by decide), o 13 (by decide) (by decide), o 14 (by decide) (by decide), e7, e12, zb']
    exact ⟨z0, z1, z2, z3, z4, z5, z8, z6, zd, fun q => absurd (h3.symm.trans q) (by decide), by decide, z13, z9⟩
  · have h31 := z3.resolve_left h3
    have h50 : S (3 + i) 5 = 0 := by
      rw [zl h31, h7, if_neg (nI_n6 he)]
      split <;> rfl
    rw [if_neg (by rw [hT]; exact h3)]
    generalize hU : us (us (us T (3 + i) 7 (-6)) (3 + i) 12 (T (3 + i) 12 + 1)) (3 + i) 8 (T (3 + i) 8 &&& (T (3 + i) 8 - 1)) = U
    have o : ∀ k, ¬ k = 7 → ¬ k = 12 → ¬ k = 8 → U (3 + i) k = S (3 + i) k := fun k k7 k12 k8 => by rw [← hU, us_k k8, us_k k12, us_k k7, hT]
    have e7 : U (3 + i) 7 = (-6) := by rw [← hU, us_k (by decide), us_k (by decide), us_at]
    have e12 : U (3 + i) 12 = S (3 + i) 12 + 1 := by rw [← hU, us_k (by decide), us_at, hT]
    have e8 : U (3 + i) 8 = S (3 + i) 8 &&& (S (3 + i) 8 - 1) := by rw [← hU, us_at, hT]
    have zU : Z1 (U (3 + i) 5) := by rw [o 5 (by decide) (by decide) (by decide)]; exact z5
    obtain ⟨f, f5, f6⟩ := fo_f zU
    rw [e8, e7, if_pos rfl] at f5
    rw [o 5 (by decide) (by decide) (by decide), h50, if_pos rfl] at f6
    refine ⟨lk_follow ?_ ?_ ?_ ?_ ?_, by rw [f 7 (by decide) (by decide), e7], by rw [f 12 (by decide) (by decide), e12], by rw [f 8 (by decide) (by decide), e8, if_neg h3], fun q => absurd q h3, fun _ => ⟨f5, f6⟩, fun k k5 k6 k7 k8 k12 => by rw [f k k5 k6, o k k7 k12 k8]⟩
    · rw [o 0 (by decide) (by decide) (by decide), o 1 (by decide) (by decide) (by decide), o 2 (by decide) (by decide) (by decide), o 3 (by decide) (by decide) (by decide), o 4 (by decide) (by decide) (by decide), o 5 (by decide) (by decide) (by decide), o 6 (by decide) (by decide) (by decide), e8]
      exact ⟨z0, z1, z2, z3, z4, z5, bn_and z8, z6⟩
    · rw [o 3 (by decide) (by decide) (by decide)]
      exact fun q => absurd q h3
    · rw [o 11 (by decide) (by decide) (by decide), e12, e7, zb']
      decide
    · rw [o 13 (by decide) (by decide) (by decide), o 14 (by decide) (by decide) (by decide)]
      exact z13
    · rw [o 10 (by decide) (by decide) (by decide), o 9 (by decide) (by decide) (by decide)]
      exact z9
section SRV
variable {w a c g u n t d wB aB cB gB uB tB dB : Nat} {v vB : Nat → Nat} {B S A : Sv}
theorem t4_all (hB : KS wB aB cB gB uB vB n tB dB B) (h : SM w a c g u n t d v B S A) : ∃ d', d' ≤ d ∧ (g_T4 B A d (S 0 8)).2.1 = nI d' ∧ SM w a c g u n t d' v B (p_X3_serveTop S) (g_T4 B A d (S 0 8)).1 ∧ FrT S (p_X3_serveTop S) A (g_T4 B A d (S 0 8)).1 ∧ (g_T4 B A d (S 0 8)).2.2 = p_X3_serveTop S 0 8 ∧ p_X3_serveTop S 0 9 = S 0 9 ∧ p_X3_serveTop S 0 10 = S 0 10 := by
  obtain ⟨hK, hA, hN⟩ := id h
  have hn := hK.n12
  have ht := hK.t6
  have hd8 := hK.d8
  rw [t4_eq]
  cases d with
  | zero =>
    rw [if_pos (by decide)]
    have e : p_X3_serveTop S = S := by
      unfold p_X3_serveTop
      try dsimp only
      rw [hK.ed, if_pos (by rfl)]
    rw [e]
    exact ⟨0, Nat.le_refl _, rfl, h, FrT.rf, rfl, rfl, rfl⟩
  | succ e =>
    rw [if_neg (show ¬ nI (e + 1) ≤ 0 from nI_ge (a := 0) (by omega) (by omega)), us_at, us_p (p := 13) (p' := 11) (by decide), show e + 1 - 1 = e by omega, (hN e (by omega)).1, (hN e (by omega)).2.2]
    obtain ⟨⟨i, i1, i2, i3⟩, -, ⟨q, q1, q2, q3⟩, -⟩ := hK.2.2.2.1 e (by omega)
    rw [sv_c hK.ed (by omega), i2, cn_nI (show i < 2 ^ 31 by omega), q3, show q = q - 1 + 1 by omega, nI_pred, hB.nl3 i1]
    by_cases hq : q - 1 = 0
    · rw [hq, if_neg (show ¬ (0 : Int32) < nI 0 by decide), if_pos (by rfl)]
      have h3B : B (3 + i) 3 = S (3 + i) 3 := ((hA i i1).2.2.2.2.2.2.2.2.2.2.2 3 (by omega)).symm
      rw [h3B]
      generalize hT : us (us (us S 0 8 (S 0 8 + 1)) (23 + e) 2 (nI 0)) 0 7 (S 0 7 - 1) = T
      have oT : ∀ p k, ¬ (p = 0 ∧ (k = 7 ∨ k = 8)) → ¬ (p = 23 + e ∧ k = 2) → T p k = S p k := fun p k p0 p1 => by rw [← hT, us_ne _ _ (by omega), us_ne _ _ p1, us_ne _ _ (by omega)]
      have T7 : T 0 7 = nI e := by rw [← hT, us_at, hK.ed, nI_pred]
      have T8 : T 0 8 = S 0 8 + 1 := by rw [← hT, us_k (by decide), us_p (by omega), us_at]
      obtain ⟨L, L7, L12, L8, L0, L1, Lo⟩ := lk_leave (T := T) (hK.2.1 i i1).1 i3 (by omega) (fun k => oT _ _ (by omega) (by omega))
      have oL : ∀ p k, ¬ p = 3 + i → p_X1_leaveNest T i p k = T p k := fun p k hp => fr_leaveNest hp
      generalize p_X1_leaveNest T i = S' at L L7 L12 L8 L0 L1 Lo oL ⊢
      have hK' := hK.leave (S' := S') i1 i2 i3 (fun p k p0 p1 p2 => by rw [oL p k p2, oT p k p0 (by omega)]) (by rw [oL _ _ (by omega), T7]) L7 (Lo 3 (by decide) (by decide) (by decide) (by decide) (by decide)) L
      have oA : ∀ p k, ¬ ((p = 0 ∨ p = 1 ∨ p = 2 ∨ p = 3 ∨ p = 7) ∧ k = i) → ¬ (p = 13 ∧ k = e) → lvA (us A 13 e (nI 0)) i (S (3 + i) 3) p k = A p k := fun p k p1 p2 => by rw [lvA_o p1, us_ne _ _ p2]
      obtain ⟨a0, a1, a2, a3, a4, a5, a6, a7, a8, a9, a10, af⟩ := hA i i1
      obtain ⟨z0, z1, z2, z3, z4, z5, z8, -⟩ := (hK.2.1 i i1).1
      have u0 : us A 13 e (nI 0) 0 i = S (3 + i) 5 := (us_p (by decide)).trans a0
      have u1 : us A 13 e (nI 0) 1 i = A 1 i := us_p (by decide)
      have u2 : us A 13 e (nI 0) 2 i = S (3 + i) 8 := (us_p (by decide)).trans a2
      have u7 : us A 13 e (nI 0) 7 i = S (3 + i) 12 := (us_p (by decide)).trans a7
      have hAi : AR B S' (lvA (us A 13 e (nI 0)) i (S (3 + i) 3)) i := by
        have rest : ∀ f, f < 5 → S' (3 + i) f = B (3 + i) f := fun f hf => by
          rw [Lo f (by omega) (by omega) (by omega) (by omega) (by omega)]
          exact af f hf
        unfold AR
        rw [oA 4 i (by omega) (by omega), oA 5 i (by omega) (by omega), oA 6 i (by omega) (by omega), oA 8 i (by omega) (by omega), oA 9 i (by omega) (by omega), oA 10 i (by omega) (by omega), Lo 9 (by decide) (by decide) (by decide) (by decide) (by decide), Lo 10 (by decide) (by decide) (by decide) (by decide) (by decide), Lo 11 (by decide) (by decide) (by decide) (by decide) (by decide), Lo 13 (by decide) (by decide) (by decide) (by decide) (by decide), Lo 14 (by decide) (by decide) (by decide) (by decide) (by decide), Lo 15 (by decide) (by decide) (by decide) (by decide) (by decide), L7, L8, L12]
        rcases z3 with h3 | h3
        · obtain ⟨y0, y1, y2, y3, y7⟩ := @lvA_0 (us A 13 e (nI 0)) i (S (3 + i) 3) (by rw [h3]; decide)
          obtain ⟨L5, L6⟩ := L0 h3
          rw [y0, y1, y2, y3, y7, u0, u1, u2, u7, L5, L6, if_pos h3]
          exact ⟨rfl, a1, rfl, rfl, a4, a5, a6, rfl, a8, a9, a10, rest⟩
        · have h30 : ¬ S (3 + i) 3 = 0 := by rw [h3]; decide
          obtain ⟨L5, L6⟩ := L1 h30
          rw [h3] at *
          obtain ⟨y0, y1, y2, y3, y7⟩ := @lvA_1 (us A 13 e (nI 0)) i
          rw [y0, y1, y2, y3, y7, u2, u7, L5, if_neg (show ¬ (1 : Int32) = 0 by decide), clr_eq z8]
          exact ⟨rfl, fun z => (L6 (by rw [L5]; exact z)).symm, rfl, rfl, a4, a5, a6, rfl, a8, a9, a10, rest⟩
      generalize lvA (us A 13 e (nI 0)) i (S (3 + i) 3) = A' at oA hAi ⊢
      refine ⟨e, by omega, dm1 (by omega) (by omega), ⟨hK', fun j hj => ?_, fun k hk => ?_⟩, ⟨fun p k hp => by rw [oL _ _ (by omega), oT _ _ (by omega) (by omega)], fun k => oA _ _ (by omega) (by omega)⟩, by rw [oL _ _ (by omega), T8], by rw [oL _ _ (by omega), oT _ _ (by omega) (by omega)], by rw [oL _ _ (by omega), oT _ _ (by omega) (by omega)]⟩
      · by_cases hji : j = i
        · rw [hji]; exact hAi
        · exact (hA j hj).same (fun p hp => oA _ _ (by omega) (by omega)) (fun k => by rw [oL _ _ (by omega), oT _ _ (by omega) (by omega)])
      · show A' 11 k = _ ∧ A' 12 k = _ ∧ A' 13 k = _
        rw [oA 11 k (by omega) (by omega), oA 12 k (by omega) (by omega), oA 13 k (by omega) (by omega), oL (23 + k) _ (by omega), oL (23 + k) _ (by omega), oL (23 + k) _ (by omega), oT (23 + k) _ (by omega) (by omega), oT (23 + k) _ (by omega) (by omega), oT (23 + k) _ (by omega) (by omega)]
        exact hN k (by omega)
    · rw [if_pos (show (0 : Int32) < nI (q - 1) from nI_lt (a := 0) (by omega) (by omega)), if_neg (nI_ne0 (by omega) (by omega))]
      have oS : ∀ p k, ¬ (p = 0 ∧ k = 8) → ¬ (p = 23 + e ∧ k = 2) → us (us S 0 8 (S 0 8 + 1)) (23 + e) 2 (nI (q - 1)) p k = S p k := fun p k p0 p1 => by rw [us_ne _ _ p1, us_ne _ _ p0]
      have e2 : us (us S 0 8 (S 0 8 + 1)) (23 + e) 2 (nI (q - 1)) (23 + e) 2 = nI (q - 1) := us_at _ _ _ _
      have e8 : us (us S 0 8 (S 0 8 + 1)) (23 + e) 2 (nI (q - 1)) 0 8 = S 0 8 + 1 := by rw [us_p (by omega), us_at]
      generalize us (us S 0 8 (S 0 8 + 1)) (23 + e) 2 (nI (q - 1)) = S' at oS e2 e8 ⊢
      refine ⟨e + 1, Nat.le_refl _, rfl, ⟨hK.tick1 oS e2 (by omega), fun j hj => (hA j hj).same (fun p hp => us_p (by omega)) (fun k => oS _ _ (by omega) (by omega)), fun k hk => ?_⟩, ⟨fun p k hp => oS _ _ (by omega) (by omega), fun k => (us_p (by decide) : us A 13 e (nI (q - 1)) 14 k = A 14 k)⟩, e8.symm, oS _ _ (by omega) (by omega), oS _ _ (by omega) (by omega)⟩
      show us A 13 e (nI (q - 1)) 11 k = _ ∧ us A 13 e (nI (q - 1)) 12 k = _ ∧ us A 13 e (nI (q - 1)) 13 k = _
      by_cases hke : k = e
      · rw [hke, us_at, us_p (by decide), us_p (by decide), e2, oS _ _ (by omega) (by omega), oS _ _ (by omega) (by omega)]
        exact ⟨(hN e (by omega)).1, (hN e (by omega)).2.1, rfl⟩
      · rw [us_p (by decide), us_p (by decide), us_k hke, oS _ _ (by omega) (by omega), oS _ _ (by omega) (by omega), oS _ _ (by omega) (by omega)]
        exact hN k hk
end SRV
