/-! waits grow; the whole tick -/
theorem KS.rows {w a c w' a' c' g g' u n t d : Nat} {v v' : Nat → Nat} {S S' : Sv} (h : KS w a c g u v n t d S) (hS : ∀ p k, ¬ (3 ≤ p ∧ p < 3 + n) → ¬ (p = 0 ∧ k = 0) → S' p k = S p k) (h7 : ∀ i, i < n → S' (3 + i) 7 = S (3 + i) 7) (h3 : ∀ i, i < n → S' (3 + i) 3 = S (3 + i) 3) (hL : ∀ i, i < n → LK w' a' c' S' i) (hg : S' 0 0 = nI g') (hg' : g' ≤ 1000) (hv : ∀ j, j < t → v j = v' j) : KS w' a' c' g' u v' n t d S' := by
  have hn := h.n12
  have ht := h.t6
  have hd := h.d8
  have h := h.vm hv
  obtain ⟨⟨b1, b2, b3, b4, b5, b6, b7, b8, ⟨e, e1, e2, e3⟩, b10⟩, a2, a3, a4, a5⟩ := h
  refine ⟨⟨by rw [hS _ _ (by omega) (by omega)]; exact b1, b2, by rw [hS _ _ (by omega) (by omega)]; exact b3, b4, by rw [hS _ _ (by omega) (by omega)]; exact b5, b6, hg, hg', ⟨e, e1, e2, by rw [hS _ _ (by omega) (by omega)]; exact e3⟩, fun k hk => by rw [hS _ _ (by omega) (by omega)]; exact b10 k hk⟩, fun j hj => ⟨hL j hj, (a2 j hj).2.same (h7 j hj) (fun k hk => hS _ _ (by omega) (by omega))⟩, fun j hj => (a3 j hj).same (fun f => hS _ _ (by omega) (by omega)) (fun i hi => h3 i hi), fun k hk => (a4 k hk).same (fun f => hS _ _ (by omega) (by omega)) (fun i hi _ => h7 i hi), fun k hk => ?_⟩
  rw [hS (23 + k) _ (by omega) (by omega), hS (23 + (k + 1)) _ (by omega) (by omega)]
  exact a5 k hk
theorem gr_it {S : Sv} : ∀ m, m ≤ 12 → (∀ p k, ¬ (3 ≤ p ∧ p < 3 + m ∧ k = 6) → itN (q_X3_growWaits_2 S) m S p k = S p k) ∧ ∀ i, i < m → itN (q_X3_growWaits_2 S) m S (3 + i) 6 = (if S (3 + i) 5 = 0 then S (3 + i) 6 else S (3 + i) 6 + 1) := by
  intro m
  induction m with
  | zero => intro _; exact ⟨fun _ _ _ => rfl, fun i hi => absurd hi (by omega)⟩
  | succ m ih =>
    intro hm
    rw [itN_s]
    obtain ⟨i1, i2⟩ := ih (by omega)
    generalize itN (q_X3_growWaits_2 S) m S = σ at i1 i2 ⊢
    have e5 : σ (3 + m) 5 = S (3 + m) 5 := i1 _ _ (by omega)
    have e6 : σ (3 + m) 6 = S (3 + m) 6 := i1 _ _ (by omega)
    unfold q_X3_growWaits_2
    try dsimp only
    rw [e5, e6]
    by_cases h5 : S (3 + m) 5 = 0
    · rw [if_pos h5]
      refine ⟨fun p k hp => i1 p k (by omega), fun i hi => ?_⟩
      by_cases him : i = m
      · rw [him, if_pos h5]; exact e6
      · exact i2 i (by omega)
    · rw [if_neg h5]
      refine ⟨fun p k hp => by rw [us_ne _ _ (by omega)]; exact i1 p k (by omega), fun i hi => ?_⟩
      by_cases him : i = m
      · rw [him, us_at, if_neg h5]
      · rw [us_p (by omega)]; exact i2 i (by omega)
theorem g5_it {w a c g u n t d : Nat} {v : Nat → Nat} {B A : Sv} (h : KS w a c g u v n t d B) : ∀ m, m ≤ n → (∀ p k, ¬ ((p = 1 ∨ p = 15) ∧ k < m) → itN (q_T5_966 B A n) m A p k = A p k) ∧ ∀ i, i < m → itN (q_T5_966 B A n) m A 1 i = A 1 i + A 0 i ∧ itN (q_T5_966 B A n) m A 15 i = B (3 + i) 4 := by
  intro m
  induction m with
  | zero => intro _; exact ⟨fun _ _ _ => rfl, fun i hi => absurd hi (by omega)⟩
  | succ m ih =>
    intro hm
    rw [itN_s]
    obtain ⟨i1, i2⟩ := ih (by omega)
    generalize itN (q_T5_966 B A n) m A = σ at i1 i2 ⊢
    unfold q_T5_966
    try dsimp only
    rw [i1 1 m (by omega), i1 0 m (by omega), h.nl4 (by omega)]
    refine ⟨fun p k hp => by rw [us_ne _ _ (by omega), us_ne _ _ (by omega)]; exact i1 p k (by omega), fun i hi => ?_⟩
    by_cases him : i = m
    · rw [him, us_at, us_p (by decide), us_at]
      exact ⟨rfl, rfl⟩
    · exact ⟨by rw [us_ne _ _ (by omega), us_ne _ _ (by omega)]; exact (i2 i (by omega)).1, by rw [us_ne _ _ (by omega), us_ne _ _ (by omega)]; exact (i2 i (by omega)).2⟩
section TCK
variable {w a c g u n t d wB aB cB gB uB tB dB : Nat} {v vB : Nat → Nat} {B S A : Sv}
theorem t5_all (hB : KS wB aB cB gB uB vB n tB dB B) (h : SM w a c g u n t d v B S A) (hw : w < 2 ^ 20) (hg : g < 1000) (hv : ∀ j, j < t → v j = g + 1) : SM (w + 1) a c (g + 1) u n t d (fun _ => g + 1) B (us (p_X3_growWaits S) 0 0 (p_X3_growWaits S 0 0 + 1)) (g_T5 B A n) ∧ (∀ i, i < n → g_T5 B A n 15 i = B (3 + i) 4) ∧ ((∀ j f, j < 6 → us (p_X3_growWaits S) 0 0 (p_X3_growWaits S 0 0 + 1) (16 + j) f = S (16 + j) f) ∧ ∀ k, g_T5 B A n 14 k = A 14 k) ∧ ∀ k, ¬ k = 0 → us (p_X3_growWaits S) 0 0 (p_X3_growWaits S 0 0 + 1) 0 k = S 0 k := by
  obtain ⟨hK, hA, hN⟩ := id h
  have hn := hK.n12
  have ht := hK.t6
  have hd := hK.d8
  obtain ⟨o, e6⟩ := @gr_it S n hn
  obtain ⟨oA, eA⟩ := g5_it (A := A) hB n (Nat.le_refl _)
  have hgw : p_X3_growWaits S = itN (q_X3_growWaits_2 S) n S := by
    unfold p_X3_growWaits
    try dsimp only
    rw [hK.cn3]
  have hg5 : g_T5 B A n = itN (q_T5_966 B A n) n A := rfl
  rw [hgw, hg5]
  generalize itN (q_X3_growWaits_2 S) n S = T at o e6 ⊢
  generalize itN (q_T5_966 B A n) n A = A' at oA eA ⊢
  have e00 : T 0 0 + 1 = nI (g + 1) := by rw [o _ _ (by omega), hK.eg]; exact nI_add g 1
  have oT : ∀ p k, ¬ (3 ≤ p ∧ p < 3 + n ∧ k = 6) → ¬ (p = 0 ∧ k = 0) → us T 0 0 (T 0 0 + 1) p k = S p k := fun p k p1 p2 => by rw [us_ne _ _ p2]; exact o p k p1
  have eT : ∀ i, i < n → us T 0 0 (T 0 0 + 1) (3 + i) 6 = (if S (3 + i) 5 = 0 then S (3 + i) 6 else S (3 + i) 6 + 1) := fun i hi => by rw [us_p (by omega)]; exact e6 i hi
  have e0' : us T 0 0 (T 0 0 + 1) 0 0 = nI (g + 1) := by rw [us_at, e00]
  generalize us T 0 0 (T 0 0 + 1) = S' at oT eT e0' ⊢
  refine ⟨⟨?_, fun i hi => ?_, fun k hk => ?_⟩, fun i hi => (eA i hi).2, ⟨fun j f hj => oT _ _ (by omega) (by omega), fun k => oA _ _ (by omega)⟩, fun k hk => oT _ _ (by omega) (by omega)⟩
  · refine hK.rows (fun p k p1 p2 => oT _ _ (by omega) p2) (fun i hi => oT _ _ (by omega) (by omega)) (fun i hi => oT _ _ (by omega) (by omega)) (fun i hi => ?_) e0' (by omega) hv
    obtain ⟨z0, z1, z2, z3, z4, z5, z8, z6, zd, zl, zb, z13, z9⟩ := (hK.2.1 i hi).1
    have oi : ∀ k, ¬ k = 6 → S' (3 + i) k = S (3 + i) k := fun k hk => oT _ _ (by omega) (by omega)
    unfold LK
    rw [oi 0 (by decide), oi 1 (by decide), oi 2 (by decide), oi 3 (by decide), oi 4 (by decide), oi 5 (by decide), oi 7 (by decide), oi 8 (by decide), oi 9 (by decide), oi 10 (by decide), oi 11 (by decide), oi 12 (by decide), oi 13 (by decide), oi 14 (by decide), eT i hi]
    refine ⟨z0, z1, z2, z3, z4, z5, z8, fun q => ?_, zd, zl, zb, z13, z9⟩
    rw [if_neg (by rw [q]; decide)]
    exact bn_suc (z6 q) (by omega)
  · obtain ⟨a0, a1, a2, a3, a4, a5, a6, a7, a8, a9, a10, af⟩ := hA i hi
    have oi : ∀ k, ¬ k = 6 → S' (3 + i) k = S (3 + i) k := fun k hk => oT _ _ (by omega) (by omega)
    unfold AR
    rw [oi 5 (by decide), oi 7 (by decide), oi 8 (by decide), oi 9 (by decide), oi 10 (by decide), oi 11 (by decide), oi 12 (by decide), oi 13 (by decide), oi 14 (by decide), oi 15 (by decide), eT i hi, (eA i hi).1, oA 0 i (by omega), oA 2 i (by omega), oA 3 i (by omega), oA 4 i (by omega), oA 5 i (by omega), oA 6 i (by omega), oA 7 i (by omega), oA 8 i (by omega), oA 9 i (by omega), oA 10 i (by omega)]
    exact ⟨a0, fun q => by rw [if_neg (by rw [q]; decide), a1 q, a0, q], a2, a3, a4, a5, a6, a7, a8, a9, a10, fun f hf => by rw [oi f (by omega)]; exact af f hf⟩
  · rw [oA 11 k (by omega), oA 12 k (by omega), oA 13 k (by omega), oT (23 + k) _ (by omega) (by omega), oT (23 + k) _ (by omega) (by omega), oT (23 + k) _ (by omega) (by omega)]
    exact hN k hk
theorem SM.row15 {A' : Sv} (h : SM w a c g u n t d v B S A) (hA : ∀ p k, p < 15 → A' p k = A p k) : SM w a c g u n t d v B S A' :=
  ⟨h.1, fun i hi => (h.2.1 i hi).same (fun p hp => hA _ _ (by omega)) (fun _ => rfl), h.2.2.same (fun p k _ hp => hA _ _ (by omega)) (fun _ _ _ _ => rfl)⟩
end TCK
/-- the tick up to the service: what the law's stretches ask, and what they have told -/
theorem tick_sim {b n t d g : Nat} {B : Sv} (h : KA b n t d g B) (hb : b < 900) (A : Sv) :
    (∀ j, j < n → 0 ≤ p_L_present B (nI j) ((g_T1 B A n d t).1 0 j) ((g_T1 B A n d t).1 1 j)) ∧ (g_T2 B (g_T1 B A n d t).1 n = (-1) ∨ Bn (g_T2 B (g_T1 B A n d t).1 n) 11) ∧
    ∃ d3, d3 ≤ 8 ∧ (g_T3 B (g_T1 B A n d t).1 d (B 0 9) (B 0 10) (g_T2 B (g_T1 B A n d t).1 n)).2.1 = nI d3 ∧ (∀ k, k < d3 → Bn ((g_T3 B (g_T1 B A n d t).1 d (B 0 9) (B 0 10) (g_T2 B (g_T1 B A n d t).1 n)).1 11 k) 11) ∧
    ∃ d4, d4 ≤ 8 ∧ (g_T4 B (g_T3 B (g_T1 B A n d t).1 d (B 0 9) (B 0 10) (g_T2 B (g_T1 B A n d t).1 n)).1 d3 (B 0 8)).2.1 = nI d4 ∧
    ∀ A4 : Sv, (∀ p k, p < 15 → A4 p k = (g_T4 B (g_T3 B (g_T1 B A n d t).1 d (B 0 9) (B 0 10) (g_T2 B (g_T1 B A n d t).1 n)).1 d3 (B 0 8)).1 p k) →
      KA (b + 1) n t d4 (g + 1) (p_X3_passTick B).2 ∧ (∀ i, i < n → AR B (p_X3_passTick B).2 (g_T5 B A4 n) i ∧ g_T5 B A4 n 15 i = (p_X3_passTick B).2 (3 + i) 4) ∧ AN d4 (p_X3_passTick B).2 (g_T5 B A4 n) ∧ (∀ j, j < t → g_T5 B A4 n 14 j = (p_X3_passTick B).2 (16 + j) 2) ∧
      (g_T4 B (g_T3 B (g_T1 B A n d t).1 d (B 0 9) (B 0 10) (g_T2 B (g_T1 B A n d t).1 n)).1 d3 (B 0 8)).2.2 = (p_X3_passTick B).2 0 8 ∧ (g_T3 B (g_T1 B A n d t).1 d (B 0 9) (B 0 10) (g_T2 B (g_T1 B A n d t).1 n)).2.2.1 = (p_X3_passTick B).2 0 9 ∧
      (g_T3 B (g_T1 B A n d t).1 d (B 0 9) (B 0 10) (g_T2 B (g_T1 B A n d t).1 n)).2.2.2 = (p_X3_passTick B).2 0 10 := by
  obtain ⟨hK, hgb, hb9⟩ := h
  have hn := hK.n12
  have ht := hK.t6
  obtain ⟨hK1, hA1, hN1, h14, -, -, ho⟩ := t1_all (A := A) hK
  have e8 : B 0 8 = p_X3_raiseByTimers B 0 8 := (ho 0 8 (by omega)).symm
  have e9 : B 0 9 = p_X3_raiseByTimers B 0 9 := (ho 0 9 (by omega)).symm
  have e10 : B 0 10 = p_X3_raiseByTimers B 0 10 := (ho 0 10 (by omega)).symm
  have e1 : ∀ k, p_X3_raiseByTimers B 1 k = B 1 k := fun k => ho 1 k (by omega)
  have hP : (p_X3_passTick B).2 = us (p_X3_growWaits (p_X3_serveTop (p_X3_beginFoundLine (p_X3_raiseByTimers B)).2)) 0 0 (p_X3_growWaits (p_X3_serveTop (p_X3_beginFoundLine (p_X3_raiseByTimers B)).2) 0 0 + 1) := rfl
  rw [e8, e9, e10, hP]
  generalize p_X3_raiseByTimers B = S1 at *
  generalize (g_T1 B A n d t).1 = A1 at *
  have h2 := t2_all hK hK1 (by omega) hA1 e1
  obtain ⟨d3, q1, q2, hS3, f3, g8, g9, g10⟩ := t3_all hK ⟨hK1, hA1, hN1⟩ e1 (by omega) (by omega) (by omega)
  rw [← g8]
  refine ⟨fun j hj => ?_, ?_, d3, q1, q2, fun k hk => ?_, ?_⟩
  · obtain ⟨x, x1, x2⟩ := ar_pos hK hK1 (by omega) hA1 hj
    rw [x2]
    exact nI_pos' (by omega)
  · rcases h2 with ⟨-, z⟩ | ⟨x, x1, -, z, -⟩
    · exact Or.inl z
    · exact Or.inr (bn_of z (by omega) (by decide))
  · obtain ⟨k3, a3, n3⟩ := hS3
    obtain ⟨⟨i, i1, i2, -⟩, -⟩ := k3.2.2.2.1 k hk
    rw [(n3 k hk).1, i2]
    exact bnI (by omega) (by omega)
  · generalize g_T3 B A1 d (S1 0 9) (S1 0 10) (g_T2 B A1 n) = R3 at *
    generalize (p_X3_beginFoundLine S1).2 = S3 at *
    obtain ⟨d4, y1, y2, hS4, f4, u8, u9, u10⟩ := t4_all hK hS3
    refine ⟨d4, by omega, y2, fun A4 hA4 => ?_⟩
    generalize g_T4 B R3.1 d3 (S3 0 8) = R4 at *
    generalize p_X3_serveTop S3 = S4 at *
    obtain ⟨hS5, m5, f5, o5⟩ := t5_all hK (hS4.row15 hA4) (by omega) (by omega) (fun j hj => if_pos hj)
    generalize g_T5 B A4 n = A5 at *
    generalize us (p_X3_growWaits S4) 0 0 (p_X3_growWaits S4 0 0 + 1) = P at *
    refine ⟨KA.of hS5.1 (by omega) (by omega) (by omega) (by omega) (by omega), fun i hi => ⟨hS5.2.1 i hi, ?_⟩, hS5.2.2, fun j hj => ?_, by rw [u8, o5 8 (by decide)], by rw [g9, o5 9 (by decide), u9], by rw [g10, o5 10 (by decide), u10]⟩
    · rw [m5 i hi]
      exact ((hS5.2.1 i hi).2.2.2.2.2.2.2.2.2.2.2 4 (by omega)).symm
    · rw [f5.2, hA4 14 j (by decide), f4.2, f3.2, f5.1 j 2 (by omega), f4.1 _ _ (by omega), f3.1 _ _ (by omega)]
      exact h14 j hj
