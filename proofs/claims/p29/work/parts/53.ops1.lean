/-! acts on one line -/
/-- an edge is taken -/
def Gs1 (S : Sv) (i : Nat) (kp : Int32) : Prop := S (3 + i) 5 = 0 ∧ (S (3 + i) 4 = 0 ∨ ¬ kp = 0)
theorem te_yes {S : Sv} {i : Nat} {kp : Int32} (h : Gs1 S i kp) : (p_X1_takeEdge S i kp).1 = 1 ∧ (∀ k, ¬ k = 5 → ¬ k = 6 → ¬ k = 9 → (p_X1_takeEdge S i kp).2 (3 + i) k = S (3 + i) k) ∧ (p_X1_takeEdge S i kp).2 (3 + i) 5 = 1 ∧ (p_X1_takeEdge S i kp).2 (3 + i) 6 = 0 ∧ (p_X1_takeEdge S i kp).2 (3 + i) 9 = S (3 + i) 9 + 1 := by
  obtain ⟨h1, h2⟩ := h
  unfold p_X1_takeEdge
  by_cases h4 : S (3 + i) 4 = 0
  · simp (disch := omega) [us_at, us_p, us_k, h1, h4]
    intro k k5 k6 k9
    rw [us_k k6, us_k k5, us_k k9]
  · have hk := h2.resolve_left h4
    simp (disch := omega) [us_at, us_p, us_k, h1, h4, hk]
    intro k k5 k6 k9
    rw [us_k k6, us_k k5, us_k k9]
theorem te_no {S : Sv} {i : Nat} {kp : Int32} (h : ¬ Gs1 S i kp) : (p_X1_takeEdge S i kp).1 = 0 ∧ (∀ k, ¬ k = 9 → ¬ k = 10 → (p_X1_takeEdge S i kp).2 (3 + i) k = S (3 + i) k) ∧ (p_X1_takeEdge S i kp).2 (3 + i) 10 = S (3 + i) 10 + 1 ∧ (p_X1_takeEdge S i kp).2 (3 + i) 9 = S (3 + i) 9 + 1 := by
  unfold p_X1_takeEdge
  by_cases h5 : S (3 + i) 5 = 0
  · have h4 : ¬ S (3 + i) 4 = 0 := fun q => h ⟨h5, Or.inl q⟩
    have hk : kp = 0 := Classical.byContradiction fun q => h ⟨h5, Or.inr q⟩
    simp (disch := omega) [us_at, us_p, us_k, h5, h4, hk]
    intro k k9 k10
    rw [us_k k10, us_k k9]
  · simp (disch := omega) [us_at, us_p, us_k, h5]
    intro k k9 k10
    rw [us_k k10, us_k k9]
theorem lk_edge {w a c i : Nat} {S : Sv} {kp : Int32} (h : LK w a c S i) (h3 : S (3 + i) 3 = 0) : LK w a (c + 1) (p_X1_takeEdge S i kp).2 i := by
  obtain ⟨a0, a1, a2, a3, a4, a5, a8, a6, ad, al, ab, al2, ⟨x, y, x1, x2, x3, x4⟩⟩ := h
  by_cases hg : Gs1 S i kp
  · obtain ⟨-, o, e5, e6, e9⟩ := te_yes hg
    unfold LK
    rw [o 0 (by decide) (by decide) (by decide), o 1 (by decide) (by decide) (by decide), o 2 (by decide) (by decide) (by decide), o 3 (by decide) (by decide) (by decide), o 4 (by decide) (by decide) (by decide), o 7 (by decide) (by decide) (by decide), o 8 (by decide) (by decide) (by decide), o 10 (by decide) (by decide) (by decide), o 11 (by decide) (by decide) (by decide), o 12 (by decide) (by decide) (by decide), o 13 (by decide) (by decide) (by decide), o 14 (by decide) (by decide) (by decide), e5, e6, e9]
    exact ⟨a0, a1, a2, a3, a4, z1_1, a8, fun _ => bn_z, ad, fun q => absurd (h3.symm.trans q) (by decide), ab, al2, x, y + 1, by omega, by omega, x3, by rw [x4]; exact nI_add y 1⟩
  · obtain ⟨-, o, e10, e9⟩ := te_no hg
    unfold LK
    rw [o 0 (by decide) (by decide), o 1 (by decide) (by decide), o 2 (by decide) (by decide), o 3 (by decide) (by decide), o 4 (by decide) (by decide), o 5 (by decide) (by decide), o 6 (by decide) (by decide), o 7 (by decide) (by decide), o 8 (by decide) (by decide), o 11 (by decide) (by decide), o 12 (by decide) (by decide), o 13 (by decide) (by decide), o 14 (by decide) (by decide), e10, e9]
    exact ⟨a0, a1, a2, a3, a4, a5, a8, a6, ad, al, ab, al2, x + 1, y + 1, by omega, by omega, by rw [x3]; exact nI_add x 1, by rw [x4]; exact nI_add y 1⟩
theorem te_k {S : Sv} {i k : Nat} {kp : Int32} (h5 : ¬ k = 5) (h6 : ¬ k = 6) (h9 : ¬ k = 9) (h10 : ¬ k = 10) : (p_X1_takeEdge S i kp).2 (3 + i) k = S (3 + i) k := by
  by_cases hg : Gs1 S i kp
  · exact (te_yes hg).2.1 k h5 h6 h9
  · exact (te_no hg).2.1 k h9 h10
theorem KS.edge {w a c g u n t d i : Nat} {v : Nat → Nat} {S : Sv} {kp : Int32} (h : KS w a c g u v n t d S) (hi : i < n) (h3 : S (3 + i) 3 = 0) : KS w a (c + 1) g u v n t d (p_X1_takeEdge S i kp).2 :=
  h.line (Nat.le_refl _) (Nat.le_refl _) (Nat.le_succ _) hi (fun p k hp => fr_takeEdge hp) (te_k (by decide) (by decide) (by decide) (by decide)) (te_k (by decide) (by decide) (by decide) (by decide)) (lk_edge (h.2.1 i hi).1 h3)
/-- a level line waits as it is held up -/
theorem fo_f {S : Sv} {i : Nat} (h5 : Z1 (S (3 + i) 5)) : (∀ k, ¬ k = 5 → ¬ k = 6 → p_X1_followDevices S i (3 + i) k = S (3 + i) k) ∧ p_X1_followDevices S i (3 + i) 5 = (if S (3 + i) 8 = 0 then 0 else (if S (3 + i) 7 = (-6) then 1 else 0)) ∧ (p_X1_followDevices S i (3 + i) 5 = 1 → p_X1_followDevices S i (3 + i) 6 = (if S (3 + i) 5 = 0 then 0 else S (3 + i) 6)) := by
  unfold p_X1_followDevices
  by_cases h8 : S (3 + i) 8 = 0 <;> by_cases h7 : S (3 + i) 7 = (-6) <;> rcases h5 with h5 | h5 <;>
    simp (disch := omega) [us_at, us_p, us_k, h8, h7, h5] <;>
    (intro k k5 k6; simp [us_k, k5, k6])
theorem lk_follow {w a c i : Nat} {S : Sv} (h : Bn (S (3 + i) 0) 15 ∧ (∃ q, 0 < q ∧ q ≤ 50 ∧ S (3 + i) 1 = nI q) ∧ Bn (S (3 + i) 2) 500 ∧ Z1 (S (3 + i) 3) ∧ Z1 (S (3 + i) 4) ∧ Z1 (S (3 + i) 5) ∧ Bn (S (3 + i) 8) 15 ∧
  (S (3 + i) 5 = 1 → Bn (S (3 + i) 6) w)) (hd : S (3 + i) 3 = 0 → S (3 + i) 8 = 0) (hb : S (3 + i) 11 - S (3 + i) 12 = (if S (3 + i) 7 = (-6) then 0 else 1)) (h13 : ∃ x y, x ≤ y ∧ y ≤ a ∧ S (3 + i) 13 = nI x ∧ S (3 + i) 14 = nI y) (h9 : ∃ x y, x ≤ y ∧ y ≤ c ∧ S (3 + i) 10 = nI x ∧ S (3 + i) 9 = nI y) : LK w a c (p_X1_followDevices S i) i := by
  obtain ⟨a0, a1, a2, a3, a4, a5, a8, a6⟩ := h
  obtain ⟨o, e5, e6⟩ := fo_f a5
  have e6' : p_X1_followDevices S i (3 + i) 5 = 1 → Bn (p_X1_followDevices S i (3 + i) 6) w := fun q => by
    rw [e6 q]
    rcases a5 with q5 | q5
    · rw [if_pos q5]; exact bn_z
    · rw [if_neg (by rw [q5]; decide)]; exact a6 q5
  unfold LK
  rw [o 0 (by decide) (by decide), o 1 (by decide) (by decide), o 2 (by decide) (by decide), o 3 (by decide) (by decide), o 4 (by decide) (by decide), o 7 (by decide) (by decide), o 8 (by decide) (by decide), o 9 (by decide) (by decide), o 10 (by decide) (by decide), o 11 (by decide) (by decide), o 12 (by decide) (by decide), o 13 (by decide) (by decide), o 14 (by decide) (by decide)]
  refine ⟨a0, a1, a2, a3, a4, ?_, a8, e6', hd, fun _ => e5, hb, h13, h9⟩
  rw [e5]
  exact z1_ite z1_0 (z1_ite z1_1 z1_0)
/-- a device holds up, or lets go -/
theorem KS.move {w a c g u n t d i q : Nat} {v : Nat → Nat} {S : Sv} {up : Int32} (h : KS w a c g u v n t d S) (hi : i < n) (h3 : ¬ S (3 + i) 3 = 0) (hq : q < 4) :
    KS w a c g u v n t d (p_X1_moveDevice S i q up) ∧ p_X1_moveDevice S i q up (3 + i) 8 = (if up = 0 then S (3 + i) 8 &&& (((1 : Int32) <<< ((nI q) &&& 31)) ^^^ (-1)) else S (3 + i) 8 ||| ((1 : Int32) <<< ((nI q) &&& 31))) ∧ (∀ k, ¬ k = 5 → ¬ k = 6 → ¬ k = 8 → p_X1_moveDevice S i q up (3 + i) k = S (3 + i) k) ∧
    p_X1_moveDevice S i q up (3 + i) 5 = (if p_X1_moveDevice S i q up (3 + i) 8 = 0 then 0 else (if S (3 + i) 7 = (-6) then 1 else 0)) ∧ (p_X1_moveDevice S i q up (3 + i) 5 = 1 → p_X1_moveDevice S i q up (3 + i) 6 = (if S (3 + i) 5 = 0 then 0 else S (3 + i) 6)) := by
  obtain ⟨a0, a1, a2, a3, a4, a5, a8, a6, ad, al, ab, a13, a9⟩ := (h.2.1 i hi).1
  obtain ⟨x, x1, x2⟩ := bn_to a8
  generalize hv : (if up = 0 then S (3 + i) 8 &&& (((1 : Int32) <<< ((nI q) &&& 31)) ^^^ (-1)) else S (3 + i) 8 ||| ((1 : Int32) <<< ((nI q) &&& 31))) = vv
  have hv15 : Bn vv 15 := by
    rw [← hv, x2]
    split
    · obtain ⟨r, r1, r2, -⟩ := dev_dn x (by omega) q hq
      exact bn_of r2 r1 (by decide)
    · obtain ⟨r, r1, r2, -⟩ := dev_up x (by omega) q hq
      exact bn_of r2 r1 (by decide)
  have hm : p_X1_moveDevice S i q up = p_X1_followDevices (us S (3 + i) 8 vv) i := by
    unfold p_X1_moveDevice
    dsimp only
    rw [hv]
  have e8 : us S (3 + i) 8 vv (3 + i) 8 = vv := us_at _ _ _ _
  have eo : ∀ k, ¬ k = 8 → us S (3 + i) 8 vv (3 + i) k = S (3 + i) k := fun k hk => us_k hk
  have ez : Z1 (us S (3 + i) 8 vv (3 + i) 5) := by rw [eo 5 (by decide)]; exact a5
  obtain ⟨o, e5, e6⟩ := fo_f ez
  rw [hm]
  refine ⟨?_, ?_, fun k k5 k6 k8 => ?_, ?_, fun q5 => ?_⟩
  · refine h.line (Nat.le_refl _) (Nat.le_refl _) (Nat.le_refl _) hi (fun p k hp => by rw [fr_followDevices hp, us_p hp]) (by rw [o 7 (by decide) (by decide), eo 7 (by decide)]) (by rw [o 3 (by decide) (by decide), eo 3 (by decide)]) (lk_follow ?_ ?_ ?_ ?_ ?_)
    · rw [eo 0 (by decide), eo 1 (by decide), eo 2 (by decide), eo 3 (by decide), eo 4 (by decide), eo 5 (by decide), eo 6 (by decide), e8]
      exact ⟨a0, a1, a2, a3, a4, a5, hv15, a6⟩
    · rw [eo 3 (by decide)]
      exact fun z => absurd z h3
    · rw [eo 11 (by decide), eo 12 (by decide), eo 7 (by decide)]
      exact ab
    · rw [eo 13 (by decide), eo 14 (by decide)]
      exact a13
    · rw [eo 10 (by decide), eo 9 (by decide)]
      exact a9
  · rw [o 8 (by decide) (by decide), e8]
  · rw [o k k5 k6, eo k k8]
  · rw [o 8 (by decide) (by decide), e5, eo 7 (by decide)]
  · rw [e6 q5, eo 5 (by decide), eo 6 (by decide)]
/-- masks, shapes -/
theorem KS.us4 {w a c g u n t d i : Nat} {v : Nat → Nat} {S : Sv} {x : Int32} (h : KS w a c g u v n t d S) (hi : i < n) (hx : Z1 x) : KS w a c g u v n t d (us S (3 + i) 4 x) := by
  have o : ∀ k, ¬ k = 4 → us S (3 + i) 4 x (3 + i) k = S (3 + i) k := fun k hk => us_k hk
  refine h.line (Nat.le_refl _) (Nat.le_refl _) (Nat.le_refl _) hi (fun p k hp => us_p hp) (o 7 (by decide)) (o 3 (by decide)) ?_
  obtain ⟨a0, a1, a2, a3, a4, a5, a8, a6, ad, al, ab, a13, a9⟩ := (h.2.1 i hi).1
  unfold LK
  rw [o 0 (by decide), o 1 (by decide), o 2 (by decide), o 3 (by decide), us_at, o 5 (by decide), o 6 (by decide), o 7 (by decide), o 8 (by decide), o 9 (by decide), o 10 (by decide), o 11 (by decide), o 12 (by decide), o 13 (by decide), o 14 (by decide)]
  exact ⟨a0, a1, a2, a3, hx, a5, a8, a6, ad, al, ab, a13, a9⟩
theorem shape_f {S : Sv} {i : Nat} {x y z : Int32} : p_X1_shape S i x y z (3 + i) 0 = x ∧ p_X1_shape S i x y z (3 + i) 1 = y ∧ p_X1_shape S i x y z (3 + i) 2 = z ∧ ∀ k, 3 ≤ k → p_X1_shape S i x y z (3 + i) k = S (3 + i) k := by
  unfold p_X1_shape
  refine ⟨by simp (disch := omega) [us_at, us_p, us_k], by simp (disch := omega) [us_at, us_p, us_k], by simp (disch := omega) [us_at, us_p, us_k], fun k hk => ?_⟩
  rw [us_k (by omega), us_k (by omega), us_k (by omega)]
theorem KS.shp {w a c g u n t d i : Nat} {v : Nat → Nat} {S : Sv} {x y z : Int32} (h : KS w a c g u v n t d S) (hi : i < n) (hx : Bn x 15) (hy : ∃ q, 0 < q ∧ q ≤ 50 ∧ y = nI q) (hz : Bn z 500) : KS w a c g u v n t d (p_X1_shape S i x y z) := by
  obtain ⟨e0, e1, e2, o⟩ := @shape_f S i x y z
  refine h.line (Nat.le_refl _) (Nat.le_refl _) (Nat.le_refl _) hi (fun p k hp => fr_shape hp) (o 7 (by decide)) (o 3 (by decide)) ?_
  obtain ⟨a0, a1, a2, a3, a4, a5, a8, a6, ad, al, ab, a13, a9⟩ := (h.2.1 i hi).1
  unfold LK
  rw [e0, e1, e2, o 3 (by decide), o 4 (by decide), o 5 (by decide), o 6 (by decide), o 7 (by decide), o 8 (by decide), o 9 (by decide), o 10 (by decide), o 11 (by decide), o 12 (by decide), o 13 (by decide), o 14 (by decide)]
  exact ⟨hx, hy, hz, a3, a4, a5, a8, a6, ad, al, ab, a13, a9⟩
