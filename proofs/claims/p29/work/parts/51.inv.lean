/-! what holds of the server's numbers between any two acts, said of the class alone -/
def LK (w a c : Nat) (S : Sv) (i : Nat) : Prop :=
  Bn (S (3 + i) 0) 15 ∧ (∃ q, 0 < q ∧ q ≤ 50 ∧ S (3 + i) 1 = nI q) ∧ Bn (S (3 + i) 2) 500 ∧ Z1 (S (3 + i) 3) ∧ Z1 (S (3 + i) 4) ∧ Z1 (S (3 + i) 5) ∧ Bn (S (3 + i) 8) 15 ∧
  (S (3 + i) 5 = 1 → Bn (S (3 + i) 6) w) ∧ (S (3 + i) 3 = 0 → S (3 + i) 8 = 0) ∧ (S (3 + i) 3 = 1 → S (3 + i) 5 = (if S (3 + i) 8 = 0 then 0 else (if S (3 + i) 7 = (-6) then 1 else 0))) ∧
  S (3 + i) 11 - S (3 + i) 12 = (if S (3 + i) 7 = (-6) then 0 else 1) ∧ (∃ x y, x ≤ y ∧ y ≤ a ∧ S (3 + i) 13 = nI x ∧ S (3 + i) 14 = nI y) ∧ (∃ x y, x ≤ y ∧ y ≤ c ∧ S (3 + i) 10 = nI x ∧ S (3 + i) 9 = nI y)
def NK (n u : Nat) (S : Sv) (k : Nat) : Prop :=
  (∃ i, i < n ∧ S (23 + k) 0 = nI i ∧ S (3 + i) 7 = nI k) ∧ (∃ r, r ≤ 31 ∧ S (23 + k) 1 = nI r) ∧ (∃ q, 0 < q ∧ q ≤ 59 ∧ S (23 + k) 2 = nI q) ∧ ∃ g, g < u ∧ S (23 + k) 3 = nI g
def TK (n v : Nat) (S : Sv) (j : Nat) : Prop :=
  (∃ i, i < n ∧ S (16 + j) 0 = nI i ∧ S (3 + i) 3 = 0) ∧ (∃ q, 0 < q ∧ q ≤ 200 ∧ S (16 + j) 1 = nI q) ∧ ∃ x, v ≤ x ∧ x ≤ v + 500 ∧ S (16 + j) 2 = nI x
def HK (g n t d : Nat) (S : Sv) : Prop :=
  S 0 3 = nI n ∧ n ≤ 12 ∧ S 0 5 = nI t ∧ t ≤ 6 ∧ S 0 7 = nI d ∧ d ≤ 8 ∧ S 0 0 = nI g ∧ g ≤ 1000 ∧ (∃ e, d ≤ e ∧ e ≤ 8 ∧ S 0 9 = nI e) ∧ ∀ k, k < 7 → vLst k ≤ S 1 k ∧ S 1 k ≤ vMst k
def KS (w a c g u : Nat) (v : Nat → Nat) (n t d : Nat) (S : Sv) : Prop :=
  HK g n t d S ∧ (∀ i, i < n → LK w a c S i ∧ PlI d S i) ∧ (∀ j, j < t → TK n (v j) S j) ∧ (∀ k, k < d → NK n u S k) ∧ ∀ k, k + 1 < d → cn (S (23 + k) 1) < cn (S (23 + (k + 1)) 1)
section KSF
variable {w a c g u n t d : Nat} {v : Nat → Nat} {S : Sv}
theorem KS.n12 (h : KS w a c g u v n t d S) : n ≤ 12 := h.1.2.1
theorem KS.t6 (h : KS w a c g u v n t d S) : t ≤ 6 := h.1.2.2.2.1
theorem KS.d8 (h : KS w a c g u v n t d S) : d ≤ 8 := h.1.2.2.2.2.2.1
theorem KS.en (h : KS w a c g u v n t d S) : S 0 3 = nI n := h.1.1
theorem KS.et (h : KS w a c g u v n t d S) : S 0 5 = nI t := h.1.2.2.1
theorem KS.ed (h : KS w a c g u v n t d S) : S 0 7 = nI d := h.1.2.2.2.2.1
theorem KS.eg (h : KS w a c g u v n t d S) : S 0 0 = nI g := h.1.2.2.2.2.2.2.1
theorem KS.g1000 (h : KS w a c g u v n t d S) : g ≤ 1000 := h.1.2.2.2.2.2.2.2.1
theorem KS.dp (h : KS w a c g u v n t d S) : ∃ e, d ≤ e ∧ e ≤ 8 ∧ S 0 9 = nI e := h.1.2.2.2.2.2.2.2.2.1
theorem KS.rg (h : KS w a c g u v n t d S) : ∀ k, k < 7 → vLst k ≤ S 1 k ∧ S 1 k ≤ vMst k := h.1.2.2.2.2.2.2.2.2.2
theorem KS.cn3 (h : KS w a c g u v n t d S) : cn (S 0 3) = n := by have := h.n12; rw [h.en]; exact cn_nI (by omega)
theorem KS.cn5 (h : KS w a c g u v n t d S) : cn (S 0 5) = t := by have := h.t6; rw [h.et]; exact cn_nI (by omega)
theorem KS.cn7 (h : KS w a c g u v n t d S) : cn (S 0 7) = d := by have := h.d8; rw [h.ed]; exact cn_nI (by omega)
end KSF
theorem bn_rg {x : Int32} {l m : Int32} {q : Nat} (h : l ≤ x ∧ x ≤ m) (hl : 0 ≤ l) (hm : m = nI q) (hq : q < 2 ^ 31) : Bn x q := by
  obtain ⟨k, hk, e⟩ := nI_of2 (M := m) (n := q) (by rw [hm]; exact nI_toInt hq) (Int32.not_lt.mpr (Int32.le_trans hl h.1)) h.2
  exact bn_of e hk hq
theorem KS.s0 {w a c g u n t d : Nat} {v : Nat → Nat} {S : Sv} (h : KS w a c g u v n t d S) : Bn (S 1 0) 100 := bn_rg (h.rg 0 (by omega)) (by decide) (show vMst 0 = nI 100 by decide) (by decide)
theorem KS.s1 {w a c g u n t d : Nat} {v : Nat → Nat} {S : Sv} (h : KS w a c g u v n t d S) : Bn (S 1 1) 31 := bn_rg (h.rg 1 (by omega)) (by decide) (show vMst 1 = nI 31 by decide) (by decide)
theorem KS.s2 {w a c g u n t d : Nat} {v : Nat → Nat} {S : Sv} (h : KS w a c g u v n t d S) : ∃ q, 0 < q ∧ q ≤ 9 ∧ S 1 2 = nI q := by
  have h1 := h.rg 2 (by omega)
  obtain ⟨b1, b2⟩ := bn_rg h1 (by decide) (show vMst 2 = nI 9 by decide) (by decide)
  refine ⟨cn (S 1 2), Nat.pos_of_ne_zero fun e => ?_, b2, b1⟩
  rw [e] at b1
  rw [b1] at h1
  exact absurd h1.1 (by decide)
theorem KS.s3 {w a c g u n t d : Nat} {v : Nat → Nat} {S : Sv} (h : KS w a c g u v n t d S) : Bn (S 1 3) 8 := bn_rg (h.rg 3 (by omega)) (by decide) (show vMst 3 = nI 8 by decide) (by decide)
theorem KS.s4 {w a c g u n t d : Nat} {v : Nat → Nat} {S : Sv} (h : KS w a c g u v n t d S) : Bn (S 1 4) 9 := bn_rg (h.rg 4 (by omega)) (by decide) (show vMst 4 = nI 9 by decide) (by decide)
theorem KS.s5 {w a c g u n t d : Nat} {v : Nat → Nat} {S : Sv} (h : KS w a c g u v n t d S) : Z1 (S 1 5) := by
  obtain ⟨b1, b2⟩ := bn_rg (h.rg 5 (by omega)) (by decide) (show vMst 5 = nI 1 by decide) (by decide)
  by_cases h0 : cn (S 1 5) = 0
  · exact Or.inl (by rw [b1, h0]; rfl)
  · exact Or.inr (by rw [b1, show cn (S 1 5) = 1 by omega]; rfl)
theorem KS.s6 {w a c g u n t d : Nat} {v : Nat → Nat} {S : Sv} (h : KS w a c g u v n t d S) : Bn (S 1 6) 31 := bn_rg (h.rg 6 (by omega)) (by decide) (show vMst 6 = nI 31 by decide) (by decide)
/-! monotone, and what another row's change leaves -/
theorem LK.mono {w a c w' a' c' i : Nat} {S : Sv} (h : LK w a c S i) (hw : w ≤ w') (ha : a ≤ a') (hc : c ≤ c') : LK w' a' c' S i := by
  obtain ⟨h0, h1, h2, h3, h4, h5, h8, h6, hd, hl, hb, ⟨x, y, x1, x2, x3⟩, ⟨p, q, p1, p2, p3⟩⟩ := h
  exact ⟨h0, h1, h2, h3, h4, h5, h8, fun e => bn_mono (h6 e) hw, hd, hl, hb, ⟨x, y, x1, by omega, x3⟩, ⟨p, q, p1, by omega, p3⟩⟩
theorem LK.same {w a c i : Nat} {S S' : Sv} (h : LK w a c S i) (hS : ∀ k, S' (3 + i) k = S (3 + i) k) : LK w a c S' i := by
  unfold LK at h ⊢
  simp only [hS]
  exact h
theorem NK.same {n u k : Nat} {S S' : Sv} (h : NK n u S k) (hS : ∀ f, S' (23 + k) f = S (23 + k) f) (h7 : ∀ i, i < n → S (23 + k) 0 = nI i → S' (3 + i) 7 = S (3 + i) 7) : NK n u S' k := by
  unfold NK at h ⊢
  simp only [hS]
  obtain ⟨⟨i, i1, i2, i3⟩, h2⟩ := h
  exact ⟨⟨i, i1, i2, by rw [h7 i i1 i2]; exact i3⟩, h2⟩
theorem TK.same {n v j : Nat} {S S' : Sv} (h : TK n v S j) (hS : ∀ f, S' (16 + j) f = S (16 + j) f) (h3 : ∀ i, i < n → S' (3 + i) 3 = S (3 + i) 3) : TK n v S' j := by
  unfold TK at h ⊢
  simp only [hS]
  obtain ⟨⟨i, i1, i2, i3⟩, h2⟩ := h
  exact ⟨⟨i, i1, i2, by rw [h3 i i1]; exact i3⟩, h2⟩
theorem HK.same {g n t d : Nat} {S S' : Sv} (h : HK g n t d S) (h0 : ∀ k, ¬ k = 8 → ¬ k = 10 → S' 0 k = S 0 k) (h1 : ∀ k, S' 1 k = S 1 k) : HK g n t d S' := by
  unfold HK at h ⊢
  rw [h0 3 (by omega) (by omega), h0 5 (by omega) (by omega), h0 7 (by omega) (by omega), h0 0 (by omega) (by omega), h0 9 (by omega) (by omega)]
  simp only [h1]
  exact h
theorem PlI.same {d i : Nat} {S S' : Sv} (h : PlI d S i) (h7 : S' (3 + i) 7 = S (3 + i) 7) (hn : ∀ k, k < d → S' (23 + k) 0 = S (23 + k) 0) : PlI d S' i := by
  rcases h with q | ⟨k, k1, k2, k3⟩
  · exact Or.inl (h7.trans q)
  · exact Or.inr ⟨k, k1, h7.trans k2, (hn k k1).trans k3⟩
/-- one line's row changes, its place and sort apart -/
theorem KS.line {w a c w' a' c' g u n t d i : Nat} {v : Nat → Nat} {S S' : Sv} (h : KS w a c g u v n t d S) (hw : w ≤ w') (ha : a ≤ a') (hc : c ≤ c') (hi : i < n) (hS : ∀ p k, ¬ p = 3 + i → S' p k = S p k) (h7 : S' (3 + i) 7 = S (3 + i) 7) (h3 : S' (3 + i) 3 = S (3 + i) 3) (hL : LK w' a' c' S' i) : KS w' a' c' g u v n t d S' := by
  have hn := h.n12
  have ht := h.t6
  have hd := h.d8
  obtain ⟨a1, a2, a3, a4, a5⟩ := h
  have e7 : ∀ j, S' (3 + j) 7 = S (3 + j) 7 := fun j => by
    by_cases hj : j = i
    · rw [hj]; exact h7
    · exact hS _ _ (by omega)
  have e3 : ∀ j, S' (3 + j) 3 = S (3 + j) 3 := fun j => by
    by_cases hj : j = i
    · rw [hj]; exact h3
    · exact hS _ _ (by omega)
  refine ⟨a1.same (fun k _ _ => hS _ _ (by omega)) (fun k => hS _ _ (by omega)), fun j hj => ⟨?_, (a2 j hj).2.same (e7 j) (fun k hk => hS _ _ (by omega))⟩, fun j hj => (a3 j hj).same (fun f => hS _ _ (by omega)) (fun i _ => e3 i), fun k hk => (a4 k hk).same (fun f => hS _ _ (by omega)) (fun i _ _ => e7 i), fun k hk => ?_⟩
  · by_cases hji : j = i
    · rw [hji]; exact hL
    · exact ((a2 j hj).1.mono hw ha hc).same (fun k => hS _ _ (by omega))
  · rw [hS (23 + k) _ (by omega), hS (23 + (k + 1)) _ (by omega)]
    exact a5 k hk
theorem KS.mono {w a c w' a' c' g u n t d : Nat} {v : Nat → Nat} {S : Sv} (h : KS w a c g u v n t d S) (hw : w ≤ w') (ha : a ≤ a') (hc : c ≤ c') : KS w' a' c' g u v n t d S :=
  ⟨h.1, fun i hi => ⟨(h.2.1 i hi).1.mono hw ha hc, (h.2.1 i hi).2⟩, h.2.2⟩
theorem KS.pl {w a c g u n t d i : Nat} {v : Nat → Nat} {S : Sv} (h : KS w a c g u v n t d S) (hi : i < n) : S (3 + i) 7 = (-6) ∨ ∃ k, k < 8 ∧ S (3 + i) 7 = nI k := by
  have hd := h.d8
  rcases (h.2.1 i hi).2 with q | ⟨k, k1, k2, -⟩
  · exact Or.inl q
  · exact Or.inr ⟨k, by omega, k2⟩
theorem KS.wf {w a c g u n t d : Nat} {v : Nat → Nat} {S : Sv} (h : KS w a c g u v n t d S) : Wf S := by
  have hn := h.n12
  have ht := h.t6
  have hd := h.d8
  refine ⟨bn_of h.en hn (by decide), bn_of h.et ht (by decide), bn_of h.ed hd (by decide), fun q hq => ?_, fun q hq => ?_⟩
  · rw [h.cn5] at hq
    obtain ⟨⟨i, i1, i2, -⟩, -⟩ := h.2.2.1 q hq
    exact bn_of i2 (by omega) (by decide)
  · rw [h.cn7] at hq
    obtain ⟨⟨i, i1, i2, -⟩, -⟩ := h.2.2.2.1 q hq
    exact bn_of i2 (by omega) (by decide)
/-! the present rank, of numbers -/
def prk (r ag cp ws wd : Int32) : Int32 := if ws = 0 then r else (if ag = 0 then r else (if r < cp then (if cp ≤ r + wd / ag then cp else r + wd / ag) else r))
theorem prk_0 {r ag cp wd : Int32} : prk r ag cp 0 wd = r := if_pos rfl
theorem prk_bn {r ag cp ws wd : Int32} {w : Nat} (hr : Bn r 15) (ha : Bn ag 100) (hc : Bn cp 31) (hz : Z1 ws) (hw : ws = 1 → Bn wd w) (hw2 : w < 2 ^ 30) : ∃ q, q ≤ 31 ∧ prk r ag cp ws wd = nI q := by
  obtain ⟨r', r1, rfl⟩ := bn_to hr
  have base : ∃ q, q ≤ 31 ∧ nI r' = nI q := ⟨r', by omega, rfl⟩
  unfold prk
  rcases hz with rfl | rfl
  · rw [if_pos rfl]; exact base
  · rw [if_neg (by decide)]
    split
    · exact base
    · next h0 =>
      split
      · obtain ⟨c', c1, rfl⟩ := bn_to hc
        split
        · exact ⟨c', c1, rfl⟩
        · next h2 =>
          obtain ⟨x, x1, rfl⟩ := bn_to (hw rfl)
          obtain ⟨g, g1, rfl⟩ := bn_to ha
          have hg : 0 < g := Nat.pos_of_ne_zero fun e => h0 (by rw [e]; rfl)
          have hx : x / g ≤ x := Nat.div_le_self _ _
          rw [pk_div (by omega) hg (by omega), nI_add] at h2 ⊢
          exact ⟨r' + x / g, Nat.le_of_not_lt fun q => h2 (nI_le (by omega) (by omega)), rfl⟩
      · exact base
theorem pr_prk {S : Sv} {i : Nat} (h0 : 0 ≤ S 1 0) : p_X1_presentRank S i (S 1 0) (S 1 1) = prk (S (3 + i) 0) (S 1 0) (S 1 1) (S (3 + i) 5) (S (3 + i) 6) := by
  have ha : (S 1 0 ≤ 0) = (S 1 0 = 0) := propext ⟨fun q => Int32.le_antisymm q h0, fun q => by rw [q]; exact Int32.le_refl 0⟩
  unfold p_X1_presentRank prk
  dsimp only
  simp only [ha]
