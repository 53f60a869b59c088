/-! a text read by both sides: one order -/
/-- what the class says of the rest of the text: from sign i on, due what is due -/
def Fx (S : Sv) (L : Nat) (due : Int32) (i : Nat) : Int32 := q_X2_firstFault_4 S (L - i) i due
def sg (S : Sv) (L i : Nat) : Int32 := if i < L then S 6 i else 0
theorem fx_lt {S : Sv} {L i : Nat} {due : Int32} (hi : i < L) : Fx S L due i = (if p_X2_dueAfter due (S 6 i) = 0 then nI i else Fx S L (p_X2_dueAfter due (S 6 i)) (i + 1)) := by
  unfold Fx
  rw [show L - i = (L - (i + 1)) + 1 by omega]
  conv => lhs; unfold q_X2_firstFault_4
theorem fx_L {S : Sv} {L : Nat} {due : Int32} (hS : S 5 1 = nI L) : Fx S L due L = (if p_X2_mayEnd due = 0 then nI L else (-6)) := by
  unfold Fx
  rw [Nat.sub_self]
  unfold q_X2_firstFault_4
  try dsimp only
  rw [hS]
theorem win_sub {x : Int32} {a b : Nat} (ha : a < 1000) (hb : b < 1000) : p_X6_within (x - nI a) 0 (nI b) = p_X6_within x (nI a) (nI (a + b)) := by
  by_cases h : ∃ k, k ≤ b ∧ x = nI (a + k)
  · obtain ⟨k, hk, e⟩ := h
    rw [e, show nI (a + k) - nI a = nI k from by rw [pk_sub (by omega)]; congr 1; omega, within_pos (nI_pos' (by omega)) (nI_le hk (by omega)), within_pos (nI_le (by omega) (by omega)) (nI_le (by omega) (by omega))]
  · rw [within_no (n := a) (m := a + b) rfl rfl (by omega) (by omega) (fun k h1 h2 e => h ⟨k - a, by omega, by rw [e]; congr 1; omega⟩)]
    refine Classical.byContradiction fun q => ?_
    obtain ⟨k, hk, e⟩ := within_idx (n := b) rfl (by omega) q
    refine h ⟨k, hk, ?_⟩
    rw [← nI_add, ← e]
    rw [Int32.add_comm, Int32.sub_add_cancel]
theorem da1 {x : Int32} : p_X2_dueAfter 1 x = p_X2_dueAfterOrder x := by
  unfold p_X2_dueAfter
  by_cases h : x = 59
  · rw [h]; decide
  · try dsimp only
    rw [if_neg h, if_pos rfl]
theorem da2 {x : Int32} : p_X2_dueAfter 2 x = (if p_X6_within x 65 76 = 0 then 0 else 8) := by
  unfold p_X2_dueAfter
  by_cases h : x = 59
  · rw [h]; decide
  · try dsimp only
    rw [if_neg h, if_neg (by decide), if_pos rfl]
theorem da3 {x : Int32} : p_X2_dueAfter 3 x = (if p_X6_within x 65 76 = 0 then 0 else 4) := by
  unfold p_X2_dueAfter
  by_cases h : x = 59
  · rw [h]; decide
  · try dsimp only
    rw [if_neg h, if_neg (by decide), if_neg (by decide), if_pos rfl]
theorem da4 {x : Int32} : p_X2_dueAfter 4 x = (if p_X6_within x 48 51 = 0 then 0 else 8) := by
  unfold p_X2_dueAfter
  by_cases h : x = 59
  · rw [h]; decide
  · try dsimp only
    rw [if_neg h, if_neg (by decide), if_neg (by decide), if_neg (by decide), if_pos rfl]
theorem da5 {x : Int32} : p_X2_dueAfter 5 x = (if x = 48 then 8 else if p_X6_within x 48 57 = 0 then 0 else 6) := by
  unfold p_X2_dueAfter p_X2_dueAfterDigit
  by_cases h : x = 59
  · rw [h]; decide
  · try dsimp only
    rw [if_neg h, if_neg (by decide), if_neg (by decide), if_neg (by decide), if_neg (by decide), if_pos rfl]
theorem da6 {x : Int32} : p_X2_dueAfter 6 x = (if x = 59 then 1 else if p_X6_within x 48 57 = 0 then 0 else 7) := by
  unfold p_X2_dueAfter p_X2_dueAfterDigit
  by_cases h : x = 59
  · rw [h]; decide
  · try dsimp only
    rw [if_neg h, if_neg h, if_neg (by decide), if_neg (by decide), if_neg (by decide), if_neg (by decide), if_neg (by decide), if_pos rfl]
theorem da7 {x : Int32} : p_X2_dueAfter 7 x = (if x = 59 then 1 else if p_X6_within x 48 57 = 0 then 0 else 8) := by
  unfold p_X2_dueAfter p_X2_dueAfterDigit
  by_cases h : x = 59
  · rw [h]; decide
  · try dsimp only
    rw [if_neg h, if_neg h, if_neg (by decide), if_neg (by decide), if_neg (by decide), if_neg (by decide), if_neg (by decide), if_neg (by decide), if_pos rfl]
theorem da8 {x : Int32} : p_X2_dueAfter 8 x = (if x = 59 then 1 else 0) := by
  unfold p_X2_dueAfter
  by_cases h : x = 59
  · rw [h]; decide
  · try dsimp only
    rw [if_neg h, if_neg h, if_neg (by decide), if_neg (by decide), if_neg (by decide), if_neg (by decide), if_neg (by decide), if_neg (by decide), if_neg (by decide)]
theorem da_0 (due : Nat) (h : due ≤ 8) : p_X2_dueAfter (nI due) 0 = 0 := by
  have : ∀ d, d ≤ 8 → p_X2_dueAfter (nI d) 0 = 0 := by decide +kernel
  exact this due h
/-- a wrong sign where nothing may end -/
theorem fx_bad {S : Sv} {L i : Nat} {due : Int32} (hS : S 5 1 = nI L) (hi : i ≤ L) (hm : p_X2_mayEnd due = 0) (hd : p_X2_dueAfter due (sg S L i) = 0) : Fx S L due i = nI i := by
  by_cases h : i < L
  · unfold sg at hd
    rw [if_pos h] at hd
    rw [fx_lt h, if_pos hd]
  · have : i = L := by omega
    rw [this, fx_L hS, if_pos hm]
theorem fx_go {S : Sv} {L i due : Nat} {x : Int32} (hdu : due ≤ 8) (hi : i ≤ L) (hd : p_X2_dueAfter (nI due) (sg S L i) = x) (hx : ¬ x = 0) : i < L ∧ Fx S L (nI due) i = Fx S L x (i + 1) ∧ sg S L i = S 6 i := by
  have h : i < L := by
    refine Nat.lt_of_not_le fun z => hx ?_
    rw [← hd]
    unfold sg
    rw [if_neg (by omega)]
    exact da_0 due hdu
  refine ⟨h, ?_, ?_⟩
  · unfold sg at hd
    rw [if_pos h] at hd
    rw [fx_lt h, hd, if_neg hx]
  · unfold sg
    rw [if_pos h]
/-- where no digit stands, more digits may be due or not -/
theorem fx_nd {S : Sv} {L i : Nat} {due : Int32} (hS : S 5 1 = nI L) (hi : i ≤ L) (hdu : due = 6 ∨ due = 7) (hd : p_X6_within (sg S L i) 48 57 = 0) : Fx S L due i = Fx S L 8 i := by
  by_cases h : i < L
  · unfold sg at hd
    rw [if_pos h] at hd
    have e : p_X2_dueAfter due (S 6 i) = p_X2_dueAfter 8 (S 6 i) := by
      rw [da8]
      rcases hdu with rfl | rfl
      · rw [da6, if_pos hd]
      · rw [da7, if_pos hd]
    rw [fx_lt h, fx_lt h, e]
  · have : i = L := by omega
    rw [this, fx_L hS, fx_L hS]
    rcases hdu with rfl | rfl <;> rfl
theorem pd_us {L : Nat} {S X : Sv} {p k : Nat} {v : Int32} (h : PdR L S X) (hp : ¬ p = 6) (hk : ¬ (p = 0 ∧ k = 7)) : PdR L S (us X p k v) := by
  obtain ⟨a, b, c, d⟩ := h
  exact ⟨a, by rw [us_ne _ _ (by omega)]; exact b, c, fun j hj => by rw [us_ne _ _ (by omega)]; exact d j hj⟩
theorem sign_c {L i : Nat} {S X : Sv} (h : PdR L S X) (hi : X 0 11 = nI i) (hiL : i ≤ L) : p_X7_sign X = sg S L i := by
  obtain ⟨a, b, c, d⟩ := h
  unfold p_X7_sign sg
  try dsimp only
  rw [b, hi]
  by_cases q : i < L
  · rw [if_neg (nI_ge q (by omega)), if_pos q, cn_nI (by omega)]
    exact (d i q).symm
  · rw [if_pos (nI_le (by omega) (by omega)), if_neg q]
/-- one sign of a range, where nothing is wrong yet -/
theorem oneq {L i a b : Nat} {S X : Sv} (h : PdR L S X) (hi : X 0 11 = nI i) (hiL : i ≤ L) (hw : X 0 12 = 0) (ha : a < 1000) (hb : b < 1000) :
    (p_X7_one X (nI a) (nI b)).1 = sg S L i - nI a ∧ (∀ p k, ¬ (p = 0 ∧ (k = 11 ∨ k = 12)) → (p_X7_one X (nI a) (nI b)).2 p k = X p k) ∧
    (if p_X6_within (sg S L i) (nI a) (nI (a + b)) = 0 then (p_X7_one X (nI a) (nI b)).2 0 12 = 1 ∧ (p_X7_one X (nI a) (nI b)).2 0 11 = nI i else (p_X7_one X (nI a) (nI b)).2 0 12 = 0 ∧ (p_X7_one X (nI a) (nI b)).2 0 11 = nI (i + 1)) := by
  unfold p_X7_one
  try dsimp only
  rw [sign_c h hi hiL, hw, if_pos rfl, in_w, win_sub ha hb]
  refine ⟨rfl, fun p k hp => by rw [us_ne _ _ (by omega), us_ne _ _ (by omega)], ?_⟩
  by_cases c : p_X6_within (sg S L i) (nI a) (nI (a + b)) = 0
  · rw [if_pos c, if_pos c]
    rw [us_k (by decide), us_at, us_at, us_k (by decide), if_neg (by decide), hi, Int32.add_zero]
    exact ⟨rfl, rfl⟩
  · rw [if_neg c, if_neg c]
    rw [us_k (by decide), us_at, us_at, us_k (by decide), if_pos rfl, hi]
    exact ⟨rfl, nI_1 i⟩
/-- a number's signs, both sides -/
def nB (S : Sv) (fr : Nat) : Nat → Int32
  | 0 => 0
  | m + 1 => ((10 * nB S fr m) + S 6 (fr + m)) - 48
theorem dg_of {x : Int32} (h : ¬ p_X6_within x 48 57 = 0) : ∃ d, d ≤ 9 ∧ x = nI (48 + d) := by
  have h' : ¬ p_X6_within (x - nI 48) 0 (nI 9) = 0 := by rw [win_sub (by decide) (by decide)]; exact h
  obtain ⟨d, hd, e⟩ := within_idx (n := 9) rfl (by decide) h'
  exact ⟨d, hd, by rw [← nI_add, ← e, Int32.add_comm, Int32.sub_add_cancel]⟩
theorem dg_st {v d : Nat} (hd : d ≤ 9) : ((10 * nI v) + nI (48 + d)) - 48 = nI (10 * v + d) := by
  rw [show (10 : Int32) * nI v = nI (10 * v) from pk_mul 10 v, nI_add, show (48 : Int32) = nI 48 from rfl, pk_sub (by omega)]
  congr 1
  omega
/-- the loop over more digits: the value v so far, m digits read -/
def Dg (m v : Nat) : Prop := (m = 1 ∧ 1 ≤ v ∧ v ≤ 9) ∨ (m = 2 ∧ 10 ≤ v ∧ v ≤ 99) ∨ (m = 3 ∧ 100 ≤ v ∧ v ≤ 999)
theorem num_it {L fr : Nat} {S M0 : Sv} : ∀ fu m j (X : Sv) (v : Nat), m + fu = 4 → PdR L S X → X 0 11 = nI (fr + m) → fr + m ≤ L → X 0 12 = 0 → nB S fr m = nI v → Dg m v →
    ∃ m', m ≤ m' ∧ m' ≤ 3 ∧ fr + m' ≤ L ∧ (∀ i, m ≤ i → i < m' → ¬ p_X6_within (S 6 (fr + i)) 48 57 = 0) ∧ (q_X7_number_9 M0 fu j X (nI v)).1 = nB S fr m' ∧ (∀ p k, ¬ (p = 0 ∧ k = 11) → (q_X7_number_9 M0 fu j X (nI v)).2 p k = X p k) ∧ (q_X7_number_9 M0 fu j X (nI v)).2 0 11 = nI (fr + m') ∧
      Fx S L (nI (5 + m)) (fr + m) = Fx S L 8 (fr + m') := by
  intro fu
  induction fu with
  | zero =>
    intro m j X v hm hP h11 hL hw hv hD
    unfold Dg at hD
    omega
  | succ fu ih =>
    intro m j X v hm hP h11 hL hw hv hD
    have hS := hP.1
    have h80 := hP.2.2.1
    have hv0 : ¬ nI v ≤ 0 := nI_nle (by unfold Dg at hD; omega) (by unfold Dg at hD; omega)
    have stop : Fx S L (nI (5 + m)) (fr + m) = Fx S L 8 (fr + m) → (q_X7_number_9 M0 (fu + 1) j X (nI v)) = (nI v, X) → ∃ m', m ≤ m' ∧ m' ≤ 3 ∧ fr + m' ≤ L ∧ (∀ i, m ≤ i → i < m' → ¬ p_X6_within (S 6 (fr + i)) 48 57 = 0) ∧ (q_X7_number_9 M0 (fu + 1) j X (nI v)).1 = nB S fr m' ∧ (∀ p k, ¬ (p = 0 ∧ k = 11) → (q_X7_number_9 M0 (fu + 1) j X (nI v)).2 p k = X p k) ∧ (q_X7_number_9 M0 (fu + 1) j X (nI v)).2 0 11 = nI (fr + m') ∧
      Fx S L (nI (5 + m)) (fr + m) = Fx S L 8 (fr + m') := fun q1 q2 => by
      rw [q2]
      exact ⟨m, Nat.le_refl _, by unfold Dg at hD; omega, hL, fun i i1 i2 => by omega, hv.symm, fun _ _ _ => rfl, h11, q1⟩
    by_cases c : p_X6_within (sg S L (fr + m)) 48 57 = 0
    · refine stop ?_ ?_
      · rcases hD with ⟨rfl, -⟩ | ⟨rfl, -⟩ | ⟨rfl, -⟩
        · exact fx_nd hS hL (Or.inl rfl) c
        · exact fx_nd hS hL (Or.inr rfl) c
        · rfl
      · unfold q_X7_number_9
        try dsimp only
        rw [if_pos hw, if_neg hv0, sign_c hP h11 hL, in_w, if_pos c]
    · obtain ⟨d, hd, ed⟩ := dg_of c
      have hst := dg_st (v := v) hd
      by_cases hm3 : m = 3
      · refine stop (by rw [hm3]; rfl) ?_
        unfold q_X7_number_9
        try dsimp only
        rw [if_pos hw, if_neg hv0, sign_c hP h11 hL, in_w, if_neg c, ed, hst, if_pos (show (999 : Int32) < nI (10 * v + d) from nI_lt (a := 999) (by unfold Dg at hD; omega) (by unfold Dg at hD; omega))]
      · have hgo : fr + m < L ∧ Fx S L (nI (5 + m)) (fr + m) = Fx S L (nI (5 + (m + 1))) (fr + m + 1) ∧ sg S L (fr + m) = S 6 (fr + m) := by
          have h59 : ¬ sg S L (fr + m) = 59 := fun z => c (by rw [z]; decide)
          rcases hD with ⟨rfl, -⟩ | ⟨rfl, -⟩ | ⟨rfl, -⟩
          · exact fx_go (due := 6) (by omega) hL (show p_X2_dueAfter 6 (sg S L (fr + 1)) = 7 by rw [da6, if_neg h59, if_neg c]) (by decide)
          · exact fx_go (due := 7) (by omega) hL (show p_X2_dueAfter 7 (sg S L (fr + 2)) = 8 by rw [da7, if_neg h59, if_neg c]) (by decide)
          · exact absurd rfl hm3
        obtain ⟨g1, g2, g3⟩ := hgo
        have hB : nB S fr (m + 1) = nI (10 * v + d) := by
          show ((10 * nB S fr m) + S 6 (fr + m)) - 48 = _
          rw [hv, ← g3, ed, hst]
        obtain ⟨m', k1, k2, k3, k4, k5, k6, k7, k8⟩ := ih (m + 1) (j + 1) (us X 0 11 (X 0 11 + 1)) (10 * v + d) (by omega) (pd_us hP (by decide) (by decide)) (by rw [us_at, h11, nI_1, Nat.add_assoc]) (by omega) (by rw [us_k (by decide)]; exact hw) hB (by unfold Dg at hD ⊢; omega)
        have e : q_X7_number_9 M0 (fu + 1) j X (nI v) = q_X7_number_9 M0 fu (j + 1) (us X 0 11 (X 0 11 + 1)) (nI (10 * v + d)) := by
          conv => lhs; unfold q_X7_number_9
          try dsimp only
          rw [if_pos hw, if_neg hv0, sign_c hP h11 hL, in_w, if_neg c, ed, hst, if_neg (show ¬ (999 : Int32) < nI (10 * v + d) from nI_nlt (a := 999) (by unfold Dg at hD; omega) (by decide))]
        rw [e]
        refine ⟨m', by omega, k2, k3, fun i i1 i2 => ?_, k5, fun p k hp => by rw [k6 p k hp, us_ne _ _ hp], k7, by rw [g2, ← k8]; rfl⟩
        by_cases him : i = m
        · rw [him, ← g3]; exact c
        · exact k4 i (by omega) i2
/-- a number: both sides -/
theorem num_c {L i : Nat} {S X : Sv} (h : PdR L S X) (hi : X 0 11 = nI i) (hiL : i ≤ L) (hw : X 0 12 = 0) :
    (∀ p k, ¬ (p = 0 ∧ (k = 11 ∨ k = 12)) → (p_X7_number X).2 p k = X p k) ∧
    (((p_X7_number X).2 0 12 = 1 ∧ (p_X7_number X).2 0 11 = nI i ∧ Fx S L 5 i = nI i) ∨
     ((p_X7_number X).2 0 12 = 0 ∧ ∃ m, 0 < m ∧ m ≤ 3 ∧ i + m ≤ L ∧ (p_X7_number X).2 0 11 = nI (i + m) ∧ (p_X7_number X).1 = nB S i m ∧ (∀ q, q < m → ¬ p_X6_within (S 6 (i + q)) 48 57 = 0) ∧ Fx S L 5 i = Fx S L 8 (i + m))) := by
  have hS := h.1
  have h80 := h.2.2.1
  obtain ⟨o1, o2, o3⟩ := oneq (a := 48) (b := 9) h hi hiL hw (by decide) (by decide)
  unfold p_X7_number
  try dsimp only
  have hP2 : PdR L S (p_X7_one X 48 9).2 := by
    obtain ⟨a, b, c, d⟩ := h
    exact ⟨a, (o2 0 7 (by omega)).trans b, c, fun j hj => (d j hj).trans (o2 6 j (by omega)).symm⟩
  by_cases c : p_X6_within (sg S L i) 48 57 = 0
  · rw [if_pos (show p_X6_within (sg S L i) (nI 48) (nI (48 + 9)) = 0 from c)] at o3
    have e : q_X7_number_9 X 3 0 (p_X7_one X 48 9).2 (p_X7_one X 48 9).1 = ((p_X7_one X 48 9).1, (p_X7_one X 48 9).2) := by
      unfold q_X7_number_9
      rw [if_neg (show ¬ (p_X7_one X 48 9).2 0 12 = 0 by rw [show (p_X7_one X 48 9).2 0 12 = 1 from o3.1]; decide)]
    rw [e]
    refine ⟨o2, Or.inl ⟨o3.1, o3.2, fx_bad hS hiL rfl ?_⟩⟩
    rw [da5, if_neg (fun z => by rw [z] at c; exact absurd c (by decide)), if_pos c]
  · rw [if_neg (show ¬ p_X6_within (sg S L i) (nI 48) (nI (48 + 9)) = 0 from c)] at o3
    obtain ⟨d, hd, ed⟩ := dg_of c
    obtain ⟨w0, w1⟩ := o3
    have w0 : (p_X7_one X 48 9).2 0 12 = 0 := w0
    have w1 : (p_X7_one X 48 9).2 0 11 = nI (i + 1) := w1
    have o1 : (p_X7_one X 48 9).1 = nI d := by
      rw [show (p_X7_one X 48 9).1 = sg S L i - nI 48 from o1, ed, pk_sub (by omega)]
      congr 1
      omega
    have hlt : i < L := Nat.lt_of_not_le fun z => c (by unfold sg; rw [if_neg (by omega)]; decide)
    have hsg : sg S L i = S 6 i := by unfold sg; rw [if_pos hlt]
    have hB : nB S i 1 = nI d := by
      have := dg_st (v := 0) hd
      rw [← ed, hsg] at this
      rw [show 10 * 0 + d = d by omega] at this
      exact this
    rw [o1]
    by_cases hd0 : d = 0
    · have e : q_X7_number_9 X 3 0 (p_X7_one X 48 9).2 (nI d) = (nI d, (p_X7_one X 48 9).2) := by
        unfold q_X7_number_9
        try dsimp only
        rw [if_pos w0, if_pos (by rw [hd0]; decide)]
      rw [e]
      refine ⟨o2, Or.inr ⟨w0, 1, by omega, by omega, by omega, w1, hB.symm, fun q hq => ?_, ?_⟩⟩
      · rw [show q = 0 by omega, show i + 0 = i from rfl, ← hsg]; exact c
      · exact (fx_go (due := 5) (x := 8) (by omega) hiL (by rw [show nI 5 = (5 : Int32) from rfl, da5, if_pos (by rw [ed, hd0]; rfl)]) (by decide)).2.1
    · obtain ⟨m', k1, k2, k3, k4, k5, k6, k7, k8⟩ := num_it (M0 := X) (fr := i) 3 1 0 (p_X7_one X 48 9).2 d rfl hP2 w1 (by omega) w0 hB (Or.inl ⟨rfl, by omega, hd⟩)
      refine ⟨fun p k hp => by rw [k6 p k (by omega)]; exact o2 p k hp, Or.inr ⟨by rw [k6 0 12 (by omega)]; exact w0, m', by omega, k2, k3, k7, k5, fun q hq => ?_, ?_⟩⟩
      · by_cases hq0 : q = 0
        · rw [hq0, show i + 0 = i from rfl, ← hsg]; exact c
        · exact k4 q (by omega) hq
      · rw [← k8]
        exact (fx_go (due := 5) (x := 6) (by omega) hiL (by rw [show nI 5 = (5 : Int32) from rfl, da5, if_neg (fun z => hd0 (by rw [ed] at z; have := nI_inj (b := 48) z; omega)), if_neg c]) (by decide)).2.1
