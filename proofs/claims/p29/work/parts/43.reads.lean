/-! what the law reads of the class: said of the server's numbers B -/
theorem r_ofLine (l : Launch) (E : mE) (μ : Mu) {B : Sv} (hB : μ 0 = B) (hc : Wc μ) (ln wh : Int32) : CtI l E yX6_ofLine cX6_ofLine 3 (some .int) 3 68 [.ref (ea E 11 0), .int ln, .int wh] μ (fun x μ' => x = p_X3_numberOfLine B ln wh ∧ μ' = μ) := by
  subst hB
  exact c_X6_ofLine l E μ ln wh hc
theorem r_ofNest (l : Launch) (E : mE) (μ : Mu) {B : Sv} (hB : μ 0 = B) (hc : Wc μ) (ln wh : Int32) : CtI l E yX6_ofNest cX6_ofNest 3 (some .int) 2 44 [.ref (ea E 11 0), .int ln, .int wh] μ (fun x μ' => x = p_X3_numberOfPlace B ln wh ∧ μ' = μ) := by
  subst hB
  exact c_X6_ofNest l E μ ln wh hc
theorem r_ofTimer (l : Launch) (E : mE) (μ : Mu) {B : Sv} (hB : μ 0 = B) (hc : Wc μ) (ln wh : Int32) : CtI l E yX6_ofTimer cX6_ofTimer 3 (some .int) 3 65 [.ref (ea E 11 0), .int ln, .int wh] μ (fun x μ' => x = p_X3_numberOfTimer B ln wh ∧ μ' = μ) := by
  subst hB
  exact c_X6_ofTimer l E μ ln wh hc
theorem r_count (l : Launch) (E : mE) (μ : Mu) {B : Sv} (hB : μ 0 = B) (hc : Wc μ) (wh : Int32) (h10 : ¬ wh = 10) (h11 : ¬ wh = 11) : CtI l E yX6_count cX6_count 2 (some .int) 3 70 [.ref (ea E 11 0), .int wh] μ (fun x μ' => x = p_X3_numberOfAll B wh ∧ μ' = μ) := by
  subst hB
  have h := c_X6_count l E μ wh hc
  have e : p_X6_count μ wh = p_X3_numberOfAll (μ 0) wh := by
    unfold p_X6_count
    rw [if_neg h10, if_neg h11]
  rw [e] at h
  exact h
theorem jcir {p : Program} {l : Launch} {e : Env} {R : Room} {s : State} {m : MethodId} {args : Array Value} {below : List Frame} {meth : Method} {c : Code} {H : Heap} {locs : List Loc} {cells slots : Nat} {Q : State → Prop} {pc : Nat} {ls : Array Slot} {rest st0 : List Value} {E : mE} {μ : Mu} {a : Array Value} {x2 : Int32} (hr : va_Run p l e R s m args below meth c H locs cells slots 0 0 (F0 m pc ls st0) rest (va_Qi (fun x μ' => x = x2 ∧ μ' = μ) (fun μ' t => MB E μ' t.heap) (AA E) a) (AA E)) (hW : Wd E s H locs μ)
    (kk : ∀ (H : Heap) (locs : List Loc), Wd E s H locs μ → W p l e R s m args below meth c H locs cells slots Q (F0 m (pc + 3) ls (.int x2 :: rest))) : W p l e R s m args below meth c H locs cells slots Q (F0 m pc ls st0) :=
  jcip hr hW (fun x H locs ex hW => by subst ex; exact kk H locs hW)
theorem hB13 {μ : Mu} {A B : Sv} (h : μ 0 = B) : fo μ 13 A 0 = B := h
theorem wc13 {μ : Mu} {A : Sv} (h : Wc μ) : Wc (fo μ 13 A) := by
  obtain ⟨h1, h2⟩ := h
  exact ⟨fun r hr => by rw [fo_ne _ _ (by omega)]; exact h1 r hr, h2⟩
theorem o13 {E : mE} (q : Nat) {k : Nat} (hq : q < nlc E) (hk : kd 13 q = (10, k) := by rfl) : isO E 13 q 10 k := ⟨Or.inr (Or.inr (Or.inr ⟨rfl, hq⟩)), hk⟩
theorem fb_n {v : Int32} {b : Nat} (h : v = (-1) ∨ Bn v b) (h0 : 0 ≤ v) : v = nI (cn v) := by
  rcases h with rfl | h
  · exact absurd h0 (by decide)
  · exact h.1
theorem fb_n2 {v : Int32} {b : Nat} (h : v = (-1) ∨ Bn v b) (h0 : ¬ v < 0) : v = nI (cn v) := fb_n h (Int32.not_lt.mp h0)
theorem fb_b {v : Int32} {b c : Nat} (h : v = (-1) ∨ Bn v b) (h0 : 0 ≤ v) (hb : b < c) : cn v < c := by
  rcases h with rfl | h
  · exact absurd h0 (by decide)
  · exact Nat.lt_of_le_of_lt h.2 hb
theorem fb_b2 {v : Int32} {b c : Nat} (h : v = (-1) ∨ Bn v b) (h0 : ¬ v < 0) (hb : b < c) : cn v < c := fb_b h (Int32.not_lt.mp h0) hb
theorem fb_0 {x v y b : Int32} (hx : 0 ≤ x) (hv : v = if 0 ≤ b then y else (-1)) (h : x = v) : 0 ≤ b := by
  by_cases hb : 0 ≤ b
  · exact hb
  · rw [if_neg hb] at hv
    rw [h, hv] at hx
    exact absurd hx (by decide)
theorem dm1 {d : Nat} (h : 0 < d) (h2 : d < 2 ^ 31) : nI d + (-1) = nI (d - 1) := by
  have e : nI d = nI (d - 1) + nI 1 := by rw [nI_add, show d - 1 + 1 = d by omega]
  rw [e, Int32.add_assoc]
  exact (congrArg (fun z => nI (d - 1) + z) (show nI 1 + (-1) = 0 by decide)).trans (Int32.add_zero _)
theorem nI_z0 {d : Nat} (h : ¬ nI d = 0) : 0 < d := Nat.pos_of_ne_zero fun e => h (by rw [e]; decide)
theorem nI_nle0 {d : Nat} (h : ¬ nI d ≤ 0) : 0 < d := Nat.pos_of_ne_zero fun e => h (by rw [e]; decide)
