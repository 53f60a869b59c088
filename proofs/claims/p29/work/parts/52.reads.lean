/-! what is read of the class: numbers -/
section RDS
variable {w a c g u n t d i j k : Nat} {v : Nat → Nat} {S : Sv}
theorem KS.nl (h : KS w a c g u v n t d S) (hi : i < n) (wh : Int32) : p_X3_numberOfLine S (nI i) wh = p_X1_number S i wh (S 1 0) (S 1 1) := by
  have hn := h.n12
  have h1 : p_X3_hasLine S (nI i) = 1 := by
    unfold p_X3_hasLine
    dsimp only
    rw [h.en, show nI n - 1 = nI (n - 1) by rw [show n = n - 1 + 1 by omega]; exact nI_pred _]
    exact within_pos (nI_pos' (by omega)) (nI_le (by omega) (by omega))
  unfold p_X3_numberOfLine
  dsimp only
  rw [h1, if_neg (by decide), cn_nI (show i < 2 ^ 31 by omega)]
theorem KS.nl0 (h : KS w a c g u v n t d S) (hi : i < n) : p_X3_numberOfLine S (nI i) 0 = S (3 + i) 0 := h.nl hi 0
theorem KS.nl1 (h : KS w a c g u v n t d S) (hi : i < n) : p_X3_numberOfLine S (nI i) 1 = S (3 + i) 1 := h.nl hi 1
theorem KS.nl2 (h : KS w a c g u v n t d S) (hi : i < n) : p_X3_numberOfLine S (nI i) 2 = S (3 + i) 2 := h.nl hi 2
theorem KS.nl3 (h : KS w a c g u v n t d S) (hi : i < n) : p_X3_numberOfLine S (nI i) 3 = S (3 + i) 3 := (h.nl hi 3).trans (h.2.1 i hi).1.2.2.2.1.d
theorem KS.nl4 (h : KS w a c g u v n t d S) (hi : i < n) : p_X3_numberOfLine S (nI i) 4 = S (3 + i) 4 := (h.nl hi 4).trans (h.2.1 i hi).1.2.2.2.2.1.d
theorem KS.nl5 (h : KS w a c g u v n t d S) (hi : i < n) : p_X3_numberOfLine S (nI i) 5 = S (3 + i) 5 := (h.nl hi 5).trans (h.2.1 i hi).1.2.2.2.2.2.1.d
theorem KS.nl6 (h : KS w a c g u v n t d S) (hi : i < n) : p_X3_numberOfLine S (nI i) 6 = (if S (3 + i) 5 = 0 then (-6) else S (3 + i) 6) := h.nl hi 6
theorem KS.nl7 (h : KS w a c g u v n t d S) (hi : i < n) : p_X3_numberOfLine S (nI i) 7 = prk (S (3 + i) 0) (S 1 0) (S 1 1) (S (3 + i) 5) (S (3 + i) 6) := (h.nl hi 7).trans (pr_prk (bn_ge0 h.s0 (by decide)))
theorem KS.nl8 (h : KS w a c g u v n t d S) (hi : i < n) : p_X3_numberOfLine S (nI i) 8 = S (3 + i) 7 := h.nl hi 8
theorem KS.nl9 (h : KS w a c g u v n t d S) (hi : i < n) : p_X3_numberOfLine S (nI i) 9 = S (3 + i) 8 := h.nl hi 9
theorem KS.nl10 (h : KS w a c g u v n t d S) (hi : i < n) : p_X3_numberOfLine S (nI i) 10 = S (3 + i) 9 := h.nl hi 10
theorem KS.nl11 (h : KS w a c g u v n t d S) (hi : i < n) : p_X3_numberOfLine S (nI i) 11 = S (3 + i) 10 := h.nl hi 11
theorem KS.nl12 (h : KS w a c g u v n t d S) (hi : i < n) : p_X3_numberOfLine S (nI i) 12 = S (3 + i) 11 := h.nl hi 12
theorem KS.nl13 (h : KS w a c g u v n t d S) (hi : i < n) : p_X3_numberOfLine S (nI i) 13 = S (3 + i) 12 := h.nl hi 13
theorem KS.nl14 (h : KS w a c g u v n t d S) (hi : i < n) : p_X3_numberOfLine S (nI i) 14 = S (3 + i) 13 := h.nl hi 14
theorem KS.nl15 (h : KS w a c g u v n t d S) (hi : i < n) : p_X3_numberOfLine S (nI i) 15 = S (3 + i) 14 := h.nl hi 15
theorem KS.nl16 (h : KS w a c g u v n t d S) (hi : i < n) : p_X3_numberOfLine S (nI i) 16 = S (3 + i) 15 := h.nl hi 16
theorem KS.np (h : KS w a c g u v n t d S) (hk : k < d) (wh : Int32) : p_X3_numberOfPlace S (nI k) wh = p_X4_number S k wh := by
  have hd := h.d8
  unfold p_X3_numberOfPlace
  dsimp only
  have h1 : p_X6_within (nI k) 0 (S 0 7 - 1) = 1 := by
    rw [h.ed, show nI d - 1 = nI (d - 1) by rw [show d = d - 1 + 1 by omega]; exact nI_pred _]
    exact within_pos (nI_pos' (by omega)) (nI_le (by omega) (by omega))
  rw [h1, if_neg (by decide), cn_nI (show k < 2 ^ 31 by omega)]
theorem KS.np0 (h : KS w a c g u v n t d S) (hk : k < d) : p_X3_numberOfPlace S (nI k) 0 = S (23 + k) 0 := h.np hk 0
theorem KS.np1 (h : KS w a c g u v n t d S) (hk : k < d) : p_X3_numberOfPlace S (nI k) 1 = S (23 + k) 1 := h.np hk 1
theorem KS.np2 (h : KS w a c g u v n t d S) (hk : k < d) : p_X3_numberOfPlace S (nI k) 2 = S (23 + k) 2 := h.np hk 2
theorem KS.np3 (h : KS w a c g u v n t d S) (hk : k < d) : p_X3_numberOfPlace S (nI k) 3 = S (23 + k) 3 := h.np hk 3
theorem KS.npd (h : KS w a c g u v n t d S) (wh : Int32) : p_X3_numberOfPlace S (nI d) wh = (-1) := by
  have hd := h.d8
  unfold p_X3_numberOfPlace
  dsimp only
  have h1 : p_X6_within (nI d) 0 (S 0 7 - 1) = 0 := by
    rw [h.ed]
    refine Classical.byContradiction fun q => ?_
    obtain ⟨x, x1, x2⟩ := within_lt (n := d) rfl (by omega) q
    exact absurd (nI_inj x2) (by omega)
  rw [h1, if_pos rfl]
theorem KS.nt (h : KS w a c g u v n t d S) (hj : j < t) (wh : Int32) : p_X3_numberOfTimer S (nI j) wh = p_X5_number S j wh := by
  have ht := h.t6
  unfold p_X3_numberOfTimer p_X3_hasTimer
  dsimp only
  have h1 : p_X6_within (nI j) 0 (S 0 5 - 1) = 1 := by
    rw [h.et, show nI t - 1 = nI (t - 1) by rw [show t = t - 1 + 1 by omega]; exact nI_pred _]
    exact within_pos (nI_pos' (by omega)) (nI_le (by omega) (by omega))
  rw [h1, if_neg (by decide), cn_nI (show j < 2 ^ 31 by omega)]
theorem KS.nt0 (h : KS w a c g u v n t d S) (hj : j < t) : p_X3_numberOfTimer S (nI j) 0 = S (16 + j) 0 := h.nt hj 0
theorem KS.nt1 (h : KS w a c g u v n t d S) (hj : j < t) : p_X3_numberOfTimer S (nI j) 1 = S (16 + j) 1 := h.nt hj 1
theorem KS.nt2 (h : KS w a c g u v n t d S) (hj : j < t) : p_X3_numberOfTimer S (nI j) 2 = S (16 + j) 2 := h.nt hj 2
end RDS
theorem na0 {S : Sv} : p_X3_numberOfAll S 0 = S 0 0 := rfl
theorem na1 {S : Sv} : p_X3_numberOfAll S 1 = S 0 3 := rfl
theorem na2 {S : Sv} : p_X3_numberOfAll S 2 = S 0 5 := rfl
theorem na3 {S : Sv} : p_X3_numberOfAll S 3 = S 0 7 := rfl
theorem na4 {S : Sv} : p_X3_numberOfAll S 4 = p_X3_waitingLines S := rfl
theorem na5 {S : Sv} : p_X3_numberOfAll S 5 = p_X3_foundLine S := rfl
theorem na6 {S : Sv} : p_X3_numberOfAll S 6 = S 0 8 := rfl
theorem na7 {S : Sv} : p_X3_numberOfAll S 7 = S 0 9 := rfl
theorem na8 {S : Sv} : p_X3_numberOfAll S 8 = p_X3_missesOfAll S := rfl
theorem na9 {S : Sv} : p_X3_numberOfAll S 9 = S 0 10 := rfl
theorem na12 {S : Sv} : p_X3_numberOfAll S 12 = S 1 0 := rfl
theorem na13 {S : Sv} : p_X3_numberOfAll S 13 = S 1 1 := rfl
theorem na14 {S : Sv} : p_X3_numberOfAll S 14 = S 1 2 := rfl
theorem na15 {S : Sv} : p_X3_numberOfAll S 15 = S 1 3 := rfl
theorem na16 {S : Sv} : p_X3_numberOfAll S 16 = S 1 4 := rfl
theorem na17 {S : Sv} : p_X3_numberOfAll S 17 = S 1 5 := rfl
theorem na18 {S : Sv} : p_X3_numberOfAll S 18 = S 1 6 := rfl
theorem KS.prs {w a c g u n t d i : Nat} {v : Nat → Nat} {S : Sv} (h : KS w a c g u v n t d S) (hi : i < n) (ws wd : Int32) : p_L_present S (nI i) ws wd = prk (S (3 + i) 0) (S 1 0) (S 1 1) ws wd := by
  unfold p_L_present prk
  dsimp only
  rw [h.nl0 hi, na12, na13]
