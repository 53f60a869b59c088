/-! the reference: what changes, what is told -/
theorem end_10 {S : Sv} {li : Nat} (hli : li < 12) : p_X7_end S li 1 10 = S 1 10 - 1 := by
  unfold p_X7_end
  dsimp only
  split
  · rw [fr_look (by omega), fr_book (by omega), fr_book (by omega), us_at]
  · rw [fr_book (by omega), us_at]
/-- what a tick of the reference stands on -/
def Wm (S : Sv) : Prop := Bn (S 1 8) 12 ∧ Bn (S 1 9) 6 ∧ (∀ q, q < cn (S 1 9) → Bn (S 1 (260 + 3 * q)) 11) ∧ WN S ∧ S 1 3 ≤ 8
theorem Wm.same {S S' : Sv} (h : Wm S) (h3 : S' 1 3 = S 1 3) (h8 : S' 1 8 = S 1 8) (h9 : S' 1 9 = S 1 9) (h10 : S' 1 10 = S 1 10) (ht : ∀ q, q < 6 → S' 1 (260 + 3 * q) = S 1 (260 + 3 * q)) (hv : ∀ q, q < 8 → S' 1 (220 + 4 * q) = S 1 (220 + 4 * q)) : Wm S' := by
  obtain ⟨a, b, c, d, e⟩ := h
  have b2 := b.2
  have d2 := d.1.2
  refine ⟨by rw [h8]; exact a, by rw [h9]; exact b, fun q hq => ?_, ⟨by rw [h10]; exact d.1, fun q hq => ?_⟩, by rw [h3]; exact e⟩
  · rw [h9] at hq
    rw [ht q (by omega)]
    exact c q hq
  · rw [h10] at hq
    rw [hv q (by omega)]
    exact d.2 q hq
theorem wm_begin {S : Sv} {li : Nat} (h : Wm S) (hli : li < 12) (h8 : cn (S 1 10) < 8) : Wm (p_X7_begin S li) := by
  have hw := wn_begin h.2.2.2.1 hli h8
  obtain ⟨a, b, c, d, e⟩ := h
  have b2 := b.2
  have e9 : p_X7_begin S li 1 9 = S 1 9 := fr_begin (by omega) (by omega) (by omega)
  refine ⟨by rw [fr_begin (by omega) (by omega) (by omega)]; exact a, by rw [e9]; exact b, fun q hq => ?_, hw, by rw [fr_begin (by omega) (by omega) (by omega)]; exact e⟩
  rw [e9] at hq
  rw [fr_begin (by omega) (by omega) (by omega)]
  exact c q hq
theorem wm_end {S : Sv} {li : Nat} (h : Wm S) (hli : li < 12) (h0 : 0 < cn (S 1 10)) : Wm (p_X7_end S li) := by
  obtain ⟨a, b, c, d, e⟩ := h
  have b2 := b.2
  have d2 := d.1.2
  obtain ⟨hc, hB⟩ := bn_dec d.1 h0 (by decide)
  have e9 : p_X7_end S li 1 9 = S 1 9 := fr_end (by omega) (by omega)
  refine ⟨by rw [fr_end (by omega) (by omega)]; exact a, by rw [e9]; exact b, fun q hq => ?_, ⟨by rw [end_10 hli]; exact hB, fun q hq => ?_⟩, by rw [fr_end (by omega) (by omega)]; exact e⟩
  · rw [e9] at hq
    rw [fr_end (by omega) (by omega)]
    exact c q hq
  · rw [end_10 hli, hc] at hq
    rw [fr_end (by omega) (by omega)]
    exact d.2 q (by omega)
theorem wm_pass {S : Sv} (h : Wm S) : Wm (p_X7_pass S) := by
  obtain ⟨a, b, c, d, e⟩ := id h
  have b2 := b.2
  have kk := fun k => pm_keep b2 c (cn (S 1 9)) (Nat.le_refl _) 1 k
  have w1 : Wm (itN (q_X7_pass_4 S) (cn (S 1 9)) S) := h.same (kk 3 (by omega) (by omega)) (kk 8 (by omega) (by omega)) (kk 9 (by omega) (by omega)) (kk 10 (by omega) (by omega)) (fun q hq => kk _ (by omega) (by omega)) (fun q hq => kk _ (by omega) (by omega))
  have k8 := kk 8 (by omega) (by omega)
  have k10 := kk 10 (by omega) (by omega)
  unfold p_X7_pass
  dsimp only
  generalize itN (q_X7_pass_4 S) (cn (S 1 9)) S = S1 at w1 k8 k10 ⊢
  have hfx : Fdx2 (p_X7_found S1) := fm_res w1.1
  generalize p_X7_found S1 = x at hfx ⊢
  have w2 : Wm (if (if x < 0 then 0 else if S1 1 3 ≤ S1 1 10 then 0 else 1 : Int32) = 0 then S1 else if S1 1 10 = 0 then p_X7_begin S1 (cn x) else if p_X7_present S1 (cn x) < S1 1 (220 + 4 * cn (S 1 10) - 3) + S1 1 2 then S1 else p_X7_begin S1 (cn x)) := by
    by_cases hv0 : (if x < 0 then 0 else if S1 1 3 ≤ S1 1 10 then 0 else 1 : Int32) = 0
    · rw [if_pos hv0]; exact w1
    · rw [if_neg hv0]
      obtain ⟨hx0, hdd⟩ := can_sp rfl hv0
      have hbx := fx_ge hfx hx0
      have hd8 := lt_of_room w1.2.2.2.1.1 w1.2.2.2.2 hdd
      repeat' split
      all_goals first | exact w1 | exact wm_begin w1 (Nat.lt_of_le_of_lt hbx.2 (by decide)) hd8
  have k8j : (if (if x < 0 then 0 else if S1 1 3 ≤ S1 1 10 then 0 else 1 : Int32) = 0 then S1 else if S1 1 10 = 0 then p_X7_begin S1 (cn x) else if p_X7_present S1 (cn x) < S1 1 (220 + 4 * cn (S 1 10) - 3) + S1 1 2 then S1 else p_X7_begin S1 (cn x)) 1 8 = S 1 8 := by
    by_cases hv0 : (if x < 0 then 0 else if S1 1 3 ≤ S1 1 10 then 0 else 1 : Int32) = 0
    · rw [if_pos hv0]; exact k8
    · rw [if_neg hv0]
      obtain ⟨hx0, hdd⟩ := can_sp rfl hv0
      have hbx := fx_ge hfx hx0
      repeat' split
      all_goals first | exact k8 | (rw [fr_begin (by omega) (by omega) (by omega)]; exact k8)
  generalize (if (if x < 0 then 0 else if S1 1 3 ≤ S1 1 10 then 0 else 1 : Int32) = 0 then S1 else if S1 1 10 = 0 then p_X7_begin S1 (cn x) else if p_X7_present S1 (cn x) < S1 1 (220 + 4 * cn (S 1 10) - 3) + S1 1 2 then S1 else p_X7_begin S1 (cn x)) = S15 at w2 k8j ⊢
  have w3 : ∀ v, Wm (us (us S15 1 (220 + 4 * cn (S15 1 10) - 4 + 2) v) 1 11 ((us S15 1 (220 + 4 * cn (S15 1 10) - 4 + 2) v) 1 11 + 1)) ∨ cn (S15 1 10) = 0 := fun v => by
    by_cases h0 : cn (S15 1 10) = 0
    · exact Or.inr h0
    · have h2 := w2.2.2.2.1.1.2
      exact Or.inl (w2.same (by rw [us_ne _ _ (by omega), us_ne _ _ (by omega)]) (by rw [us_ne _ _ (by omega), us_ne _ _ (by omega)]) (by rw [us_ne _ _ (by omega), us_ne _ _ (by omega)]) (by rw [us_ne _ _ (by omega), us_ne _ _ (by omega)]) (fun q hq => by rw [us_ne _ _ (by omega), us_ne _ _ (by omega)]) (fun q hq => by rw [us_ne _ _ (by omega), us_ne _ _ (by omega)]))
  have w4 : ∀ T : Sv, Wm T → T 1 8 = S 1 8 → Wm (us (itN (q_X7_pass_232 S) (cn (S 1 8)) T) 1 7 ((itN (q_X7_pass_232 S) (cn (S 1 8)) T) 1 7 + 1)) := fun T hT _ => by
    have kg := fun k => pg_keep (S := S) (S2 := T) (cn (S 1 8)) a.2 1 k
    exact hT.same (by rw [us_ne _ _ (by omega), kg _ (by omega)]) (by rw [us_ne _ _ (by omega), kg _ (by omega)]) (by rw [us_ne _ _ (by omega), kg _ (by omega)]) (by rw [us_ne _ _ (by omega), kg _ (by omega)]) (fun q hq => by rw [us_ne _ _ (by omega), kg _ (by omega)]) (fun q hq => by rw [us_ne _ _ (by omega), kg _ (by omega)])
  by_cases h15 : S15 1 10 ≤ 0
  · rw [if_pos h15]
    exact w4 _ w2 k8j
  · rw [if_neg h15]
    have hj0 := ntk2 w2.2.2.2.1.1 h15
    have h2 := w2.2.2.2.1.1.2
    have w3' := (w3 (S15 1 (220 + 4 * cn (S15 1 10) - 4 + 2) - 1)).resolve_right (by omega)
    have hbn := w2.2.2.2.1.2 (cn (S15 1 10) - 1) (by omega)
    rw [show 220 + 4 * (cn (S15 1 10) - 1) = 220 + 4 * cn (S15 1 10) - 4 by omega] at hbn
    have hb12 := hbn.2
    have h10 : (us (us S15 1 (220 + 4 * cn (S15 1 10) - 4 + 2) (S15 1 (220 + 4 * cn (S15 1 10) - 4 + 2) - 1)) 1 11 ((us S15 1 (220 + 4 * cn (S15 1 10) - 4 + 2) (S15 1 (220 + 4 * cn (S15 1 10) - 4 + 2) - 1)) 1 11 + 1)) 1 10 = S15 1 10 := by rw [us_ne _ _ (by omega), us_ne _ _ (by omega)]
    have h88 : (us (us S15 1 (220 + 4 * cn (S15 1 10) - 4 + 2) (S15 1 (220 + 4 * cn (S15 1 10) - 4 + 2) - 1)) 1 11 ((us S15 1 (220 + 4 * cn (S15 1 10) - 4 + 2) (S15 1 (220 + 4 * cn (S15 1 10) - 4 + 2) - 1)) 1 11 + 1)) 1 8 = S 1 8 := by rw [us_ne _ _ (by omega), us_ne _ _ (by omega), k8j]
    generalize us (us S15 1 (220 + 4 * cn (S15 1 10) - 4 + 2) (S15 1 (220 + 4 * cn (S15 1 10) - 4 + 2) - 1)) 1 11 ((us S15 1 (220 + 4 * cn (S15 1 10) - 4 + 2) (S15 1 (220 + 4 * cn (S15 1 10) - 4 + 2) - 1)) 1 11 + 1) = S19 at w3' h10 h88 ⊢
    split
    · exact w4 _ (wm_end w3' (by omega) (by rw [h10]; exact hj0)) (by rw [fr_end (by omega) (by omega)]; exact h88)
    · exact w4 _ w3' h88
theorem wm_it {S : Sv} (h : Wm S) {f : Nat → Sv → Sv} (hf : ∀ n T, f n T = p_X7_pass T) : ∀ n, Wm (itN f n S) := by
  intro n
  induction n with
  | zero => exact h
  | succ n ih =>
    rw [itN_s, hf]
    exact wm_pass ih

theorem rec1_keep {S : Sv} : ∀ n p k, ¬ p = 3 → itN (q_X7_record_19 S) n S p k = S p k := by
  intro n
  induction n with
  | zero => intro p k _; rfl
  | succ n ih =>
    intro p k hp
    rw [itN_s]
    unfold q_X7_record_19
    dsimp only
    rw [us_ne _ _ (fun z => hp z.1)]
    exact ih p k hp
theorem fr_record {S : Sv} {p k : Nat} (h0 : ¬ p = 0) (h3 : ¬ p = 3) : p_X7_record S p k = S p k := by
  unfold p_X7_record
  dsimp only
  split
  · rw [us_ne _ _ (by omega), rec_keep _ _ _ h3]
    split
    · rw [us_ne _ _ (by omega), rec1_keep _ _ _ h3]
    · rfl
  · rfl
theorem wm_record {S : Sv} (h : Wm S) : Wm (p_X7_record S) := h.same (fr_record (by decide) (by decide)) (fr_record (by decide) (by decide)) (fr_record (by decide) (by decide)) (fr_record (by decide) (by decide)) (fun q _ => fr_record (by decide) (by decide)) (fun q _ => fr_record (by decide) (by decide))
theorem wI {a x : Int32} {S : Sv} (hc : Bn (S 1 8) 12) (hx : x = p_X7_isLine S a) (h : ¬ x = 0) : a = nI (cn a) ∧ cn a < cn (S 1 8) := wL hc (by decide) (by rw [hx]; unfold p_X7_isLine; rw [in_w]) h
theorem wNi {a c x : Int32} {n : Nat} (hc : c = nI n) (hn : n < 2 ^ 31) (hx : x = p_X7_in a 0 c) (h : ¬ x = 0) : a = nI (cn a) ∧ cn a ≤ n := wN hc hn (by rw [hx, in_w]) h
theorem wLi {a c x : Int32} {n : Nat} (hc : Bn c n) (hn : n < 2 ^ 31) (hx : x = p_X7_in a 0 (c - 1)) (h : ¬ x = 0) : a = nI (cn a) ∧ cn a < cn c := wL hc hn (by rw [hx, in_w]) h
theorem wBi {a b d x : Int32} {n : Nat} (hb : b = nI 1) (hd : d = nI n) (hn : n < 2 ^ 31) (hx : x = p_X7_in a b d) (h : ¬ x = 0) : a = nI (cn a) ∧ cn a ≤ n := wB hb hd hn (by rw [hx, in_w]) h

def q_X7_ticks_20 (S : Sv) (tk : Int32) (j : Nat) (σ : Sv) : Sv :=
  let S4 : Sv := σ
  let S6 : Sv := p_X7_pass S4
  S6
def p_X7_ticks (S : Sv) (tk : Int32) : Int32 × Sv :=
  let x1 : Int32 := p_X7_in tk 1 500
  if x1 = 0 then
    (((-2) : Int32), S)
  else
    let S3 : Sv := p_X7_record S
    let S4 : Sv := (itN (q_X7_ticks_20 S tk) (cn tk) (S3))
    ((S4 1 7 : Int32), S4)

theorem tk_f {S : Sv} {tk : Int32} : ∀ n T, q_X7_ticks_20 S tk n T = p_X7_pass T := fun _ _ => rfl

set_option maxHeartbeats 4000000 in
set_option maxRecDepth 100000 in
theorem c_X7_ticks (l : Launch) (E : mE) (μ : Mu) (S : Sv) (tk : Int32) (hu : Bn (S 0 3) 6) (wfS : Wm S) : CtI l E yX7_ticks cX7_ticks 3 (some .int) 5 114 [.ref (ea E 13 0), .int tk] (fo μ 13 S) (fun x μ' => x = (p_X7_ticks S tk).1 ∧ μ' = fo μ 13 (p_X7_ticks S tk).2) := by
  refine jMet (by decide +kernel) (Nat.le_of_ble_eq_true rfl) ?_
  intro p e s m below meth c ls F hT hr0 hlk hW hl
  have F : CallFix p m c cX7_ticks 3 s _ TB RX7 := F
  have hl : lv_has ls 3 [(0, .ref (ea E 13 0)), (1, .int tk)] := hl
  refine lv_iload_n F.1 F.2.1 dX7_ticks_0 rfl (lv_at hl 1 rfl) ?_
  refine lv_iconst (v := 1) F.1 F.2.1 dX7_ticks_1 (by decide) ?_
  refine lv_sipush (v := 500) F.1 F.2.1 dX7_ticks_2 (by decide) ?_
  refine jcip (jrunS (As := [.int tk, .int 1, .int 500]) (rest := []) F hT hW yc_X7_in ys_X7_in ml_X7_40 (c_X7_in l E (fo μ 13 S) tk 1 500) rfl hl.1 ⟨Nat.le_of_ble_eq_true rfl, Nat.le_of_ble_eq_true rfl⟩ rfl (Nat.le_of_ble_eq_true rfl) ⟨Nat.le_refl _, Nat.le_refl _⟩ dX7_ticks_5) hW (fun x1 H locs ex1 hW => ?_)
  refine lv_if_ne (tgt := 14) F.1 F.2.1 dX7_ticks_8 (by decide) (fun h2 => ?_) (fun h2 => ?_)
  · obtain ⟨ht1, ht2⟩ := wBi (lI 1) (lI 500) (by decide) (by assumption) (by assumption)
    refine lv_aload_n F.1 F.2.1 dX7_ticks_14 rfl (lv_at hl 0 rfl) ?_
    refine jcvf (jrunV (As := []) (rest := []) F hT hW yc_X7_record yv_X7_record ml_X7_51 oM0 (by decide) rfl (c_X7_record l E μ S (by first | assumption | omega)) rfl hl.1 ⟨Nat.le_of_ble_eq_true rfl, Nat.le_of_ble_eq_true rfl⟩ rfl (Nat.le_of_ble_eq_true rfl) ⟨Nat.le_refl _, Nat.le_refl _⟩ dX7_ticks_15) hW (fun S3 H locs eS3 hW => ?_)
    have wfS3 : Wm S3 := by rw [eS3]; exact wm_record wfS
    refine lv_iconst (v := 0) F.1 F.2.1 dX7_ticks_18 (by decide) ?_
    refine lv_istore_n (lv' := [(2, .int 0), (0, .ref (ea E 13 0)), (1, .int tk)]) F.1 F.2.1 dX7_ticks_19 rfl hl (by decide) rfl (fun ls hl => ?_)
    have hL5 : ∀ (fu j : Nat) (S4 : Sv) (H : Heap) (locs : List Loc) (ls : Array Slot), j + fu = cn tk → (S4) = itN (q_X7_ticks_20 S tk) j (S3) → Wd E s H locs (fo μ 13 S4) → lv_has ls 3 [(2, .int (nI j)), (0, .ref (ea E 13 0)), (1, .int tk)] → W p l e (rmO 5 114) s m ([.ref (ea E 13 0), .int tk] : List Value).toArray below meth c H locs 0 0 (MQ below (va_Qi (fun x μ' => x = (p_X7_ticks S tk).1 ∧ μ' = fo μ 13 (p_X7_ticks S tk).2) (fun μ' t => MB E μ' t.heap) (AA E)) ([.ref (ea E 13 0), .int tk] : List Value).toArray s 0 0 (AA E)) (F0 m 20 ls []) := by
      intro fu
      induction fu with
      | zero =>
        intro j S4 H locs ls hj hs  hW hl
        obtain rfl : j = cn tk := by omega
        have eS4 := hs
        refine lv_iload_n F.1 F.2.1 dX7_ticks_20 rfl (lv_at hl 0 rfl) ?_
        refine lv_iload_n F.1 F.2.1 dX7_ticks_21 rfl (lv_at hl 2 rfl) ?_
        refine lv_icmp_ge (tgt := 35) F.1 F.2.1 dX7_ticks_22 (by decide) (fun h6 => ?_) (fun h6 => ?_)
        · refine lv_aload_n F.1 F.2.1 dX7_ticks_35 rfl (lv_at hl 1 rfl) ?_
          refine jgetR F hT hW fw_X7_7 oM0 (by decide) rfl dX7_ticks_36 ?_
          refine lv_bipush (v := 7) F.1 F.2.1 dX7_ticks_39 (by decide) ?_
          refine jiald F hT hW 7 oM1 (by omega) (by decide) (lI 7) rfl dX7_ticks_41 ?_
          have hq : ((S4 1 7 : Int32), S4) = p_X7_ticks S tk := by
            subst eS4
            subst eS3
            subst ex1
            exact (if_neg h2).symm
          exact jri F hr0 hlk hW rfl dX7_ticks_42 ⟨congrArg Prod.fst hq, congrArg (fun z => fo μ 13 z.2) hq⟩
        · exact absurd (c_le ht1 rfl (by omega) (by omega)) h6
      | succ fu ih =>
        intro j S4 H locs ls hj hs  hW hl
        have wfS4 := wm_it wfS3 (tk_f (S := S) (tk := tk)) j
        rw [← hs] at wfS4
        refine lv_iload_n F.1 F.2.1 dX7_ticks_20 rfl (lv_at hl 0 rfl) ?_
        refine lv_iload_n F.1 F.2.1 dX7_ticks_21 rfl (lv_at hl 2 rfl) ?_
        refine lv_icmp_ge (tgt := 35) F.1 F.2.1 dX7_ticks_22 (by decide) (fun h5 => ?_) (fun h5 => ?_)
        · exact absurd h5 (c_nle ht1 rfl (by omega) (by omega))
        · refine lv_aload_n F.1 F.2.1 dX7_ticks_25 rfl (lv_at hl 1 rfl) ?_
          refine jcvf (jrunV (As := []) (rest := []) F hT hW yc_X7_pass yv_X7_pass ml_X7_99 oM0 (by decide) rfl (c_X7_pass l E μ S4 wfS4.1 wfS4.2.1 wfS4.2.2.1 wfS4.2.2.2.1 wfS4.2.2.2.2) rfl hl.1 ⟨Nat.le_of_ble_eq_true rfl, Nat.le_of_ble_eq_true rfl⟩ rfl (Nat.le_of_ble_eq_true rfl) ⟨Nat.le_refl _, Nat.le_refl _⟩ dX7_ticks_26) hW (fun S6 H locs eS6 hW => ?_)
          refine lv_iinc (v := nI (j + 1)) (lv' := [(2, .int (nI (j + 1))), (0, .ref (ea E 13 0)), (1, .int tk)]) F.1 F.2.1 dX7_ticks_29 hl (k := 0) rfl (ia rfl rfl) (by decide) rfl (fun ls hl => ?_)
          refine lv_goto (tgt := 20) F.1 F.2.1 dX7_ticks_32 (by decide) ?_
          subst eS6
          exact ih (j + 1) _ _ _ _ (by omega) (by rw [itN_s, ← hs]; exact (rfl).symm) hW (lv_sub hl [0, 1, 2] rfl)
    exact hL5 (cn tk) 0 S3 _ _ _ (by omega) rfl hW (lv_sub hl [0, 1, 2] rfl)
  · refine lv_bipush (v := (-2)) F.1 F.2.1 dX7_ticks_11 (by decide) ?_
    have hq : (((-2) : Int32), S) = p_X7_ticks S tk := by
      subst ex1
      exact (if_pos h2).symm
    exact jri F hr0 hlk hW rfl dX7_ticks_13 ⟨congrArg Prod.fst hq, congrArg (fun z => fo μ 13 z.2) hq⟩

