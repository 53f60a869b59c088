/-! class InterruptInn: a text is carried out -/

def q_X2_numberBetweenB_5 (S : Sv) (fr : Nat) (en : Nat) (j : Nat) (σ : Int32) : Int32 :=
  let v1 : Int32 := σ
  let x3 : Int32 := p_X2_signAt S (nI (fr + j))
  ((10 * v1) + x3) - 48
def p_X2_numberBetweenB (S : Sv) (fr : Nat) (en : Nat) : Int32 :=
  let v1 : Int32 := (itN (q_X2_numberBetweenB_5 S fr en) (en - fr) (0))
  (v1 : Int32)
def p_X6_obey (μ : Mu) (sa : Nat) (en : Nat) : Int32 × Mu :=
  let x1 : Int32 := p_X2_signAt (μ 11) ((nI sa) + 1)
  let x2 : Int32 := p_X2_signAt (μ 11) (nI sa)
  if x2 = 104 then
    let x3 : Int32 := p_X2_signAt (μ 11) ((nI sa) + 2)
    let x4 : Int32 := (p_X3_holdLine (μ 0) (x1 - 65) (x3 - 48) 1).1
    let S5 : Mu := fo μ 0 (p_X3_holdLine (μ 0) (x1 - 65) (x3 - 48) 1).2
    ((x4 : Int32), S5)
  else
    if x2 = 105 then
      let x6 : Int32 := p_X2_numberBetweenB (μ 11) (sa + 1) en
      let x7 : Int32 := (p_X3_passTicks (μ 0) x6).1
      let S8 : Mu := fo μ 0 (p_X3_passTicks (μ 0) x6).2
      ((x7 : Int32), S8)
    else
      if x2 = 106 then
        let x9 : Int32 := p_X2_numberBetweenB (μ 11) (sa + 1) en
        let x10 : Int32 := (p_X3_passTicks (μ 0) x9).1
        let S11 : Mu := fo μ 0 (p_X3_passTicks (μ 0) x9).2
        ((x10 : Int32), S11)
      else
        if x2 = 107 then
          let x12 : Int32 := p_X2_numberBetweenB (μ 11) (sa + 1) en
          let x13 : Int32 := (p_X3_passTicks (μ 0) x12).1
          let S14 : Mu := fo μ 0 (p_X3_passTicks (μ 0) x12).2
          ((x13 : Int32), S14)
        else
          if x2 = 108 then
            let x15 : Int32 := p_X2_signAt (μ 11) ((nI sa) + 2)
            let x16 : Int32 := (p_X3_holdLine (μ 0) (x1 - 65) (x15 - 48) 0).1
            let S17 : Mu := fo μ 0 (p_X3_holdLine (μ 0) (x1 - 65) (x15 - 48) 0).2
            ((x16 : Int32), S17)
          else
            if x2 = 109 then
              let x18 : Int32 := (p_X3_maskLine (μ 0) (x1 - 65) 1).1
              let S19 : Mu := fo μ 0 (p_X3_maskLine (μ 0) (x1 - 65) 1).2
              ((x18 : Int32), S19)
            else
              if x2 = 110 then
                let x20 : Int32 := (p_X3_maskLine (μ 0) (x1 - 65) 0).1
                let S21 : Mu := fo μ 0 (p_X3_maskLine (μ 0) (x1 - 65) 0).2
                ((x20 : Int32), S21)
              else
                if x2 = 111 then
                  let x22 : Int32 := p_X2_numberBetweenB (μ 11) (sa + 1) en
                  let x23 : Int32 := (p_X3_passTicks (μ 0) x22).1
                  let S24 : Mu := fo μ 0 (p_X3_passTicks (μ 0) x22).2
                  ((x23 : Int32), S24)
                else
                  if x2 = 112 then
                    let x25 : Int32 := p_X2_numberBetweenB (μ 11) (sa + 1) en
                    let x26 : Int32 := (p_X3_passTicks (μ 0) x25).1
                    let S27 : Mu := fo μ 0 (p_X3_passTicks (μ 0) x25).2
                    ((x26 : Int32), S27)
                  else
                    if x2 = 113 then
                      let x28 : Int32 := p_X2_numberBetweenB (μ 11) (sa + 1) en
                      let x29 : Int32 := (p_X3_passTicks (μ 0) x28).1
                      let S30 : Mu := fo μ 0 (p_X3_passTicks (μ 0) x28).2
                      ((x29 : Int32), S30)
                    else
                      if x2 = 114 then
                        let x31 : Int32 := p_X2_numberBetweenB (μ 11) (sa + 1) en
                        let x32 : Int32 := (p_X3_passTicks (μ 0) x31).1
                        let S33 : Mu := fo μ 0 (p_X3_passTicks (μ 0) x31).2
                        ((x32 : Int32), S33)
                      else
                        if x2 = 115 then
                          let x34 : Int32 := p_X2_numberBetweenB (μ 11) (sa + 1) en
                          let x35 : Int32 := (p_X3_passTicks (μ 0) x34).1
                          let S36 : Mu := fo μ 0 (p_X3_passTicks (μ 0) x34).2
                          ((x35 : Int32), S36)
                        else
                          if x2 = 116 then
                            let x37 : Int32 := p_X2_numberBetweenB (μ 11) (sa + 1) en
                            let x38 : Int32 := (p_X3_passTicks (μ 0) x37).1
                            let S39 : Mu := fo μ 0 (p_X3_passTicks (μ 0) x37).2
                            ((x38 : Int32), S39)
                          else
                            if x2 = 117 then
                              let x40 : Int32 := (p_X3_raiseLine (μ 0) (x1 - 65)).1
                              let S41 : Mu := fo μ 0 (p_X3_raiseLine (μ 0) (x1 - 65)).2
                              ((x40 : Int32), S41)
                            else
                              let x42 : Int32 := p_X2_numberBetweenB (μ 11) (sa + 1) en
                              let x43 : Int32 := (p_X3_passTicks (μ 0) x42).1
                              let S44 : Mu := fo μ 0 (p_X3_passTicks (μ 0) x42).2
                              ((x43 : Int32), S44)

theorem wf_line {S S' : Sv} {i : Nat} (h : Wf S) (hi : i < 12) (hk : ∀ p k, ¬ p = 3 + i → S' p k = S p k) : Wf S' := h.same (hk _ _ (by omega)) (hk _ _ (by omega)) (hk _ _ (by omega)) (fun q _ => hk _ _ (by omega)) (fun q _ => hk _ _ (by omega))
theorem hasL {S : Sv} {ln : Int32} (h : Wf S) (h1 : ¬ p_X3_hasLine S ln = 0) : cn ln < 12 := by
  have := (wL (a := ln) h.1 (by decide) (x := p_X6_within ln 0 (S 0 3 - 1)) rfl h1).2
  have h2 := h.1.2
  omega
theorem wf_raiseL {S : Sv} {ln : Int32} (h : Wf S) : Wf (p_X3_raiseLine S ln).2 := by
  unfold p_X3_raiseLine
  dsimp only
  split
  · exact h
  · next h1 =>
    split
    · exact wf_line h (hasL h h1) fun p k hp => fr_takeEdge hp
    · exact h
theorem wf_holdL {S : Sv} {ln dv up : Int32} (h : Wf S) : Wf (p_X3_holdLine S ln dv up).2 := by
  unfold p_X3_holdLine
  dsimp only
  split
  · exact h
  · next h1 =>
    split
    · exact h
    · split
      · exact h
      · split
        · exact h
        · exact wf_line h (hasL h h1) fun p k hp => fr_moveDevice hp
theorem wf_maskL {S : Sv} {ln i : Int32} (h : Wf S) : Wf (p_X3_maskLine S ln i).2 := by
  unfold p_X3_maskLine
  dsimp only
  split
  · exact h
  · next h1 =>
    split
    · exact h
    · exact wf_line h (hasL h h1) fun p k hp => us_ne _ _ (by omega)
theorem obey_x {μ : Mu} {sa en : Nat} (h : Wf (μ 0)) : ∃ T, (p_X6_obey μ sa en).2 = fo μ 0 T ∧ Wf T := by
  have h1 := fun a => wf_raiseL (ln := a) h
  have h2 := fun a b c => wf_holdL (ln := a) (dv := b) (up := c) h
  have h3 := fun a b => wf_maskL (ln := a) (i := b) h
  have h4 := fun a => wf_ticks (tk := a) h
  unfold p_X6_obey
  dsimp only
  generalize p_X3_raiseLine (μ 0) = f1 at h1 ⊢
  generalize p_X3_holdLine (μ 0) = f2 at h2 ⊢
  generalize p_X3_maskLine (μ 0) = f3 at h3 ⊢
  generalize p_X3_passTicks (μ 0) = f4 at h4 ⊢
  repeat' (first | refine iteR (P := fun z : Int32 × Mu => ∃ T, z.2 = fo μ 0 T ∧ Wf T) ?_ ?_ | exact ⟨_, rfl, h1 _⟩ | exact ⟨_, rfl, h2 _ _ _⟩ | exact ⟨_, rfl, h3 _ _⟩ | exact ⟨_, rfl, h4 _⟩)
theorem obey_ne {μ : Mu} {sa en q : Nat} (h : Wf (μ 0)) (hq : q ≠ 0) : (p_X6_obey μ sa en).2 q = μ q := by
  obtain ⟨T, e, _⟩ := obey_x (sa := sa) (en := en) h
  rw [e]
  exact fo_ne _ _ hq
theorem wf_obey {μ : Mu} {sa en : Nat} (h : Wf (μ 0)) : Wf ((p_X6_obey μ sa en).2 0) := by
  obtain ⟨T, e, w⟩ := obey_x (sa := sa) (en := en) h
  rw [e, fo_at]
  exact w
theorem st_s {v : Int32} {j : Nat} (h : Bn v 81 ∧ cn v ≤ j) : Bn v 81 ∧ cn v ≤ j + 1 := ⟨h.1, Nat.le_succ_of_le h.2⟩
theorem st_e {j : Nat} (h : j < 81) : Bn (nI j + 1) 81 ∧ cn (nI j + 1) ≤ j + 1 := by
  have e : nI j + 1 = nI (j + 1) := ia rfl (lI 1)
  have e2 : cn (nI (j + 1)) = j + 1 := nI_clamp (by omega)
  rw [e, e2]
  exact ⟨bnI (by omega) (by omega), Nat.le_refl _⟩

def q_X6_carryOut_32 (μ : Mu) : Nat → Nat → Mu → Int32 → Int32 → Int32 × Mu
  | 0, j, S4, v5, v6 =>
    let x9 : Int32 := (p_X2_clear (S4 11)).1
    let S10 : Mu := fo S4 11 (p_X2_clear (S4 11)).2
    let x11 : Int32 := (p_X0_recordUnlessError (S10 11) v6).1
    let S12 : Mu := fo S10 11 (p_X0_recordUnlessError (S10 11) v6).2
    ((x11 : Int32), S12)
  | fu + 1, j, S4, v5, v6 =>
    let x8 : Int32 := p_X2_orderEndsAt (S4 11) (nI j)
    if x8 = 0 then
      q_X6_carryOut_32 μ fu (j + 1) S4 v5 v6
    else
      let x10 : Int32 := (p_X6_obey S4 (cn v5) j).1
      let S11 : Mu := (p_X6_obey S4 (cn v5) j).2
      if 0 ≤ x10 then
        q_X6_carryOut_32 μ fu (j + 1) S11 ((nI j) + 1) (v6 + 1)
      else
        let x13 : Int32 := (p_X2_clear (S11 11)).1
        let S14 : Mu := fo S11 11 (p_X2_clear (S11 11)).2
        let x15 : Int32 := (p_X0_recordUnlessError (S14 11) v6).1
        let S16 : Mu := fo S14 11 (p_X0_recordUnlessError (S14 11) v6).2
        ((x15 : Int32), S16)
def p_X6_carryOut (μ : Mu) : Int32 × Mu :=
  let x1 : Int32 := p_X2_firstFault (μ 11)
  if x1 = (-6) then
    let S3 : Mu := p_X0_prepare μ
    q_X6_carryOut_32 μ (cn (μ 11 5 1) + 1) 0 S3 0 0
  else
    (((-3) : Int32), μ)
