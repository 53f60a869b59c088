/-! class InterruptInn: saving, forecasts -/
theorem wf_set {S : Sv} {a b : Int32} (h : Wf S) : Wf (p_X3_changeSetting S a b).2 := by
  unfold p_X3_changeSetting
  dsimp only
  repeat' split
  all_goals dsimp only
  all_goals first | exact h | exact h.same (us_ne _ _ (by omega)) (us_ne _ _ (by omega)) (us_ne _ _ (by omega)) (fun q _ => us_ne _ _ (by omega)) (fun q _ => us_ne _ _ (by omega))

def p_X6_save (μ : Mu) (sl : Int32) : Int32 × Mu :=
  let x1 : Int32 := p_X6_within sl 0 1
  if x1 = 0 then
    (((-2) : Int32), μ)
  else
    let S3 : Mu := fo μ (2 + (cn sl)) (p_X3_copyFrom (μ (2 + (cn sl))) (μ 0))
    let S4 : Mu := fo S3 11 (us (S3 11) 2 (cn sl) 1)
    ((S4 0 0 0 : Int32), S4)

def p_X6_restore (μ : Mu) (sl : Int32) : Int32 × Mu :=
  let x1 : Int32 := p_X6_within sl 0 1
  if x1 = 0 then
    (((-2) : Int32), μ)
  else
    if (μ 11 2 (cn sl)) = 0 then
      (((-5) : Int32), μ)
    else
      let S4 : Mu := p_X0_prepare μ
      let S5 : Mu := fo S4 0 (p_X3_copyFrom (S4 0) (S4 (2 + (cn sl))))
      let x6 : Int32 := (p_X0_recordUnlessError (S5 11) (S5 0 0 0)).1
      let S7 : Mu := fo S5 11 (p_X0_recordUnlessError (S5 11) (S5 0 0 0)).2
      ((x6 : Int32), S7)

def p_X6_beginsIn (μ : Mu) (ln : Int32) : Int32 × Mu :=
  let x1 : Int32 := p_X3_hasLine (μ 0) ln
  if x1 = 0 then
    (((-1) : Int32), μ)
  else
    let S3 : Mu := fo μ 1 (p_X3_copyFrom (μ 1) (μ 0))
    let x4 : Int32 := (p_X3_ticksUntilBegin (S3 1) ln 600).1
    let S5 : Mu := fo S3 1 (p_X3_ticksUntilBegin (S3 1) ln 600).2
    ((x4 : Int32), S5)

def p_X6_idleIn (μ : Mu) : Int32 × Mu :=
  let S1 : Mu := fo μ 1 (p_X3_copyFrom (μ 1) (μ 0))
  let x2 : Int32 := (p_X3_ticksUntilIdle (S1 1) 600).1
  let S3 : Mu := fo S1 1 (p_X3_ticksUntilIdle (S1 1) 600).2
  ((x2 : Int32), S3)

def p_X6_missesIn (μ : Mu) (tk : Int32) : Int32 × Mu :=
  let x1 : Int32 := p_X6_within tk 1 500
  if x1 = 0 then
    (((-2) : Int32), μ)
  else
    let S3 : Mu := fo μ 1 (p_X3_copyFrom (μ 1) (μ 0))
    let x4 : Int32 := (p_X3_passTicks (S3 1) tk).1
    let S5 : Mu := fo S3 1 (p_X3_passTicks (S3 1) tk).2
    let x6 : Int32 := p_X3_missesOfAll (S5 1)
    let x7 : Int32 := p_X3_missesOfAll (S5 0)
    ((x6 - x7 : Int32), S5)

def q_X6_greatestBar_34 (μ : Mu) (ln : Int32) (tk : Int32) : Nat → Nat → Mu → Int32 → Int32 × Mu
  | 0, j, S5, v6 =>
    (((-6) : Int32), S5)
  | fu + 1, j, S5, v6 =>
    let S8 : Mu := fo S5 1 (p_X3_copyFrom (S5 1) (S5 0))
    let x9 : Int32 := (p_X3_changeSetting (S8 1) 6 v6).1
    let S10 : Mu := fo S8 1 (p_X3_changeSetting (S8 1) 6 v6).2
    let x11 : Int32 := (p_X3_ticksUntilBegin (S10 1) ln (cn tk)).1
    let S12 : Mu := fo S10 1 (p_X3_ticksUntilBegin (S10 1) ln (cn tk)).2
    if x11 = (-6) then
      q_X6_greatestBar_34 μ ln tk fu (j + 1) S12 (v6 + (-1))
    else
      ((v6 : Int32), S12)
def p_X6_greatestBar (μ : Mu) (ln : Int32) (tk : Int32) : Int32 × Mu :=
  let x1 : Int32 := p_X3_hasLine (μ 0) ln
  if x1 = 0 then
    (((-1) : Int32), μ)
  else
    let x3 : Int32 := p_X6_within tk 1 200
    if x3 = 0 then
      (((-2) : Int32), μ)
    else
      q_X6_greatestBar_34 μ ln tk 32 0 μ (vMst 6)
