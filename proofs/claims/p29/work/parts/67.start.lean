/-! the law's start: where all lies -/
def adr (B a0 a1 a2 : Nat) (r p : Nat) : Nat :=
  if r < 11 then (if r < 2 then B + 1 + 31 * r + p else if r < 4 then B + 64 + 31 * (r - 2) + p else B + 129 + 31 * (r - 4) + p)
  else if r = 11 then (if p = 0 then B else if p = 1 then B + 63 else if p < 5 then B + 124 + p else B + 341 + p)
  else if r = 12 then (if p = 0 then a0 else if p = 1 then a1 else a2) else if r = 13 then B + 348 + p else 0
theorem adr_ge {B a0 a1 a2 r p : Nat} (h : r ≠ 12) (h2 : r ≤ 13) : B ≤ adr B a0 a1 a2 r p := by
  unfold adr
  repeat' split
  all_goals omega
theorem adr_inj {B a0 a1 a2 : Nat} (h0 : a0 < B) (h1 : a1 < B) (h2 : a2 < B) (h01 : a0 ≠ a1) (h02 : a0 ≠ a2) (h12 : a1 ≠ a2) {E : mE} (hE : nlc E = 0) {r p r' p' : Nat} (hl : live E r p) (hl' : live E r' p') (h : adr B a0 a1 a2 r p = adr B a0 a1 a2 r' p') : r = r' ∧ p = p' := by
  unfold live at hl hl'
  rw [hE] at hl hl'
  unfold adr at h
  repeat' split at h
  all_goals omega
/-- a static array of seven numbers, as the Statement tells it -/
theorem st_arr {s : State} {args : Array Value} {nm : String} {f : Nat → Int32} (hex : (Cond.exactly (.static "InterruptInn" nm "[I") "[I").before args s = true) (har : (Cond.arrayOf (.static "InterruptInn" nm "[I") .int).before args s = true) (hlen : (Cond.eq (.length (.static "InterruptInn" nm "[I")) (.int 7)).before args s = true) (hel : ∀ j, j < 7 → (Cond.eq (.elem (.static "InterruptInn" nm "[I") (.int (nI j))) (.int (f j))).before args s = true) :
    ∃ (a : Nat) (cell : Cell), (Term.static "InterruptInn" nm "[I").eval args s none [] s = some (.ref a) ∧ s.heap[a]? = some cell ∧ s.vm.findClass "[I" = some cell.cls ∧ (∀ cA, cell.slots = (arrV cA 7 (fun j => .int (f j))).slots) ∧ (∀ k, cell.vm ≠ .statics k) ∧ cell.vm ≠ .unknown := by
  obtain ⟨a, c, cell, k, h1, h2, h3, h4, h5, h6, -⟩ := Cond.exactly_spec hex
  obtain ⟨hof, hkn⟩ := Cond.arrayOf_spec har h1 h3
  have hat : s.arrayAt? a = some cell := by
    obtain ⟨-, k', hk', comp, hkind⟩ := hof
    unfold State.arrayAt?
    simp [h3, hk', hkind, hkn, h5]
  have hl1 : (Term.length (.static "InterruptInn" nm "[I")).eval args s none [] s = some (.int 7) := Cond.eq_int hlen rfl
  have hsz : cell.slots.size = 7 := by
    unfold Term.eval at hl1
    simp only [h1, hat, Option.bind_eq_bind, Option.bind_some] at hl1
    by_cases hlt : cell.slots.size < 2 ^ 31
    · rw [if_pos hlt] at hl1
      have e1 : nI cell.slots.size = nI 7 := by
        have e2 := Option.some.inj hl1
        injection e2
      exact nI_inj e1 hlt (by decide)
    · rw [if_neg hlt] at hl1
      cases hl1
  refine ⟨a, cell, h1, h3, by rw [h6]; exact h2, fun cA => ?_, hof.1, hkn⟩
  apply Array.ext
  · rw [arrV_size, hsz]
  · intro j hj1 hj2
    rw [hsz] at hj1
    have he := Cond.eq_int (hel j hj1) (n := f j) rfl
    have hj : (nI j).toNatClampNeg = j := nI_clamp (by omega)
    have hneg : ¬ nI j < 0 := nI_nneg (by omega)
    have hi : (Term.int (nI j)).eval args s none [] s = some (.int (nI j)) := rfl
    unfold Term.eval at he
    simp only [h1, hi, hat, Option.bind_eq_bind, Option.bind_some] at he
    rw [if_neg hneg, hj] at he
    have h7 : (arrV cA 7 (fun j => .int (f j))).slots[j]? = some (.int (f j)) := arrV_read cA _ hj1
    exact Option.some.inj ((Array.getElem?_eq_getElem _).symm.trans (he.trans (h7.symm.trans (Array.getElem?_eq_getElem _))))

/-! the first numbers -/
def mu0 : Mu := fun r p k => if r = 12 then (if p = 0 then vFst k else if p = 1 then vLst k else vMst k) else if p = 1 then vFst k else 0
theorem vFst_ge {j : Nat} (h : 6 ≤ j) : vFst j = 0 := by
  match j, h with
  | j + 6, _ => rfl
theorem rgF : ∀ k, k < 7 → vLst k ≤ vFst k ∧ vFst k ≤ vMst k := by decide +kernel
theorem mu_0 {r p k : Nat} (hr : r ≠ 12) (hp : p ≠ 1) : mu0 r p k = 0 := by
  unfold mu0
  rw [if_neg hr, if_neg hp]
theorem mu_1 {r k : Nat} (hr : r ≠ 12) : mu0 r 1 k = vFst k := by
  unfold mu0
  rw [if_neg hr, if_pos rfl]
theorem ws0 {r : Nat} (hr : r < 11) : Ws (mu0 r) := by
  have z : ∀ p k, p ≠ 1 → mu0 r p k = 0 := fun p k hp => mu_0 (by omega) hp
  refine ⟨⟨?_, ?_, ?_, fun q _ => ?_, fun q _ => ?_⟩, fun i _ => ⟨Or.inl ?_, Or.inl ?_, Or.inl ?_⟩⟩
  all_goals first | exact z _ _ (by omega) | (rw [z _ _ (by omega)]; exact bn_z)
theorem jj0 : JJ 0 0 0 0 0 mu0 := by
  have z : ∀ r p k, r ≠ 12 → p ≠ 1 → mu0 r p k = 0 := fun r p k hr hp => mu_0 hr hp
  refine ⟨⟨fun r hr => ws0 hr, ?_, ?_, ?_, fun j _ => ?_, fun j _ => rfl, fun j _ => rfl⟩, ⟨⟨z _ _ _ (by decide) (by decide), by decide, z _ _ _ (by decide) (by decide), by decide, z _ _ _ (by decide) (by decide), by decide, z _ _ _ (by decide) (by decide), by decide, ⟨0, by decide, by decide, z _ _ _ (by decide) (by decide)⟩, fun k hk => ?_⟩, fun i hi => absurd hi (by omega), fun i hi => absurd hi (by omega), fun i hi => absurd hi (by omega), fun i hi => absurd hi (by omega)⟩, by decide, by decide⟩
  · rw [z _ _ _ (by decide) (by decide)]; exact bn_z
  · rw [z _ _ _ (by decide) (by decide)]; exact bn_z
  · rw [z _ _ _ (by decide) (by decide)]; exact bn_z
  · rw [z _ _ _ (by decide) (by decide)]; rfl
  · rw [mu_1 (by decide)]
    exact rgF k hk
/-! what the constructors lay, cell by cell -/
section LAID
variable {E : mE} {V : Vs} {r p k : Nat}
theorem sv_sl (hr : r < 11) (hk : k < (kd r p).2) : SVf E r (d3 E r dS) 12 6 8 p k = sl E mu0 r p k := by
  have hm : mu0 r p k = if p = 1 then vFst k else 0 := by unfold mu0; rw [if_neg (by omega)]
  unfold kd at hk
  rw [if_pos hr] at hk
  unfold sl rf SVf
  rw [if_pos hr, hm]
  clear hm
  by_cases h0 : p = 0
  · subst h0
    have hk : k < 11 := hk
    match k, hk with
    | 0, _ => rfl
    | 1, _ => rfl
    | 2, _ => rfl
    | 3, _ => rfl
    | 4, _ => rfl
    | 5, _ => rfl
    | 6, _ => rfl
    | 7, _ => rfl
    | 8, _ => rfl
    | 9, _ => rfl
    | 10, _ => rfl
  · by_cases h1 : p = 1
    · subst h1
      rfl
    · by_cases h2 : p = 2
      · subst h2
        have hk : k < 12 := hk
        show (if k < 12 then _ else _) = _
        exact if_pos hk
      · by_cases h15 : p = 15
        · subst h15
          have hk : k < 6 := hk
          show (if k < 6 then _ else _) = _
          exact if_pos hk
        · by_cases h22 : p = 22
          · subst h22
            have hk : k < 8 := hk
            show (if k < 8 then _ else _) = _
            exact if_pos hk
          · simp only [h0, h1, h2, h15, h22, if_false]
theorem VeX_n (hr : r < 11) : ViX E V r p = SVf E r (d3 E r dS) 12 6 8 p := by
  have z : ∀ q, ¬ (r = 11 ∧ p = q) := fun q h => by omega
  refine (vs_ne _ _ (z 0)).trans ((vs_ne _ _ (z 5)).trans ((vs_ne _ _ (z 6)).trans ((vs_ne _ _ (z 5)).trans ((vs_ne _ _ (z 0)).trans ?_))))
  show HSt (VdX E V) E (updV (VdX E V 11 3) 0 (.ref (ea E 11 4))) 7 r p = _
  unfold HSt
  by_cases h : 4 ≤ r ∧ r < 4 + 7
  · rw [if_pos h]
  · rw [if_neg h, if_neg (z 3), if_neg (z 4)]
    refine (vs_ne _ _ (z 3)).trans ((vs_ne _ _ (z 0)).trans ((vs_ne _ _ (z 2)).trans ?_))
    unfold XV
    rw [if_pos (by omega)]
theorem VeX_z : ViX E V 12 p = V 12 p := by
  have z : ∀ q, ¬ (12 = 11 ∧ p = q) := fun q h => by omega
  refine (vs_ne _ _ (z 0)).trans ((vs_ne _ _ (z 5)).trans ((vs_ne _ _ (z 6)).trans ((vs_ne _ _ (z 5)).trans ((vs_ne _ _ (z 0)).trans ?_))))
  show HSt (VdX E V) E (updV (VdX E V 11 3) 0 (.ref (ea E 11 4))) 7 12 p = _
  unfold HSt
  rw [if_neg (by omega), if_neg (z 3), if_neg (z 4)]
  refine (vs_ne _ _ (z 3)).trans ((vs_ne _ _ (z 0)).trans ((vs_ne _ _ (z 2)).trans ?_))
  unfold XV
  rw [if_neg (by omega), if_neg (z 0), if_neg (z 1)]
theorem HS_n (hp3 : p ≠ 3) (hp4 : p ≠ 4) {d : Nat → Value} : HSt V E d 7 11 p = V 11 p := by
  unfold HSt
  rw [if_neg (by omega), if_neg (by omega), if_neg (by omega)]
theorem ViX_0 : ViX E V 11 0 = updV (updV (updV (DX E (V 11 0)) 3 (.ref (ea E 11 2))) 4 (.ref (ea E 11 3))) 5 (.ref (ea E 11 5)) := by
  have h1 : VcX E V 11 0 = updV (DX E (V 11 0)) 3 (.ref (ea E 11 2)) := (vs_at _ _ _ _).trans (by rw [vs_ne _ _ (by decide), XV_0 (by decide)])
  have h2 : VdX E V 11 0 = VcX E V 11 0 := vs_ne _ _ (by decide)
  have h3 : VeX E V 11 0 = VdX E V 11 0 := HS_n (by decide) (by decide)
  have h4 : VfX E V 11 0 = updV (VeX E V 11 0) 4 (.ref (ea E 11 3)) := vs_at _ _ _ _
  have h5 : VgX E V 11 0 = VfX E V 11 0 := vs_ne _ _ (by decide)
  have h6 : VhX E V 11 0 = VgX E V 11 0 := (vs_ne _ _ (by decide)).trans (vs_ne _ _ (by decide))
  have h7 : ViX E V 11 0 = updV (VhX E V 11 0) 5 (.ref (ea E 11 5)) := vs_at _ _ _ _
  rw [h7, h6, h5, h4, h3, h2, h1]
theorem ViX_f (h0 : p ≠ 0) (h5 : p ≠ 5) (h6 : p ≠ 6) : ViX E V 11 p = VeX E V 11 p :=
  (vs_ne _ _ (by omega)).trans ((vs_ne _ _ (by omega)).trans ((vs_ne _ _ (by omega)).trans ((vs_ne _ _ (by omega)).trans (vs_ne _ _ (by omega)))))
theorem ViX_1 : ViX E V 11 1 = fun i => if i < 2 then .ref (ea E (2 + i) 0) else .null := by
  refine (ViX_f (by decide) (by decide) (by decide)).trans ((HS_n (by decide) (by decide)).trans ?_)
  refine (vs_ne _ _ (by decide)).trans ((vs_ne _ _ (by decide)).trans ((vs_ne _ _ (by decide)).trans ?_))
  exact XV_1 (by decide)
theorem ViX_2 : ViX E V 11 2 = fun _ => .int 0 := by
  refine (ViX_f (by decide) (by decide) (by decide)).trans ((HS_n (by decide) (by decide)).trans ?_)
  exact (vs_ne _ _ (by decide)).trans ((vs_ne _ _ (by decide)).trans (vs_at _ _ _ _))
theorem ViX_3 : ViX E V 11 3 = updV (fun k => defaultValue (tyX0 k)) 0 (.ref (ea E 11 4)) := by
  refine (ViX_f (by decide) (by decide) (by decide)).trans ((HSt_113 (by decide)).trans ?_)
  rw [show VdX E V 11 3 = (fun k => defaultValue (tyX0 k)) from vs_at _ _ _ _]
theorem ViX_4 : ViX E V 11 4 = fun k => if k < 7 then .ref (ea E (4 + k) 0) else .null :=
  (ViX_f (by decide) (by decide) (by decide)).trans (HSt_114 (by decide))
theorem ViX_5 : ViX E V 11 5 = updV (fun k => defaultValue (tyX2 k)) 0 (.ref (ea E 11 6)) := by
  refine (vs_ne _ _ (by decide)).trans ((vs_at _ _ _ _).trans ?_)
  rw [show VgX E V 11 5 = (fun k => defaultValue (tyX2 k)) from vs_at _ _ _ _]
theorem ViX_6 : ViX E V 11 6 = fun _ => .int 0 :=
  (vs_ne _ _ (by decide)).trans ((vs_ne _ _ (by decide)).trans (vs_at _ _ _ _))
theorem x_sl (hp : p < 7) (hk : k < (kd 11 p).2) : ViX E V 11 p k = sl E mu0 11 p k := by
  match p, hp, hk with
  | 0, _, hk =>
    have hk : k < 6 := hk
    rw [ViX_0]
    match k, hk with
    | 0, _ => rfl
    | 1, _ => rfl
    | 2, _ => rfl
    | 3, _ => rfl
    | 4, _ => rfl
    | 5, _ => rfl
  | 1, _, hk =>
    have hk : k < 2 := hk
    rw [ViX_1]
    exact if_pos hk
  | 2, _, _ =>
    rw [ViX_2]
    rfl
  | 3, _, hk =>
    have hk : k < 3 := hk
    rw [ViX_3]
    match k, hk with
    | 0, _ => rfl
    | 1, _ => rfl
    | 2, _ => rfl
  | 4, _, hk =>
    have hk : k < 7 := hk
    rw [ViX_4]
    exact if_pos hk
  | 5, _, hk =>
    have hk : k < 2 := hk
    rw [ViX_5]
    match k, hk with
    | 0, _ => rfl
    | 1, _ => rfl
  | 6, _, _ =>
    rw [ViX_6]
    rfl
end LAID
def V0 : Vs := fun r p k => if r = 12 then .int (if p = 0 then vFst k else if p = 1 then vLst k else vMst k) else .null
abbrev VA (E : mE) : Vs := vs V0 11 0 (fun k => defaultValue (tyX6 k))
abbrev LA : Nat → Nat → Prop := fun r' p' => (r' = 12 ∧ p' < 3) ∨ (r' = 11 ∧ p' = 0)
theorem lx_X {r p : Nat} (h : XL LA 4 2 r p) : LiX LA r p := Or.inl (Or.inl (Or.inl (Or.inl (Or.inl h))))
theorem all_L {E : mE} (hE : nlc E = 0) {r p : Nat} (h : live E r p) : LiX LA r p := by
  rcases h with ⟨hr, hp⟩ | ⟨rfl, hp⟩ | ⟨rfl, hp⟩ | ⟨rfl, hp⟩
  · by_cases h4 : r < 4
    · exact lx_X (Or.inr (Or.inl ⟨h4, hp⟩))
    · exact Or.inl (Or.inl (Or.inr (Or.inr ⟨by omega, by omega, hp⟩)))
  · match p, hp with
    | 0, _ => exact lx_X (Or.inl (Or.inr ⟨rfl, rfl⟩))
    | 1, _ => exact lx_X (Or.inr (Or.inr ⟨rfl, by decide, by decide⟩))
    | 2, _ => exact Or.inl (Or.inl (Or.inl (Or.inl (Or.inr ⟨rfl, rfl⟩))))
    | 3, _ => exact Or.inl (Or.inl (Or.inl (Or.inr ⟨rfl, rfl⟩)))
    | 4, _ => exact Or.inl (Or.inl (Or.inr (Or.inl ⟨rfl, rfl⟩)))
    | 5, _ => exact Or.inl (Or.inr ⟨rfl, rfl⟩)
    | 6, _ => exact Or.inr ⟨rfl, rfl⟩
  · exact lx_X (Or.inl (Or.inl ⟨rfl, hp⟩))
  · rw [hE] at hp
    exact absurd hp (by omega)
theorem all_V {E : mE} (hE : nlc E = 0) {r p k : Nat} (h : live E r p) (hk : k < (kd r p).2) : ViX E (VA E) r p k = sl E mu0 r p k := by
  rcases h with ⟨hr, hp⟩ | ⟨rfl, hp⟩ | ⟨rfl, hp⟩ | ⟨rfl, hp⟩
  · rw [VeX_n hr]
    exact sv_sl hr hk
  · exact x_sl hp hk
  · rw [VeX_z, show VA E 12 p = V0 12 p from vs_ne _ _ (by omega)]
    rfl
  · rw [hE] at hp
    exact absurd hp (by omega)
section ADR
variable {B a0 a1 a2 q j : Nat}
theorem ad0 : adr B a0 a1 a2 0 q = B + 1 + q := by
  unfold adr
  repeat' split
  all_goals omega
theorem ad1 : adr B a0 a1 a2 1 q = B + 1 + 31 + q := by
  unfold adr
  repeat' split
  all_goals omega
theorem ad2 (hj : j < 2) : adr B a0 a1 a2 (2 + j) q = B + 1 + 63 + 31 * j + q := by
  unfold adr
  repeat' split
  all_goals omega
theorem adH (hj : j < 7) : adr B a0 a1 a2 (4 + j) q = B + 1 + 127 + 1 + 31 * j + q := by
  unfold adr
  repeat' split
  all_goals omega
end ADR
/-- what the Statement tells of the class's static arrays -/
theorem st_three {s : State} {args : Array Value} (h : (Jvm.Cond.and given_1 narrow_1).before args s = true) :
    ∃ (a : Nat → Nat) (cell : Nat → Cell), ((Term.static "InterruptInn" "FIRST_VALUES" "[I").eval args s none [] s = some (.ref (a 0)) ∧ (Term.static "InterruptInn" "LEAST_VALUES" "[I").eval args s none [] s = some (.ref (a 1)) ∧ (Term.static "InterruptInn" "MOST_VALUES" "[I").eval args s none [] s = some (.ref (a 2))) ∧
      ∀ p, p < 3 → s.heap[a p]? = some (cell p) ∧ s.vm.findClass "[I" = some (cell p).cls ∧ (∀ cA, (cell p).slots = (arrV cA 7 (V0 12 p)).slots) ∧ (∀ k, (cell p).vm ≠ .statics k) ∧ (cell p).vm ≠ .unknown := by
  have hs := flat_of_before _ h
  obtain ⟨a0, c0, x0, y0⟩ := st_arr (nm := "FIRST_VALUES") (f := vFst) (hs _ (by decide +kernel)) (hs _ (by decide +kernel)) (hs _ (by decide +kernel)) (fun j hj => by
    match j, hj with
    | 0, _ => exact hs _ (by decide +kernel)
    | 1, _ => exact hs _ (by decide +kernel)
    | 2, _ => exact hs _ (by decide +kernel)
    | 3, _ => exact hs _ (by decide +kernel)
    | 4, _ => exact hs _ (by decide +kernel)
    | 5, _ => exact hs _ (by decide +kernel)
    | 6, _ => exact hs _ (by decide +kernel)
    | j + 7, h => omega)
  obtain ⟨a1, c1, x1, y1⟩ := st_arr (nm := "LEAST_VALUES") (f := vLst) (hs _ (by decide +kernel)) (hs _ (by decide +kernel)) (hs _ (by decide +kernel)) (fun j hj => by
    match j, hj with
    | 0, _ => exact hs _ (by decide +kernel)
    | 1, _ => exact hs _ (by decide +kernel)
    | 2, _ => exact hs _ (by decide +kernel)
    | 3, _ => exact hs _ (by decide +kernel)
    | 4, _ => exact hs _ (by decide +kernel)
    | 5, _ => exact hs _ (by decide +kernel)
    | 6, _ => exact hs _ (by decide +kernel)
    | j + 7, h => omega)
  obtain ⟨a2, c2, x2, y2⟩ := st_arr (nm := "MOST_VALUES") (f := vMst) (hs _ (by decide +kernel)) (hs _ (by decide +kernel)) (hs _ (by decide +kernel)) (fun j hj => by
    match j, hj with
    | 0, _ => exact hs _ (by decide +kernel)
    | 1, _ => exact hs _ (by decide +kernel)
    | 2, _ => exact hs _ (by decide +kernel)
    | 3, _ => exact hs _ (by decide +kernel)
    | 4, _ => exact hs _ (by decide +kernel)
    | 5, _ => exact hs _ (by decide +kernel)
    | 6, _ => exact hs _ (by decide +kernel)
    | j + 7, h => omega)
  refine ⟨fun p => if p = 0 then a0 else if p = 1 then a1 else a2, fun p => if p = 0 then c0 else if p = 1 then c1 else c2, ⟨x0, x1, x2⟩, fun p hp => ?_⟩
  match p, hp with
  | 0, _ => exact y0
  | 1, _ => exact y1
  | 2, _ => exact y2
/-- two of them are not the same cell -/
theorem st_ne {s : State} {a b : Nat} {c d : Cell} {f g : Nat → Value} (h1 : s.heap[a]? = some c) (h2 : s.heap[b]? = some d) (h3 : c.slots = (arrV 0 7 f).slots) (h4 : d.slots = (arrV 0 7 g).slots) (hne : f 0 ≠ g 0) : a ≠ b := by
  intro e
  subst e
  have e1 : c = d := Option.some.inj (h1.symm.trans h2)
  subst e1
  have e2 := arrV_read 0 (N := 7) f (show 0 < 7 by decide)
  have e3 := arrV_read 0 (N := 7) g (show 0 < 7 by decide)
  rw [← h3] at e2
  rw [← h4] at e3
  exact hne (Option.some.inj (e2.symm.trans e3))
set_option maxHeartbeats 4000000 in
set_option maxRecDepth 100000 in
theorem st_E {s : State} {b : Nat} (hts : ∀ w ∈ lw_tbl, w.before #[Value.ref b] s = true) (hgv : (Jvm.Cond.and given_1 narrow_1).before #[Value.ref b] s = true) :
    ∃ (D : va_G) (cA : Nat → ClassId) (a0 a1 a2 : Nat), Stat (D, cA, adr s.heap.size a0 a1 a2) s ∧ PB (D, cA, adr s.heap.size a0 a1 a2) V0 (fun r p => r = 12 ∧ p < 3) s.heap ∧ ∀ q, AA (D, cA, adr s.heap.size a0 a1 a2) q → s.heap.size ≤ q := by
  obtain ⟨D, cA, hS⟩ := ex_St0 hts
  obtain ⟨a, cell, ⟨x0, x1, x2⟩, hc⟩ := st_three hgv
  have lt : ∀ p, p < 3 → a p < s.heap.size := fun p hp => (Array.getElem?_eq_some_iff.mp (hc p hp).1).1
  have h01 : a 0 ≠ a 1 := st_ne (hc 0 (by decide)).1 (hc 1 (by decide)).1 ((hc 0 (by decide)).2.2.1 0) ((hc 1 (by decide)).2.2.1 0) (by decide)
  have h02 : a 0 ≠ a 2 := st_ne (hc 0 (by decide)).1 (hc 2 (by decide)).1 ((hc 0 (by decide)).2.2.1 0) ((hc 2 (by decide)).2.2.1 0) (by decide)
  have h12 : a 1 ≠ a 2 := st_ne (hc 1 (by decide)).1 (hc 2 (by decide)).1 ((hc 1 (by decide)).2.2.1 0) ((hc 2 (by decide)).2.2.1 0) (by decide)
  have hA : ∀ q, AA (D, cA, adr s.heap.size (a 0) (a 1) (a 2)) q → s.heap.size ≤ q := by
    rintro q ⟨r, p, ⟨hl, hr⟩, rfl⟩
    have h13 : r ≤ 13 := by
      unfold live at hl
      omega
    exact adr_ge hr h13
  have hA2 : ∀ q : Nat, q < s.heap.size → ¬ AA (D, cA, adr s.heap.size (a 0) (a 1) (a 2)) q := fun q hq h => absurd (hA q h) (by omega)
  have hini := hts _ (tb_tbl cz_X6)
  refine ⟨D, cA, a 0, a 1, a 2, ⟨hS, fun r p r' p' hl hl' h => adr_inj (E := (D, cA, adr s.heap.size (a 0) (a 1) (a 2))) (lt 0 (by decide)) (lt 1 (by decide)) (lt 2 (by decide)) h01 h02 h12 rfl hl hl' h, ?_⟩, ?_, hA⟩
  · exact ⟨va_Zof (hts _ (tw 24 (by decide +kernel))) hini x0 hA2, va_Zof (hts _ (tw 264 (by decide +kernel))) hini x1 hA2, va_Zof (hts _ (tw 266 (by decide +kernel))) hini x2 hA2⟩
  · rintro r p ⟨rfl, hp⟩
    refine ⟨Or.inr (Or.inr (Or.inl ⟨rfl, hp⟩)), ?_⟩
    have hnm : s.vm.findClass "[I" = some (cA 0) := va_nm_int (hS.1.2 0 (cA 0, .int) rfl).2
    obtain ⟨y1, y2, y3, y4, y5⟩ := hc p hp
    have e1 : (cell p).cls = cA 0 := Option.some.inj (y2.symm.trans hnm)
    have e2 : adr s.heap.size (a 0) (a 1) (a 2) 12 p = a p := by
      match p, hp with
      | 0, _ => rfl
      | 1, _ => rfl
      | 2, _ => rfl
    unfold cellV
    rw [show kd 12 p = (10, 7) from rfl, if_neg (by decide)]
    unfold arA
    rw [if_pos rfl]
    refine ⟨cell p, ?_, e1, y3 _, y4, y5⟩
    show s.heap[adr s.heap.size (a 0) (a 1) (a 2) 12 p]? = _
    rw [e2]
    exact y1
