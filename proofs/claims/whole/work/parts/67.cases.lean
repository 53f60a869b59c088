/-! the law's cases: both answers are the same, and all that is invariant stays -/
abbrev LLw (E : mE) (b i : Nat) : List (Nat × Value) := [(3, .int (nI i)), (2, .ref (ea E 13 0)), (1, .ref (ea E 11 0)), (0, .ref b)]
theorem vpk {i L : Nat} (k : Nat) (hk : k < 5) (hi : i + 5 ≤ L) (hL : L ≤ 2560) : vp_in (nI i + nI k) L := by rw [nI_add]; exact vp_in_nI (by omega) (by omega)
theorem vpk0 {i L : Nat} (hi : i + 5 ≤ L) (hL : L ≤ 2560) : vp_in (nI i) L := vp_in_nI (by omega) (by omega)
theorem vpk1 {i L : Nat} (hi : i + 5 ≤ L) (hL : L ≤ 2560) : vp_in (nI i + 1) L := vpk 1 (by decide) hi hL
theorem vpk2 {i L : Nat} (hi : i + 5 ≤ L) (hL : L ≤ 2560) : vp_in (nI i + 2) L := vpk 2 (by decide) hi hL
theorem vpk3 {i L : Nat} (hi : i + 5 ≤ L) (hL : L ≤ 2560) : vp_in (nI i + 3) L := vpk 3 (by decide) hi hL
theorem vpk4 {i L : Nat} (hi : i + 5 ≤ L) (hL : L ≤ 2560) : vp_in (nI i + 4) L := vpk 4 (by decide) hi hL
theorem Wc.cg {μ μ' : Mu} (h : Wc μ) (hq : ∀ r, r ≠ 13 → μ' r = μ r) : Wc μ' := by
  obtain ⟨w1, w2, w3, w4, w5, w6, w7⟩ := h
  have e11 := hq 11 (by decide)
  have e12 := hq 12 (by decide)
  exact ⟨fun r hr => by rw [hq r (by omega)]; exact w1 r hr, by rw [e11]; exact w2, by rw [e11]; exact w3, by rw [e11]; exact w4, by rw [e11]; exact w5, by rw [e12]; exact w6, by rw [e12]; exact w7⟩
theorem Iv.cg {g : Nat} {μ μ' : Mu} {M : Sv} (h : Iv g μ M) (hq : ∀ r, r ≠ 13 → μ' r = μ r) : Iv g μ' M := by
  obtain ⟨h1, h2, h3, h4, h5, nx, u, a6, a7, a8, a9, a10, a11⟩ := h
  have e0 := hq 0 (by decide)
  have e11 := hq 11 (by decide)
  refine ⟨h1.cg hq, by rw [e0]; exact h2, by rw [e11]; exact h3, h4, fun q hq2 => ?_, nx, u, a6, a7, by rw [e11]; exact a8, by rw [e11]; exact a9, a10, fun j hj => ?_⟩
  · rw [e11, hq (2 + q) (by omega)]; exact h5 q hq2
  · rw [hq _ (by omega)]; exact a11 j hj
theorem Iv.at13 {g : Nat} {μ : Mu} {S : Sv} (h : Iv g μ S) : Iv g (fo μ 13 S) (fo μ 13 S 13) := by
  rw [fo_at]
  exact h.cg fun r hr => fo_ne _ _ hr
section LAWC
variable {p : Program} {l : Launch} {e : Env} {s : State} {m : MethodId} {below : List Frame} {meth : Method} {c : Code} {b L : Nat} {xs : Nat → Int32} {E : mE} {g i : Nat} {μ : Mu} {H : Heap} {locs : List Loc} {ls : Array Slot} {Q : State → Prop}
set_option maxHeartbeats 4000000 in
set_option maxRecDepth 100000 in
theorem law_c0 (F : CallFix p m c code 4 s #[.ref b] TB RL) (hT : Stat E s) (hX : va_X b L xs s s.heap) (hbl : b < s.heap.size) (hbA : ¬ AA E b) (hL : L ≤ 2560) (hi : i + 5 ≤ L) (hW : Wd E s H locs μ) (hI : Iv g μ (μ 13)) (hg : g + 28000 < 2 ^ 29) (hl : lv_has ls 4 (LLw E b i))
    (kk : ∀ (μ' : Mu) (H : Heap) (locs : List Loc), Iv (g + 28000) μ' (μ' 13) → Wd E s H locs μ' → W p l e room_1 s m #[.ref b] below meth c H locs 356 6383 Q (F0 m 880 ls [])) : W p l e room_1 s m #[.ref b] below meth c H locs 356 6383 Q (F0 m 152 ls []) := by
  refine lv_aload_n F.1 F.2.1 dL_law_152 rfl (lv_at hl 2 rfl) ?_
  refine lv_aload_n F.1 F.2.1 dL_law_153 rfl (lv_at hl 3 rfl) ?_
  refine lv_iload_n F.1 F.2.1 dL_law_154 rfl (lv_at hl 0 rfl) ?_
  refine lv_iconst (v := 1) F.1 F.2.1 dL_law_155 (by decide) ?_
  refine lv_iadd F.1 F.2.1 dL_law_156 ?_
  refine va_sld F.1 F.2.1 hX hbl hbA hW.2 (vpk1 hi hL) dL_law_157 ?_
  refine lv_aload_n F.1 F.2.1 dL_law_158 rfl (lv_at hl 3 rfl) ?_
  refine lv_iload_n F.1 F.2.1 dL_law_159 rfl (lv_at hl 0 rfl) ?_
  refine lv_iconst (v := 2) F.1 F.2.1 dL_law_160 (by decide) ?_
  refine lv_iadd F.1 F.2.1 dL_law_161 ?_
  refine va_sld F.1 F.2.1 hX hbl hbA hW.2 (vpk2 hi hL) dL_law_162 ?_
  refine jciG (jrunV (As := [.int (xs (nI i + 1).toNatClampNeg), .int (xs (nI i + 2).toNatClampNeg)]) (rest := []) F hT hW yc_X6_set yv_X6_set ml_L_13 oH0 (by decide) rfl (c_X6_set l E μ (xs (nI i + 1).toNatClampNeg) (xs (nI i + 2).toNatClampNeg) hI.wc) rfl hl.1 ⟨Nat.le_of_ble_eq_true rfl, Nat.le_of_ble_eq_true rfl⟩ rfl (Nat.le_of_ble_eq_true rfl) ⟨Nat.le_of_ble_eq_true rfl, Nat.le_of_ble_eq_true rfl⟩ dL_law_163) hW (fun x μ1 H locs ex eμ hW => ?_)
  have st : StR g μ (p_X6_set μ (xs (nI i + 1).toNatClampNeg) (xs (nI i + 2).toNatClampNeg)) (p_X7_set (μ 13) (xs (nI i + 1).toNatClampNeg) (xs (nI i + 2).toNatClampNeg)) := s_set hI
  have h13 : μ1 13 = μ 13 := by rw [eμ]; exact st.2.2
  have hu : Bn (μ1 13 0 3) 6 := by rw [h13]; exact hI.hu
  refine lv_aload_n F.1 F.2.1 dL_law_166 rfl (lv_at hl 1 rfl) ?_
  refine lv_aload_n F.1 F.2.1 dL_law_167 rfl (lv_at hl 3 rfl) ?_
  refine lv_iload_n F.1 F.2.1 dL_law_168 rfl (lv_at hl 0 rfl) ?_
  refine lv_iconst (v := 1) F.1 F.2.1 dL_law_169 (by decide) ?_
  refine lv_iadd F.1 F.2.1 dL_law_170 ?_
  refine va_sld F.1 F.2.1 hX hbl hbA hW.2 (vpk1 hi hL) dL_law_171 ?_
  refine lv_aload_n F.1 F.2.1 dL_law_172 rfl (lv_at hl 3 rfl) ?_
  refine lv_iload_n F.1 F.2.1 dL_law_173 rfl (lv_at hl 0 rfl) ?_
  refine lv_iconst (v := 2) F.1 F.2.1 dL_law_174 (by decide) ?_
  refine lv_iadd F.1 F.2.1 dL_law_175 ?_
  refine va_sld F.1 F.2.1 hX hbl hbA hW.2 (vpk2 hi hL) dL_law_176 ?_
  refine jcif (jrunV (As := [.int (xs (nI i + 1).toNatClampNeg), .int (xs (nI i + 2).toNatClampNeg)]) (rest := [.int x]) F hT (hW.foc 13) yc_X7_set yv_X7_set ml_L_17 oM0 (by decide) rfl (c_X7_set l E μ1 (μ1 13) (xs (nI i + 1).toNatClampNeg) (xs (nI i + 2).toNatClampNeg) hu) rfl hl.1 ⟨Nat.le_of_ble_eq_true rfl, Nat.le_of_ble_eq_true rfl⟩ rfl (Nat.le_of_ble_eq_true rfl) ⟨Nat.le_of_ble_eq_true rfl, Nat.le_of_ble_eq_true rfl⟩ dL_law_177) (hW.foc 13) (fun y S2 H locs ey eS hW => ?_)
  rw [h13] at ey eS
  have hI2 : Iv (g + 28000) μ1 S2 := by rw [eμ, eS]; exact st.2.1
  refine lv_icmp_eq (tgt := 880) F.1 F.2.1 dL_law_180 (by decide) (fun _ => kk _ H locs hI2.at13 hW) (fun hne => absurd ?_ hne)
  rw [ex, ey]
  exact st.1
set_option maxHeartbeats 4000000 in
set_option maxRecDepth 100000 in
theorem law_c1 (F : CallFix p m c code 4 s #[.ref b] TB RL) (hT : Stat E s) (hX : va_X b L xs s s.heap) (hbl : b < s.heap.size) (hbA : ¬ AA E b) (hL : L ≤ 2560) (hi : i + 5 ≤ L) (hW : Wd E s H locs μ) (hI : Iv g μ (μ 13)) (hg : g + 28000 < 2 ^ 29) (hl : lv_has ls 4 (LLw E b i))
    (kk : ∀ (μ' : Mu) (H : Heap) (locs : List Loc), Iv (g + 28000) μ' (μ' 13) → Wd E s H locs μ' → W p l e room_1 s m #[.ref b] below meth c H locs 356 6383 Q (F0 m 880 ls [])) : W p l e room_1 s m #[.ref b] below meth c H locs 356 6383 Q (F0 m 185 ls []) := by
  refine lv_aload_n F.1 F.2.1 dL_law_185 rfl (lv_at hl 2 rfl) ?_
  refine lv_aload_n F.1 F.2.1 dL_law_186 rfl (lv_at hl 3 rfl) ?_
  refine lv_iload_n F.1 F.2.1 dL_law_187 rfl (lv_at hl 0 rfl) ?_
  refine lv_iconst (v := 1) F.1 F.2.1 dL_law_188 (by decide) ?_
  refine lv_iadd F.1 F.2.1 dL_law_189 ?_
  refine va_sld F.1 F.2.1 hX hbl hbA hW.2 (vpk1 hi hL) dL_law_190 ?_
  refine lv_aload_n F.1 F.2.1 dL_law_191 rfl (lv_at hl 3 rfl) ?_
  refine lv_iload_n F.1 F.2.1 dL_law_192 rfl (lv_at hl 0 rfl) ?_
  refine lv_iconst (v := 2) F.1 F.2.1 dL_law_193 (by decide) ?_
  refine lv_iadd F.1 F.2.1 dL_law_194 ?_
  refine va_sld F.1 F.2.1 hX hbl hbA hW.2 (vpk2 hi hL) dL_law_195 ?_
  refine lv_aload_n F.1 F.2.1 dL_law_196 rfl (lv_at hl 3 rfl) ?_
  refine lv_iload_n F.1 F.2.1 dL_law_197 rfl (lv_at hl 0 rfl) ?_
  refine lv_iconst (v := 3) F.1 F.2.1 dL_law_198 (by decide) ?_
  refine lv_iadd F.1 F.2.1 dL_law_199 ?_
  refine va_sld F.1 F.2.1 hX hbl hbA hW.2 (vpk3 hi hL) dL_law_200 ?_
  refine lv_aload_n F.1 F.2.1 dL_law_201 rfl (lv_at hl 3 rfl) ?_
  refine lv_iload_n F.1 F.2.1 dL_law_202 rfl (lv_at hl 0 rfl) ?_
  refine lv_iconst (v := 4) F.1 F.2.1 dL_law_203 (by decide) ?_
  refine lv_iadd F.1 F.2.1 dL_law_204 ?_
  refine va_sld F.1 F.2.1 hX hbl hbA hW.2 (vpk4 hi hL) dL_law_205 ?_
  refine jciG (jrunV (As := [.int (xs (nI i + 1).toNatClampNeg), .int (xs (nI i + 2).toNatClampNeg), .int (xs (nI i + 3).toNatClampNeg), .int (xs (nI i + 4).toNatClampNeg)]) (rest := []) F hT hW yc_X6_line yv_X6_line ml_L_18 oH0 (by decide) rfl (c_X6_line l E μ (xs (nI i + 1).toNatClampNeg) (xs (nI i + 2).toNatClampNeg) (xs (nI i + 3).toNatClampNeg) (xs (nI i + 4).toNatClampNeg) hI.wc) rfl hl.1 ⟨Nat.le_of_ble_eq_true rfl, Nat.le_of_ble_eq_true rfl⟩ rfl (Nat.le_of_ble_eq_true rfl) ⟨Nat.le_of_ble_eq_true rfl, Nat.le_of_ble_eq_true rfl⟩ dL_law_206) hW (fun x μ1 H locs ex eμ hW => ?_)
  have st : StR g μ (p_X6_line μ (xs (nI i + 1).toNatClampNeg) (xs (nI i + 2).toNatClampNeg) (xs (nI i + 3).toNatClampNeg) (xs (nI i + 4).toNatClampNeg)) (p_X7_line (μ 13) (xs (nI i + 1).toNatClampNeg) (xs (nI i + 2).toNatClampNeg) (xs (nI i + 3).toNatClampNeg) (xs (nI i + 4).toNatClampNeg)) := s_line hI
  have h13 : μ1 13 = μ 13 := by rw [eμ]; exact st.2.2
  have wm : Wm (μ1 13) := by rw [h13]; exact hI.wm
  have hn := wm.1
  have hu : Bn (μ1 13 0 3) 6 := by rw [h13]; exact hI.hu
  refine lv_aload_n F.1 F.2.1 dL_law_209 rfl (lv_at hl 1 rfl) ?_
  refine lv_aload_n F.1 F.2.1 dL_law_210 rfl (lv_at hl 3 rfl) ?_
  refine lv_iload_n F.1 F.2.1 dL_law_211 rfl (lv_at hl 0 rfl) ?_
  refine lv_iconst (v := 1) F.1 F.2.1 dL_law_212 (by decide) ?_
  refine lv_iadd F.1 F.2.1 dL_law_213 ?_
  refine va_sld F.1 F.2.1 hX hbl hbA hW.2 (vpk1 hi hL) dL_law_214 ?_
  refine lv_aload_n F.1 F.2.1 dL_law_215 rfl (lv_at hl 3 rfl) ?_
  refine lv_iload_n F.1 F.2.1 dL_law_216 rfl (lv_at hl 0 rfl) ?_
  refine lv_iconst (v := 2) F.1 F.2.1 dL_law_217 (by decide) ?_
  refine lv_iadd F.1 F.2.1 dL_law_218 ?_
  refine va_sld F.1 F.2.1 hX hbl hbA hW.2 (vpk2 hi hL) dL_law_219 ?_
  refine lv_aload_n F.1 F.2.1 dL_law_220 rfl (lv_at hl 3 rfl) ?_
  refine lv_iload_n F.1 F.2.1 dL_law_221 rfl (lv_at hl 0 rfl) ?_
  refine lv_iconst (v := 3) F.1 F.2.1 dL_law_222 (by decide) ?_
  refine lv_iadd F.1 F.2.1 dL_law_223 ?_
  refine va_sld F.1 F.2.1 hX hbl hbA hW.2 (vpk3 hi hL) dL_law_224 ?_
  refine lv_aload_n F.1 F.2.1 dL_law_225 rfl (lv_at hl 3 rfl) ?_
  refine lv_iload_n F.1 F.2.1 dL_law_226 rfl (lv_at hl 0 rfl) ?_
  refine lv_iconst (v := 4) F.1 F.2.1 dL_law_227 (by decide) ?_
  refine lv_iadd F.1 F.2.1 dL_law_228 ?_
  refine va_sld F.1 F.2.1 hX hbl hbA hW.2 (vpk4 hi hL) dL_law_229 ?_
  refine jcif (jrunV (As := [.int (xs (nI i + 1).toNatClampNeg), .int (xs (nI i + 2).toNatClampNeg), .int (xs (nI i + 3).toNatClampNeg), .int (xs (nI i + 4).toNatClampNeg)]) (rest := [.int x]) F hT (hW.foc 13) yc_X7_line yv_X7_line ml_L_22 oM0 (by decide) rfl (c_X7_line l E μ1 (μ1 13) (xs (nI i + 1).toNatClampNeg) (xs (nI i + 2).toNatClampNeg) (xs (nI i + 3).toNatClampNeg) (xs (nI i + 4).toNatClampNeg) hu hn) rfl hl.1 ⟨Nat.le_of_ble_eq_true rfl, Nat.le_of_ble_eq_true rfl⟩ rfl (Nat.le_of_ble_eq_true rfl) ⟨Nat.le_of_ble_eq_true rfl, Nat.le_of_ble_eq_true rfl⟩ dL_law_230) (hW.foc 13) (fun y S2 H locs ey eS hW => ?_)
  rw [h13] at ey eS
  have hI2 : Iv (g + 28000) μ1 S2 := by rw [eμ, eS]; exact st.2.1
  refine lv_icmp_eq (tgt := 880) F.1 F.2.1 dL_law_233 (by decide) (fun _ => kk _ H locs hI2.at13 hW) (fun hne => absurd ?_ hne)
  rw [ex, ey]
  exact st.1
set_option maxHeartbeats 4000000 in
set_option maxRecDepth 100000 in
theorem law_c2 (F : CallFix p m c code 4 s #[.ref b] TB RL) (hT : Stat E s) (hX : va_X b L xs s s.heap) (hbl : b < s.heap.size) (hbA : ¬ AA E b) (hL : L ≤ 2560) (hi : i + 5 ≤ L) (hW : Wd E s H locs μ) (hI : Iv g μ (μ 13)) (hg : g + 28000 < 2 ^ 29) (hl : lv_has ls 4 (LLw E b i))
    (kk : ∀ (μ' : Mu) (H : Heap) (locs : List Loc), Iv (g + 28000) μ' (μ' 13) → Wd E s H locs μ' → W p l e room_1 s m #[.ref b] below meth c H locs 356 6383 Q (F0 m 880 ls [])) : W p l e room_1 s m #[.ref b] below meth c H locs 356 6383 Q (F0 m 238 ls []) := by
  refine lv_aload_n F.1 F.2.1 dL_law_238 rfl (lv_at hl 2 rfl) ?_
  refine lv_aload_n F.1 F.2.1 dL_law_239 rfl (lv_at hl 3 rfl) ?_
  refine lv_iload_n F.1 F.2.1 dL_law_240 rfl (lv_at hl 0 rfl) ?_
  refine lv_iconst (v := 1) F.1 F.2.1 dL_law_241 (by decide) ?_
  refine lv_iadd F.1 F.2.1 dL_law_242 ?_
  refine va_sld F.1 F.2.1 hX hbl hbA hW.2 (vpk1 hi hL) dL_law_243 ?_
  refine lv_aload_n F.1 F.2.1 dL_law_244 rfl (lv_at hl 3 rfl) ?_
  refine lv_iload_n F.1 F.2.1 dL_law_245 rfl (lv_at hl 0 rfl) ?_
  refine lv_iconst (v := 2) F.1 F.2.1 dL_law_246 (by decide) ?_
  refine lv_iadd F.1 F.2.1 dL_law_247 ?_
  refine va_sld F.1 F.2.1 hX hbl hbA hW.2 (vpk2 hi hL) dL_law_248 ?_
  refine lv_aload_n F.1 F.2.1 dL_law_249 rfl (lv_at hl 3 rfl) ?_
  refine lv_iload_n F.1 F.2.1 dL_law_250 rfl (lv_at hl 0 rfl) ?_
  refine lv_iconst (v := 3) F.1 F.2.1 dL_law_251 (by decide) ?_
  refine lv_iadd F.1 F.2.1 dL_law_252 ?_
  refine va_sld F.1 F.2.1 hX hbl hbA hW.2 (vpk3 hi hL) dL_law_253 ?_
  refine jciG (jrunV (As := [.int (xs (nI i + 1).toNatClampNeg), .int (xs (nI i + 2).toNatClampNeg), .int (xs (nI i + 3).toNatClampNeg)]) (rest := []) F hT hW yc_X6_timer yv_X6_timer ml_L_23 oH0 (by decide) rfl (c_X6_timer l E μ (xs (nI i + 1).toNatClampNeg) (xs (nI i + 2).toNatClampNeg) (xs (nI i + 3).toNatClampNeg) hI.wc) rfl hl.1 ⟨Nat.le_of_ble_eq_true rfl, Nat.le_of_ble_eq_true rfl⟩ rfl (Nat.le_of_ble_eq_true rfl) ⟨Nat.le_of_ble_eq_true rfl, Nat.le_of_ble_eq_true rfl⟩ dL_law_254) hW (fun x μ1 H locs ex eμ hW => ?_)
  have st : StR g μ (p_X6_timer μ (xs (nI i + 1).toNatClampNeg) (xs (nI i + 2).toNatClampNeg) (xs (nI i + 3).toNatClampNeg)) (p_X7_timer (μ 13) (xs (nI i + 1).toNatClampNeg) (xs (nI i + 2).toNatClampNeg) (xs (nI i + 3).toNatClampNeg)) := s_timer hI
  have h13 : μ1 13 = μ 13 := by rw [eμ]; exact st.2.2
  have wm : Wm (μ1 13) := by rw [h13]; exact hI.wm
  have hn := wm.1
  have ht := wm.2.1
  have hu : Bn (μ1 13 0 3) 6 := by rw [h13]; exact hI.hu
  refine lv_aload_n F.1 F.2.1 dL_law_257 rfl (lv_at hl 1 rfl) ?_
  refine lv_aload_n F.1 F.2.1 dL_law_258 rfl (lv_at hl 3 rfl) ?_
  refine lv_iload_n F.1 F.2.1 dL_law_259 rfl (lv_at hl 0 rfl) ?_
  refine lv_iconst (v := 1) F.1 F.2.1 dL_law_260 (by decide) ?_
  refine lv_iadd F.1 F.2.1 dL_law_261 ?_
  refine va_sld F.1 F.2.1 hX hbl hbA hW.2 (vpk1 hi hL) dL_law_262 ?_
  refine lv_aload_n F.1 F.2.1 dL_law_263 rfl (lv_at hl 3 rfl) ?_
  refine lv_iload_n F.1 F.2.1 dL_law_264 rfl (lv_at hl 0 rfl) ?_
  refine lv_iconst (v := 2) F.1 F.2.1 dL_law_265 (by decide) ?_
  refine lv_iadd F.1 F.2.1 dL_law_266 ?_
  refine va_sld F.1 F.2.1 hX hbl hbA hW.2 (vpk2 hi hL) dL_law_267 ?_
  refine lv_aload_n F.1 F.2.1 dL_law_268 rfl (lv_at hl 3 rfl) ?_
  refine lv_iload_n F.1 F.2.1 dL_law_269 rfl (lv_at hl 0 rfl) ?_
  refine lv_iconst (v := 3) F.1 F.2.1 dL_law_270 (by decide) ?_
  refine lv_iadd F.1 F.2.1 dL_law_271 ?_
  refine va_sld F.1 F.2.1 hX hbl hbA hW.2 (vpk3 hi hL) dL_law_272 ?_
  refine jcif (jrunV (As := [.int (xs (nI i + 1).toNatClampNeg), .int (xs (nI i + 2).toNatClampNeg), .int (xs (nI i + 3).toNatClampNeg)]) (rest := [.int x]) F hT (hW.foc 13) yc_X7_timer yv_X7_timer ml_L_27 oM0 (by decide) rfl (c_X7_timer l E μ1 (μ1 13) (xs (nI i + 1).toNatClampNeg) (xs (nI i + 2).toNatClampNeg) (xs (nI i + 3).toNatClampNeg) hu hn ht) rfl hl.1 ⟨Nat.le_of_ble_eq_true rfl, Nat.le_of_ble_eq_true rfl⟩ rfl (Nat.le_of_ble_eq_true rfl) ⟨Nat.le_of_ble_eq_true rfl, Nat.le_of_ble_eq_true rfl⟩ dL_law_273) (hW.foc 13) (fun y S2 H locs ey eS hW => ?_)
  rw [h13] at ey eS
  have hI2 : Iv (g + 28000) μ1 S2 := by rw [eμ, eS]; exact st.2.1
  refine lv_icmp_eq (tgt := 880) F.1 F.2.1 dL_law_276 (by decide) (fun _ => kk _ H locs hI2.at13 hW) (fun hne => absurd ?_ hne)
  rw [ex, ey]
  exact st.1
set_option maxHeartbeats 4000000 in
set_option maxRecDepth 100000 in
theorem law_c3 (F : CallFix p m c code 4 s #[.ref b] TB RL) (hT : Stat E s) (hX : va_X b L xs s s.heap) (hbl : b < s.heap.size) (hbA : ¬ AA E b) (hL : L ≤ 2560) (hi : i + 5 ≤ L) (hW : Wd E s H locs μ) (hI : Iv g μ (μ 13)) (hg : g + 28000 < 2 ^ 29) (hl : lv_has ls 4 (LLw E b i))
    (kk : ∀ (μ' : Mu) (H : Heap) (locs : List Loc), Iv (g + 28000) μ' (μ' 13) → Wd E s H locs μ' → W p l e room_1 s m #[.ref b] below meth c H locs 356 6383 Q (F0 m 880 ls [])) : W p l e room_1 s m #[.ref b] below meth c H locs 356 6383 Q (F0 m 281 ls []) := by
  refine lv_aload_n F.1 F.2.1 dL_law_281 rfl (lv_at hl 2 rfl) ?_
  refine lv_aload_n F.1 F.2.1 dL_law_282 rfl (lv_at hl 3 rfl) ?_
  refine lv_iload_n F.1 F.2.1 dL_law_283 rfl (lv_at hl 0 rfl) ?_
  refine lv_iconst (v := 1) F.1 F.2.1 dL_law_284 (by decide) ?_
  refine lv_iadd F.1 F.2.1 dL_law_285 ?_
  refine va_sld F.1 F.2.1 hX hbl hbA hW.2 (vpk1 hi hL) dL_law_286 ?_
  refine jciG (jrunV (As := [.int (xs (nI i + 1).toNatClampNeg)]) (rest := []) F hT hW yc_X6_stop yv_X6_stop ml_L_28 oH0 (by decide) rfl (c_X6_stop l E μ (xs (nI i + 1).toNatClampNeg) hI.wc) rfl hl.1 ⟨Nat.le_of_ble_eq_true rfl, Nat.le_of_ble_eq_true rfl⟩ rfl (Nat.le_of_ble_eq_true rfl) ⟨Nat.le_of_ble_eq_true rfl, Nat.le_of_ble_eq_true rfl⟩ dL_law_287) hW (fun x μ1 H locs ex eμ hW => ?_)
  have st : StR g μ (p_X6_stop μ (xs (nI i + 1).toNatClampNeg)) (p_X7_stop (μ 13) (xs (nI i + 1).toNatClampNeg)) := s_stop hI
  have h13 : μ1 13 = μ 13 := by rw [eμ]; exact st.2.2
  have wm : Wm (μ1 13) := by rw [h13]; exact hI.wm
  have ht := wm.2.1
  have hu : Bn (μ1 13 0 3) 6 := by rw [h13]; exact hI.hu
  refine lv_aload_n F.1 F.2.1 dL_law_290 rfl (lv_at hl 1 rfl) ?_
  refine lv_aload_n F.1 F.2.1 dL_law_291 rfl (lv_at hl 3 rfl) ?_
  refine lv_iload_n F.1 F.2.1 dL_law_292 rfl (lv_at hl 0 rfl) ?_
  refine lv_iconst (v := 1) F.1 F.2.1 dL_law_293 (by decide) ?_
  refine lv_iadd F.1 F.2.1 dL_law_294 ?_
  refine va_sld F.1 F.2.1 hX hbl hbA hW.2 (vpk1 hi hL) dL_law_295 ?_
  refine jcif (jrunV (As := [.int (xs (nI i + 1).toNatClampNeg)]) (rest := [.int x]) F hT (hW.foc 13) yc_X7_stop yv_X7_stop ml_L_32 oM0 (by decide) rfl (c_X7_stop l E μ1 (μ1 13) (xs (nI i + 1).toNatClampNeg) hu ht) rfl hl.1 ⟨Nat.le_of_ble_eq_true rfl, Nat.le_of_ble_eq_true rfl⟩ rfl (Nat.le_of_ble_eq_true rfl) ⟨Nat.le_of_ble_eq_true rfl, Nat.le_of_ble_eq_true rfl⟩ dL_law_296) (hW.foc 13) (fun y S2 H locs ey eS hW => ?_)
  rw [h13] at ey eS
  have hI2 : Iv (g + 28000) μ1 S2 := by rw [eμ, eS]; exact st.2.1
  refine lv_icmp_eq (tgt := 880) F.1 F.2.1 dL_law_299 (by decide) (fun _ => kk _ H locs hI2.at13 hW) (fun hne => absurd ?_ hne)
  rw [ex, ey]
  exact st.1
set_option maxHeartbeats 4000000 in
set_option maxRecDepth 100000 in
theorem law_c4 (F : CallFix p m c code 4 s #[.ref b] TB RL) (hT : Stat E s) (hX : va_X b L xs s s.heap) (hbl : b < s.heap.size) (hbA : ¬ AA E b) (hL : L ≤ 2560) (hi : i + 5 ≤ L) (hW : Wd E s H locs μ) (hI : Iv g μ (μ 13)) (hg : g + 28000 < 2 ^ 29) (hl : lv_has ls 4 (LLw E b i))
    (kk : ∀ (μ' : Mu) (H : Heap) (locs : List Loc), Iv (g + 28000) μ' (μ' 13) → Wd E s H locs μ' → W p l e room_1 s m #[.ref b] below meth c H locs 356 6383 Q (F0 m 880 ls [])) : W p l e room_1 s m #[.ref b] below meth c H locs 356 6383 Q (F0 m 304 ls []) := by
  refine lv_aload_n F.1 F.2.1 dL_law_304 rfl (lv_at hl 2 rfl) ?_
  refine lv_aload_n F.1 F.2.1 dL_law_305 rfl (lv_at hl 3 rfl) ?_
  refine lv_iload_n F.1 F.2.1 dL_law_306 rfl (lv_at hl 0 rfl) ?_
  refine lv_iconst (v := 1) F.1 F.2.1 dL_law_307 (by decide) ?_
  refine lv_iadd F.1 F.2.1 dL_law_308 ?_
  refine va_sld F.1 F.2.1 hX hbl hbA hW.2 (vpk1 hi hL) dL_law_309 ?_
  refine jciG (jrunV (As := [.int (xs (nI i + 1).toNatClampNeg)]) (rest := []) F hT hW yc_X6_raise yv_X6_raise ml_L_33 oH0 (by decide) rfl (c_X6_raise l E μ (xs (nI i + 1).toNatClampNeg) hI.wc) rfl hl.1 ⟨Nat.le_of_ble_eq_true rfl, Nat.le_of_ble_eq_true rfl⟩ rfl (Nat.le_of_ble_eq_true rfl) ⟨Nat.le_of_ble_eq_true rfl, Nat.le_of_ble_eq_true rfl⟩ dL_law_310) hW (fun x μ1 H locs ex eμ hW => ?_)
  have st : StR g μ (p_X6_raise μ (xs (nI i + 1).toNatClampNeg)) (p_X7_raise (μ 13) (xs (nI i + 1).toNatClampNeg)) := s_raise hI
  have h13 : μ1 13 = μ 13 := by rw [eμ]; exact st.2.2
  have wm : Wm (μ1 13) := by rw [h13]; exact hI.wm
  have hn := wm.1
  have hu : Bn (μ1 13 0 3) 6 := by rw [h13]; exact hI.hu
  refine lv_aload_n F.1 F.2.1 dL_law_313 rfl (lv_at hl 1 rfl) ?_
  refine lv_aload_n F.1 F.2.1 dL_law_314 rfl (lv_at hl 3 rfl) ?_
  refine lv_iload_n F.1 F.2.1 dL_law_315 rfl (lv_at hl 0 rfl) ?_
  refine lv_iconst (v := 1) F.1 F.2.1 dL_law_316 (by decide) ?_
  refine lv_iadd F.1 F.2.1 dL_law_317 ?_
  refine va_sld F.1 F.2.1 hX hbl hbA hW.2 (vpk1 hi hL) dL_law_318 ?_
  refine jcif (jrunV (As := [.int (xs (nI i + 1).toNatClampNeg)]) (rest := [.int x]) F hT (hW.foc 13) yc_X7_raise yv_X7_raise ml_L_36 oM0 (by decide) rfl (c_X7_raise l E μ1 (μ1 13) (xs (nI i + 1).toNatClampNeg) hu hn) rfl hl.1 ⟨Nat.le_of_ble_eq_true rfl, Nat.le_of_ble_eq_true rfl⟩ rfl (Nat.le_of_ble_eq_true rfl) ⟨Nat.le_of_ble_eq_true rfl, Nat.le_of_ble_eq_true rfl⟩ dL_law_319) (hW.foc 13) (fun y S2 H locs ey eS hW => ?_)
  rw [h13] at ey eS
  have hI2 : Iv (g + 28000) μ1 S2 := by rw [eμ, eS]; exact st.2.1
  refine lv_icmp_eq (tgt := 880) F.1 F.2.1 dL_law_322 (by decide) (fun _ => kk _ H locs hI2.at13 hW) (fun hne => absurd ?_ hne)
  rw [ex, ey]
  exact st.1
set_option maxHeartbeats 4000000 in
set_option maxRecDepth 100000 in
theorem law_c5 (F : CallFix p m c code 4 s #[.ref b] TB RL) (hT : Stat E s) (hX : va_X b L xs s s.heap) (hbl : b < s.heap.size) (hbA : ¬ AA E b) (hL : L ≤ 2560) (hi : i + 5 ≤ L) (hW : Wd E s H locs μ) (hI : Iv g μ (μ 13)) (hg : g + 28000 < 2 ^ 29) (hl : lv_has ls 4 (LLw E b i))
    (kk : ∀ (μ' : Mu) (H : Heap) (locs : List Loc), Iv (g + 28000) μ' (μ' 13) → Wd E s H locs μ' → W p l e room_1 s m #[.ref b] below meth c H locs 356 6383 Q (F0 m 880 ls [])) : W p l e room_1 s m #[.ref b] below meth c H locs 356 6383 Q (F0 m 327 ls []) := by
  refine lv_aload_n F.1 F.2.1 dL_law_327 rfl (lv_at hl 2 rfl) ?_
  refine lv_aload_n F.1 F.2.1 dL_law_328 rfl (lv_at hl 3 rfl) ?_
  refine lv_iload_n F.1 F.2.1 dL_law_329 rfl (lv_at hl 0 rfl) ?_
  refine lv_iconst (v := 1) F.1 F.2.1 dL_law_330 (by decide) ?_
  refine lv_iadd F.1 F.2.1 dL_law_331 ?_
  refine va_sld F.1 F.2.1 hX hbl hbA hW.2 (vpk1 hi hL) dL_law_332 ?_
  refine lv_aload_n F.1 F.2.1 dL_law_333 rfl (lv_at hl 3 rfl) ?_
  refine lv_iload_n F.1 F.2.1 dL_law_334 rfl (lv_at hl 0 rfl) ?_
  refine lv_iconst (v := 2) F.1 F.2.1 dL_law_335 (by decide) ?_
  refine lv_iadd F.1 F.2.1 dL_law_336 ?_
  refine va_sld F.1 F.2.1 hX hbl hbA hW.2 (vpk2 hi hL) dL_law_337 ?_
  refine lv_aload_n F.1 F.2.1 dL_law_338 rfl (lv_at hl 3 rfl) ?_
  refine lv_iload_n F.1 F.2.1 dL_law_339 rfl (lv_at hl 0 rfl) ?_
  refine lv_iconst (v := 3) F.1 F.2.1 dL_law_340 (by decide) ?_
  refine lv_iadd F.1 F.2.1 dL_law_341 ?_
  refine va_sld F.1 F.2.1 hX hbl hbA hW.2 (vpk3 hi hL) dL_law_342 ?_
  refine jciG (jrunV (As := [.int (xs (nI i + 1).toNatClampNeg), .int (xs (nI i + 2).toNatClampNeg), .int (xs (nI i + 3).toNatClampNeg)]) (rest := []) F hT hW yc_X6_hold yv_X6_hold ml_L_37 oH0 (by decide) rfl (c_X6_hold l E μ (xs (nI i + 1).toNatClampNeg) (xs (nI i + 2).toNatClampNeg) (xs (nI i + 3).toNatClampNeg) hI.wc) rfl hl.1 ⟨Nat.le_of_ble_eq_true rfl, Nat.le_of_ble_eq_true rfl⟩ rfl (Nat.le_of_ble_eq_true rfl) ⟨Nat.le_of_ble_eq_true rfl, Nat.le_of_ble_eq_true rfl⟩ dL_law_343) hW (fun x μ1 H locs ex eμ hW => ?_)
  have st : StR g μ (p_X6_hold μ (xs (nI i + 1).toNatClampNeg) (xs (nI i + 2).toNatClampNeg) (xs (nI i + 3).toNatClampNeg)) (p_X7_hold (μ 13) (xs (nI i + 1).toNatClampNeg) (xs (nI i + 2).toNatClampNeg) (xs (nI i + 3).toNatClampNeg)) := s_hold hI
  have h13 : μ1 13 = μ 13 := by rw [eμ]; exact st.2.2
  have wm : Wm (μ1 13) := by rw [h13]; exact hI.wm
  have hn := wm.1
  have hd := wm.2.2.2.1.1
  have hu : Bn (μ1 13 0 3) 6 := by rw [h13]; exact hI.hu
  refine lv_aload_n F.1 F.2.1 dL_law_346 rfl (lv_at hl 1 rfl) ?_
  refine lv_aload_n F.1 F.2.1 dL_law_347 rfl (lv_at hl 3 rfl) ?_
  refine lv_iload_n F.1 F.2.1 dL_law_348 rfl (lv_at hl 0 rfl) ?_
  refine lv_iconst (v := 1) F.1 F.2.1 dL_law_349 (by decide) ?_
  refine lv_iadd F.1 F.2.1 dL_law_350 ?_
  refine va_sld F.1 F.2.1 hX hbl hbA hW.2 (vpk1 hi hL) dL_law_351 ?_
  refine lv_aload_n F.1 F.2.1 dL_law_352 rfl (lv_at hl 3 rfl) ?_
  refine lv_iload_n F.1 F.2.1 dL_law_353 rfl (lv_at hl 0 rfl) ?_
  refine lv_iconst (v := 2) F.1 F.2.1 dL_law_354 (by decide) ?_
  refine lv_iadd F.1 F.2.1 dL_law_355 ?_
  refine va_sld F.1 F.2.1 hX hbl hbA hW.2 (vpk2 hi hL) dL_law_356 ?_
  refine lv_aload_n F.1 F.2.1 dL_law_357 rfl (lv_at hl 3 rfl) ?_
  refine lv_iload_n F.1 F.2.1 dL_law_358 rfl (lv_at hl 0 rfl) ?_
  refine lv_iconst (v := 3) F.1 F.2.1 dL_law_359 (by decide) ?_
  refine lv_iadd F.1 F.2.1 dL_law_360 ?_
  refine va_sld F.1 F.2.1 hX hbl hbA hW.2 (vpk3 hi hL) dL_law_361 ?_
  refine jcif (jrunV (As := [.int (xs (nI i + 1).toNatClampNeg), .int (xs (nI i + 2).toNatClampNeg), .int (xs (nI i + 3).toNatClampNeg)]) (rest := [.int x]) F hT (hW.foc 13) yc_X7_hold yv_X7_hold ml_L_40 oM0 (by decide) rfl (c_X7_hold l E μ1 (μ1 13) (xs (nI i + 1).toNatClampNeg) (xs (nI i + 2).toNatClampNeg) (xs (nI i + 3).toNatClampNeg) hu hn hd) rfl hl.1 ⟨Nat.le_of_ble_eq_true rfl, Nat.le_of_ble_eq_true rfl⟩ rfl (Nat.le_of_ble_eq_true rfl) ⟨Nat.le_of_ble_eq_true rfl, Nat.le_of_ble_eq_true rfl⟩ dL_law_362) (hW.foc 13) (fun y S2 H locs ey eS hW => ?_)
  rw [h13] at ey eS
  have hI2 : Iv (g + 28000) μ1 S2 := by rw [eμ, eS]; exact st.2.1
  refine lv_icmp_eq (tgt := 880) F.1 F.2.1 dL_law_365 (by decide) (fun _ => kk _ H locs hI2.at13 hW) (fun hne => absurd ?_ hne)
  rw [ex, ey]
  exact st.1
set_option maxHeartbeats 4000000 in
set_option maxRecDepth 100000 in
theorem law_c6 (F : CallFix p m c code 4 s #[.ref b] TB RL) (hT : Stat E s) (hX : va_X b L xs s s.heap) (hbl : b < s.heap.size) (hbA : ¬ AA E b) (hL : L ≤ 2560) (hi : i + 5 ≤ L) (hW : Wd E s H locs μ) (hI : Iv g μ (μ 13)) (hg : g + 28000 < 2 ^ 29) (hl : lv_has ls 4 (LLw E b i))
    (kk : ∀ (μ' : Mu) (H : Heap) (locs : List Loc), Iv (g + 28000) μ' (μ' 13) → Wd E s H locs μ' → W p l e room_1 s m #[.ref b] below meth c H locs 356 6383 Q (F0 m 880 ls [])) : W p l e room_1 s m #[.ref b] below meth c H locs 356 6383 Q (F0 m 370 ls []) := by
  refine lv_aload_n F.1 F.2.1 dL_law_370 rfl (lv_at hl 2 rfl) ?_
  refine lv_aload_n F.1 F.2.1 dL_law_371 rfl (lv_at hl 3 rfl) ?_
  refine lv_iload_n F.1 F.2.1 dL_law_372 rfl (lv_at hl 0 rfl) ?_
  refine lv_iconst (v := 1) F.1 F.2.1 dL_law_373 (by decide) ?_
  refine lv_iadd F.1 F.2.1 dL_law_374 ?_
  refine va_sld F.1 F.2.1 hX hbl hbA hW.2 (vpk1 hi hL) dL_law_375 ?_
  refine lv_aload_n F.1 F.2.1 dL_law_376 rfl (lv_at hl 3 rfl) ?_
  refine lv_iload_n F.1 F.2.1 dL_law_377 rfl (lv_at hl 0 rfl) ?_
  refine lv_iconst (v := 2) F.1 F.2.1 dL_law_378 (by decide) ?_
  refine lv_iadd F.1 F.2.1 dL_law_379 ?_
  refine va_sld F.1 F.2.1 hX hbl hbA hW.2 (vpk2 hi hL) dL_law_380 ?_
  refine jciG (jrunV (As := [.int (xs (nI i + 1).toNatClampNeg), .int (xs (nI i + 2).toNatClampNeg)]) (rest := []) F hT hW yc_X6_mask yv_X6_mask ml_L_41 oH0 (by decide) rfl (c_X6_mask l E μ (xs (nI i + 1).toNatClampNeg) (xs (nI i + 2).toNatClampNeg) hI.wc) rfl hl.1 ⟨Nat.le_of_ble_eq_true rfl, Nat.le_of_ble_eq_true rfl⟩ rfl (Nat.le_of_ble_eq_true rfl) ⟨Nat.le_of_ble_eq_true rfl, Nat.le_of_ble_eq_true rfl⟩ dL_law_381) hW (fun x μ1 H locs ex eμ hW => ?_)
  have st : StR g μ (p_X6_mask μ (xs (nI i + 1).toNatClampNeg) (xs (nI i + 2).toNatClampNeg)) (p_X7_mask (μ 13) (xs (nI i + 1).toNatClampNeg) (xs (nI i + 2).toNatClampNeg)) := s_mask hI
  have h13 : μ1 13 = μ 13 := by rw [eμ]; exact st.2.2
  have wm : Wm (μ1 13) := by rw [h13]; exact hI.wm
  have hn := wm.1
  have hu : Bn (μ1 13 0 3) 6 := by rw [h13]; exact hI.hu
  refine lv_aload_n F.1 F.2.1 dL_law_384 rfl (lv_at hl 1 rfl) ?_
  refine lv_aload_n F.1 F.2.1 dL_law_385 rfl (lv_at hl 3 rfl) ?_
  refine lv_iload_n F.1 F.2.1 dL_law_386 rfl (lv_at hl 0 rfl) ?_
  refine lv_iconst (v := 1) F.1 F.2.1 dL_law_387 (by decide) ?_
  refine lv_iadd F.1 F.2.1 dL_law_388 ?_
  refine va_sld F.1 F.2.1 hX hbl hbA hW.2 (vpk1 hi hL) dL_law_389 ?_
  refine lv_aload_n F.1 F.2.1 dL_law_390 rfl (lv_at hl 3 rfl) ?_
  refine lv_iload_n F.1 F.2.1 dL_law_391 rfl (lv_at hl 0 rfl) ?_
  refine lv_iconst (v := 2) F.1 F.2.1 dL_law_392 (by decide) ?_
  refine lv_iadd F.1 F.2.1 dL_law_393 ?_
  refine va_sld F.1 F.2.1 hX hbl hbA hW.2 (vpk2 hi hL) dL_law_394 ?_
  refine jcif (jrunV (As := [.int (xs (nI i + 1).toNatClampNeg), .int (xs (nI i + 2).toNatClampNeg)]) (rest := [.int x]) F hT (hW.foc 13) yc_X7_mask yv_X7_mask ml_L_44 oM0 (by decide) rfl (c_X7_mask l E μ1 (μ1 13) (xs (nI i + 1).toNatClampNeg) (xs (nI i + 2).toNatClampNeg) hu hn) rfl hl.1 ⟨Nat.le_of_ble_eq_true rfl, Nat.le_of_ble_eq_true rfl⟩ rfl (Nat.le_of_ble_eq_true rfl) ⟨Nat.le_of_ble_eq_true rfl, Nat.le_of_ble_eq_true rfl⟩ dL_law_395) (hW.foc 13) (fun y S2 H locs ey eS hW => ?_)
  rw [h13] at ey eS
  have hI2 : Iv (g + 28000) μ1 S2 := by rw [eμ, eS]; exact st.2.1
  refine lv_icmp_eq (tgt := 880) F.1 F.2.1 dL_law_398 (by decide) (fun _ => kk _ H locs hI2.at13 hW) (fun hne => absurd ?_ hne)
  rw [ex, ey]
  exact st.1
set_option maxHeartbeats 4000000 in
set_option maxRecDepth 100000 in
theorem law_c7 (F : CallFix p m c code 4 s #[.ref b] TB RL) (hT : Stat E s) (hX : va_X b L xs s s.heap) (hbl : b < s.heap.size) (hbA : ¬ AA E b) (hL : L ≤ 2560) (hi : i + 5 ≤ L) (hW : Wd E s H locs μ) (hI : Iv g μ (μ 13)) (hg : g + 28000 < 2 ^ 29) (hl : lv_has ls 4 (LLw E b i))
    (kk : ∀ (μ' : Mu) (H : Heap) (locs : List Loc), Iv (g + 28000) μ' (μ' 13) → Wd E s H locs μ' → W p l e room_1 s m #[.ref b] below meth c H locs 356 6383 Q (F0 m 880 ls [])) : W p l e room_1 s m #[.ref b] below meth c H locs 356 6383 Q (F0 m 403 ls []) := by
  refine lv_aload_n F.1 F.2.1 dL_law_403 rfl (lv_at hl 2 rfl) ?_
  refine lv_aload_n F.1 F.2.1 dL_law_404 rfl (lv_at hl 3 rfl) ?_
  refine lv_iload_n F.1 F.2.1 dL_law_405 rfl (lv_at hl 0 rfl) ?_
  refine lv_iconst (v := 1) F.1 F.2.1 dL_law_406 (by decide) ?_
  refine lv_iadd F.1 F.2.1 dL_law_407 ?_
  refine va_sld F.1 F.2.1 hX hbl hbA hW.2 (vpk1 hi hL) dL_law_408 ?_
  refine lv_aload_n F.1 F.2.1 dL_law_409 rfl (lv_at hl 3 rfl) ?_
  refine lv_iload_n F.1 F.2.1 dL_law_410 rfl (lv_at hl 0 rfl) ?_
  refine lv_iconst (v := 2) F.1 F.2.1 dL_law_411 (by decide) ?_
  refine lv_iadd F.1 F.2.1 dL_law_412 ?_
  refine va_sld F.1 F.2.1 hX hbl hbA hW.2 (vpk2 hi hL) dL_law_413 ?_
  refine lv_aload_n F.1 F.2.1 dL_law_414 rfl (lv_at hl 3 rfl) ?_
  refine lv_iload_n F.1 F.2.1 dL_law_415 rfl (lv_at hl 0 rfl) ?_
  refine lv_iconst (v := 3) F.1 F.2.1 dL_law_416 (by decide) ?_
  refine lv_iadd F.1 F.2.1 dL_law_417 ?_
  refine va_sld F.1 F.2.1 hX hbl hbA hW.2 (vpk3 hi hL) dL_law_418 ?_
  refine lv_aload_n F.1 F.2.1 dL_law_419 rfl (lv_at hl 3 rfl) ?_
  refine lv_iload_n F.1 F.2.1 dL_law_420 rfl (lv_at hl 0 rfl) ?_
  refine lv_iconst (v := 4) F.1 F.2.1 dL_law_421 (by decide) ?_
  refine lv_iadd F.1 F.2.1 dL_law_422 ?_
  refine va_sld F.1 F.2.1 hX hbl hbA hW.2 (vpk4 hi hL) dL_law_423 ?_
  refine jciG (jrunV (As := [.int (xs (nI i + 1).toNatClampNeg), .int (xs (nI i + 2).toNatClampNeg), .int (xs (nI i + 3).toNatClampNeg), .int (xs (nI i + 4).toNatClampNeg)]) (rest := []) F hT hW yc_X6_change yv_X6_change ml_L_45 oH0 (by decide) rfl (c_X6_change l E μ (xs (nI i + 1).toNatClampNeg) (xs (nI i + 2).toNatClampNeg) (xs (nI i + 3).toNatClampNeg) (xs (nI i + 4).toNatClampNeg) hI.wc) rfl hl.1 ⟨Nat.le_of_ble_eq_true rfl, Nat.le_of_ble_eq_true rfl⟩ rfl (Nat.le_of_ble_eq_true rfl) ⟨Nat.le_of_ble_eq_true rfl, Nat.le_of_ble_eq_true rfl⟩ dL_law_424) hW (fun x μ1 H locs ex eμ hW => ?_)
  have st : StR g μ (p_X6_change μ (xs (nI i + 1).toNatClampNeg) (xs (nI i + 2).toNatClampNeg) (xs (nI i + 3).toNatClampNeg) (xs (nI i + 4).toNatClampNeg)) (p_X7_change (μ 13) (xs (nI i + 1).toNatClampNeg) (xs (nI i + 2).toNatClampNeg) (xs (nI i + 3).toNatClampNeg) (xs (nI i + 4).toNatClampNeg)) := s_change hI
  have h13 : μ1 13 = μ 13 := by rw [eμ]; exact st.2.2
  have wm : Wm (μ1 13) := by rw [h13]; exact hI.wm
  have hn := wm.1
  have hu : Bn (μ1 13 0 3) 6 := by rw [h13]; exact hI.hu
  refine lv_aload_n F.1 F.2.1 dL_law_427 rfl (lv_at hl 1 rfl) ?_
  refine lv_aload_n F.1 F.2.1 dL_law_428 rfl (lv_at hl 3 rfl) ?_
  refine lv_iload_n F.1 F.2.1 dL_law_429 rfl (lv_at hl 0 rfl) ?_
  refine lv_iconst (v := 1) F.1 F.2.1 dL_law_430 (by decide) ?_
  refine lv_iadd F.1 F.2.1 dL_law_431 ?_
  refine va_sld F.1 F.2.1 hX hbl hbA hW.2 (vpk1 hi hL) dL_law_432 ?_
  refine lv_aload_n F.1 F.2.1 dL_law_433 rfl (lv_at hl 3 rfl) ?_
  refine lv_iload_n F.1 F.2.1 dL_law_434 rfl (lv_at hl 0 rfl) ?_
  refine lv_iconst (v := 2) F.1 F.2.1 dL_law_435 (by decide) ?_
  refine lv_iadd F.1 F.2.1 dL_law_436 ?_
  refine va_sld F.1 F.2.1 hX hbl hbA hW.2 (vpk2 hi hL) dL_law_437 ?_
  refine lv_aload_n F.1 F.2.1 dL_law_438 rfl (lv_at hl 3 rfl) ?_
  refine lv_iload_n F.1 F.2.1 dL_law_439 rfl (lv_at hl 0 rfl) ?_
  refine lv_iconst (v := 3) F.1 F.2.1 dL_law_440 (by decide) ?_
  refine lv_iadd F.1 F.2.1 dL_law_441 ?_
  refine va_sld F.1 F.2.1 hX hbl hbA hW.2 (vpk3 hi hL) dL_law_442 ?_
  refine lv_aload_n F.1 F.2.1 dL_law_443 rfl (lv_at hl 3 rfl) ?_
  refine lv_iload_n F.1 F.2.1 dL_law_444 rfl (lv_at hl 0 rfl) ?_
  refine lv_iconst (v := 4) F.1 F.2.1 dL_law_445 (by decide) ?_
  refine lv_iadd F.1 F.2.1 dL_law_446 ?_
  refine va_sld F.1 F.2.1 hX hbl hbA hW.2 (vpk4 hi hL) dL_law_447 ?_
  refine jcif (jrunV (As := [.int (xs (nI i + 1).toNatClampNeg), .int (xs (nI i + 2).toNatClampNeg), .int (xs (nI i + 3).toNatClampNeg), .int (xs (nI i + 4).toNatClampNeg)]) (rest := [.int x]) F hT (hW.foc 13) yc_X7_change yv_X7_change ml_L_48 oM0 (by decide) rfl (c_X7_change l E μ1 (μ1 13) (xs (nI i + 1).toNatClampNeg) (xs (nI i + 2).toNatClampNeg) (xs (nI i + 3).toNatClampNeg) (xs (nI i + 4).toNatClampNeg) hu hn) rfl hl.1 ⟨Nat.le_of_ble_eq_true rfl, Nat.le_of_ble_eq_true rfl⟩ rfl (Nat.le_of_ble_eq_true rfl) ⟨Nat.le_of_ble_eq_true rfl, Nat.le_of_ble_eq_true rfl⟩ dL_law_448) (hW.foc 13) (fun y S2 H locs ey eS hW => ?_)
  rw [h13] at ey eS
  have hI2 : Iv (g + 28000) μ1 S2 := by rw [eμ, eS]; exact st.2.1
  refine lv_icmp_eq (tgt := 880) F.1 F.2.1 dL_law_451 (by decide) (fun _ => kk _ H locs hI2.at13 hW) (fun hne => absurd ?_ hne)
  rw [ex, ey]
  exact st.1
set_option maxHeartbeats 4000000 in
set_option maxRecDepth 100000 in
theorem law_c8 (F : CallFix p m c code 4 s #[.ref b] TB RL) (hT : Stat E s) (hX : va_X b L xs s s.heap) (hbl : b < s.heap.size) (hbA : ¬ AA E b) (hL : L ≤ 2560) (hi : i + 5 ≤ L) (hW : Wd E s H locs μ) (hI : Iv g μ (μ 13)) (hg : g + 28000 < 2 ^ 29) (hl : lv_has ls 4 (LLw E b i))
    (kk : ∀ (μ' : Mu) (H : Heap) (locs : List Loc), Iv (g + 28000) μ' (μ' 13) → Wd E s H locs μ' → W p l e room_1 s m #[.ref b] below meth c H locs 356 6383 Q (F0 m 880 ls [])) : W p l e room_1 s m #[.ref b] below meth c H locs 356 6383 Q (F0 m 456 ls []) := by
  refine lv_aload_n F.1 F.2.1 dL_law_456 rfl (lv_at hl 2 rfl) ?_
  refine lv_aload_n F.1 F.2.1 dL_law_457 rfl (lv_at hl 3 rfl) ?_
  refine lv_iload_n F.1 F.2.1 dL_law_458 rfl (lv_at hl 0 rfl) ?_
  refine lv_iconst (v := 1) F.1 F.2.1 dL_law_459 (by decide) ?_
  refine lv_iadd F.1 F.2.1 dL_law_460 ?_
  refine va_sld F.1 F.2.1 hX hbl hbA hW.2 (vpk1 hi hL) dL_law_461 ?_
  refine jciG (jrunV (As := [.int (xs (nI i + 1).toNatClampNeg)]) (rest := []) F hT hW yc_X6_ticks yv_X6_ticks ml_L_49 oH0 (by decide) rfl (c_X6_ticks l E μ (xs (nI i + 1).toNatClampNeg) hI.wc) rfl hl.1 ⟨Nat.le_of_ble_eq_true rfl, Nat.le_of_ble_eq_true rfl⟩ rfl (Nat.le_of_ble_eq_true rfl) ⟨Nat.le_of_ble_eq_true rfl, Nat.le_of_ble_eq_true rfl⟩ dL_law_462) hW (fun x μ1 H locs ex eμ hW => ?_)
  have st : StR g μ (p_X6_ticks μ (xs (nI i + 1).toNatClampNeg)) (p_X7_ticks (μ 13) (xs (nI i + 1).toNatClampNeg)) := s_ticks hI hg
  have h13 : μ1 13 = μ 13 := by rw [eμ]; exact st.2.2
  have wm : Wm (μ1 13) := by rw [h13]; exact hI.wm
  have hu : Bn (μ1 13 0 3) 6 := by rw [h13]; exact hI.hu
  refine lv_aload_n F.1 F.2.1 dL_law_465 rfl (lv_at hl 1 rfl) ?_
  refine lv_aload_n F.1 F.2.1 dL_law_466 rfl (lv_at hl 3 rfl) ?_
  refine lv_iload_n F.1 F.2.1 dL_law_467 rfl (lv_at hl 0 rfl) ?_
  refine lv_iconst (v := 1) F.1 F.2.1 dL_law_468 (by decide) ?_
  refine lv_iadd F.1 F.2.1 dL_law_469 ?_
  refine va_sld F.1 F.2.1 hX hbl hbA hW.2 (vpk1 hi hL) dL_law_470 ?_
  refine jcif (jrunV (As := [.int (xs (nI i + 1).toNatClampNeg)]) (rest := [.int x]) F hT (hW.foc 13) yc_X7_ticks yv_X7_ticks ml_L_52 oM0 (by decide) rfl (c_X7_ticks l E μ1 (μ1 13) (xs (nI i + 1).toNatClampNeg) hu wm) rfl hl.1 ⟨Nat.le_of_ble_eq_true rfl, Nat.le_of_ble_eq_true rfl⟩ rfl (Nat.le_of_ble_eq_true rfl) ⟨Nat.le_of_ble_eq_true rfl, Nat.le_of_ble_eq_true rfl⟩ dL_law_471) (hW.foc 13) (fun y S2 H locs ey eS hW => ?_)
  rw [h13] at ey eS
  have hI2 : Iv (g + 28000) μ1 S2 := by rw [eμ, eS]; exact st.2.1
  refine lv_icmp_eq (tgt := 880) F.1 F.2.1 dL_law_474 (by decide) (fun _ => kk _ H locs hI2.at13 hW) (fun hne => absurd ?_ hne)
  rw [ex, ey]
  exact st.1
set_option maxHeartbeats 4000000 in
set_option maxRecDepth 100000 in
theorem law_c9 (F : CallFix p m c code 4 s #[.ref b] TB RL) (hT : Stat E s) (hX : va_X b L xs s s.heap) (hbl : b < s.heap.size) (hbA : ¬ AA E b) (hL : L ≤ 2560) (hi : i + 5 ≤ L) (hW : Wd E s H locs μ) (hI : Iv g μ (μ 13)) (hg : g + 28000 < 2 ^ 29) (hl : lv_has ls 4 (LLw E b i))
    (kk : ∀ (μ' : Mu) (H : Heap) (locs : List Loc), Iv (g + 28000) μ' (μ' 13) → Wd E s H locs μ' → W p l e room_1 s m #[.ref b] below meth c H locs 356 6383 Q (F0 m 880 ls [])) : W p l e room_1 s m #[.ref b] below meth c H locs 356 6383 Q (F0 m 479 ls []) := by
  refine lv_aload_n F.1 F.2.1 dL_law_479 rfl (lv_at hl 2 rfl) ?_
  refine lv_aload_n F.1 F.2.1 dL_law_480 rfl (lv_at hl 3 rfl) ?_
  refine lv_iload_n F.1 F.2.1 dL_law_481 rfl (lv_at hl 0 rfl) ?_
  refine lv_iconst (v := 1) F.1 F.2.1 dL_law_482 (by decide) ?_
  refine lv_iadd F.1 F.2.1 dL_law_483 ?_
  refine va_sld F.1 F.2.1 hX hbl hbA hW.2 (vpk1 hi hL) dL_law_484 ?_
  refine lv_aload_n F.1 F.2.1 dL_law_485 rfl (lv_at hl 3 rfl) ?_
  refine lv_iload_n F.1 F.2.1 dL_law_486 rfl (lv_at hl 0 rfl) ?_
  refine lv_iconst (v := 2) F.1 F.2.1 dL_law_487 (by decide) ?_
  refine lv_iadd F.1 F.2.1 dL_law_488 ?_
  refine va_sld F.1 F.2.1 hX hbl hbA hW.2 (vpk2 hi hL) dL_law_489 ?_
  refine jcip (jrunV (As := [.int (xs (nI i + 1).toNatClampNeg), .int (xs (nI i + 2).toNatClampNeg)]) (rest := []) F hT hW yc_X6_ofLine yv_X6_ofLine ml_L_53 oH0 (by decide) rfl (c_X6_ofLine l E μ (xs (nI i + 1).toNatClampNeg) (xs (nI i + 2).toNatClampNeg) hI.wc) rfl hl.1 ⟨Nat.le_of_ble_eq_true rfl, Nat.le_of_ble_eq_true rfl⟩ rfl (Nat.le_of_ble_eq_true rfl) ⟨Nat.le_of_ble_eq_true rfl, Nat.le_of_ble_eq_true rfl⟩ dL_law_490) hW (fun x H locs ex hW => ?_)
  have st := n_ofLine (a := (xs (nI i + 1).toNatClampNeg)) (b := (xs (nI i + 2).toNatClampNeg)) hI
  have h13 : μ 13 = μ 13 := rfl
  have wm : Wm (μ 13) := by rw [h13]; exact hI.wm
  have hn := wm.1
  have hd := wm.2.2.2.1.1
  refine lv_aload_n F.1 F.2.1 dL_law_493 rfl (lv_at hl 1 rfl) ?_
  refine lv_aload_n F.1 F.2.1 dL_law_494 rfl (lv_at hl 3 rfl) ?_
  refine lv_iload_n F.1 F.2.1 dL_law_495 rfl (lv_at hl 0 rfl) ?_
  refine lv_iconst (v := 1) F.1 F.2.1 dL_law_496 (by decide) ?_
  refine lv_iadd F.1 F.2.1 dL_law_497 ?_
  refine va_sld F.1 F.2.1 hX hbl hbA hW.2 (vpk1 hi hL) dL_law_498 ?_
  refine lv_aload_n F.1 F.2.1 dL_law_499 rfl (lv_at hl 3 rfl) ?_
  refine lv_iload_n F.1 F.2.1 dL_law_500 rfl (lv_at hl 0 rfl) ?_
  refine lv_iconst (v := 2) F.1 F.2.1 dL_law_501 (by decide) ?_
  refine lv_iadd F.1 F.2.1 dL_law_502 ?_
  refine va_sld F.1 F.2.1 hX hbl hbA hW.2 (vpk2 hi hL) dL_law_503 ?_
  refine jcip (jrunV (As := [.int (xs (nI i + 1).toNatClampNeg), .int (xs (nI i + 2).toNatClampNeg)]) (rest := [.int x]) F hT (hW.foc 13) yc_X7_ofLine yv_X7_ofLine ml_L_56 oM0 (by decide) rfl (c_X7_ofLine l E μ (μ 13) (xs (nI i + 1).toNatClampNeg) (xs (nI i + 2).toNatClampNeg) hn hd) rfl hl.1 ⟨Nat.le_of_ble_eq_true rfl, Nat.le_of_ble_eq_true rfl⟩ rfl (Nat.le_of_ble_eq_true rfl) ⟨Nat.le_of_ble_eq_true rfl, Nat.le_of_ble_eq_true rfl⟩ dL_law_504) (hW.foc 13) (fun y H locs ey hW => ?_)
  refine lv_icmp_eq (tgt := 880) F.1 F.2.1 dL_law_507 (by decide) (fun _ => kk μ H locs (hI.mono (by omega)) (hW.to (fo_self μ 13))) (fun hne => absurd ?_ hne)
  rw [ex, ey]
  exact st
set_option maxHeartbeats 4000000 in
set_option maxRecDepth 100000 in
theorem law_c10 (F : CallFix p m c code 4 s #[.ref b] TB RL) (hT : Stat E s) (hX : va_X b L xs s s.heap) (hbl : b < s.heap.size) (hbA : ¬ AA E b) (hL : L ≤ 2560) (hi : i + 5 ≤ L) (hW : Wd E s H locs μ) (hI : Iv g μ (μ 13)) (hg : g + 28000 < 2 ^ 29) (hl : lv_has ls 4 (LLw E b i))
    (kk : ∀ (μ' : Mu) (H : Heap) (locs : List Loc), Iv (g + 28000) μ' (μ' 13) → Wd E s H locs μ' → W p l e room_1 s m #[.ref b] below meth c H locs 356 6383 Q (F0 m 880 ls [])) : W p l e room_1 s m #[.ref b] below meth c H locs 356 6383 Q (F0 m 512 ls []) := by
  refine lv_aload_n F.1 F.2.1 dL_law_512 rfl (lv_at hl 2 rfl) ?_
  refine lv_aload_n F.1 F.2.1 dL_law_513 rfl (lv_at hl 3 rfl) ?_
  refine lv_iload_n F.1 F.2.1 dL_law_514 rfl (lv_at hl 0 rfl) ?_
  refine lv_iconst (v := 1) F.1 F.2.1 dL_law_515 (by decide) ?_
  refine lv_iadd F.1 F.2.1 dL_law_516 ?_
  refine va_sld F.1 F.2.1 hX hbl hbA hW.2 (vpk1 hi hL) dL_law_517 ?_
  refine lv_aload_n F.1 F.2.1 dL_law_518 rfl (lv_at hl 3 rfl) ?_
  refine lv_iload_n F.1 F.2.1 dL_law_519 rfl (lv_at hl 0 rfl) ?_
  refine lv_iconst (v := 2) F.1 F.2.1 dL_law_520 (by decide) ?_
  refine lv_iadd F.1 F.2.1 dL_law_521 ?_
  refine va_sld F.1 F.2.1 hX hbl hbA hW.2 (vpk2 hi hL) dL_law_522 ?_
  refine jcip (jrunV (As := [.int (xs (nI i + 1).toNatClampNeg), .int (xs (nI i + 2).toNatClampNeg)]) (rest := []) F hT hW yc_X6_ofNest yv_X6_ofNest ml_L_57 oH0 (by decide) rfl (c_X6_ofNest l E μ (xs (nI i + 1).toNatClampNeg) (xs (nI i + 2).toNatClampNeg) hI.wc) rfl hl.1 ⟨Nat.le_of_ble_eq_true rfl, Nat.le_of_ble_eq_true rfl⟩ rfl (Nat.le_of_ble_eq_true rfl) ⟨Nat.le_of_ble_eq_true rfl, Nat.le_of_ble_eq_true rfl⟩ dL_law_523) hW (fun x H locs ex hW => ?_)
  have st := n_ofNest (a := (xs (nI i + 1).toNatClampNeg)) (b := (xs (nI i + 2).toNatClampNeg)) hI
  have h13 : μ 13 = μ 13 := rfl
  have wm : Wm (μ 13) := by rw [h13]; exact hI.wm
  have hd := wm.2.2.2.1.1
  refine lv_aload_n F.1 F.2.1 dL_law_526 rfl (lv_at hl 1 rfl) ?_
  refine lv_aload_n F.1 F.2.1 dL_law_527 rfl (lv_at hl 3 rfl) ?_
  refine lv_iload_n F.1 F.2.1 dL_law_528 rfl (lv_at hl 0 rfl) ?_
  refine lv_iconst (v := 1) F.1 F.2.1 dL_law_529 (by decide) ?_
  refine lv_iadd F.1 F.2.1 dL_law_530 ?_
  refine va_sld F.1 F.2.1 hX hbl hbA hW.2 (vpk1 hi hL) dL_law_531 ?_
  refine lv_aload_n F.1 F.2.1 dL_law_532 rfl (lv_at hl 3 rfl) ?_
  refine lv_iload_n F.1 F.2.1 dL_law_533 rfl (lv_at hl 0 rfl) ?_
  refine lv_iconst (v := 2) F.1 F.2.1 dL_law_534 (by decide) ?_
  refine lv_iadd F.1 F.2.1 dL_law_535 ?_
  refine va_sld F.1 F.2.1 hX hbl hbA hW.2 (vpk2 hi hL) dL_law_536 ?_
  refine jcip (jrunV (As := [.int (xs (nI i + 1).toNatClampNeg), .int (xs (nI i + 2).toNatClampNeg)]) (rest := [.int x]) F hT (hW.foc 13) yc_X7_ofNest yv_X7_ofNest ml_L_60 oM0 (by decide) rfl (c_X7_ofNest l E μ (μ 13) (xs (nI i + 1).toNatClampNeg) (xs (nI i + 2).toNatClampNeg) hd) rfl hl.1 ⟨Nat.le_of_ble_eq_true rfl, Nat.le_of_ble_eq_true rfl⟩ rfl (Nat.le_of_ble_eq_true rfl) ⟨Nat.le_of_ble_eq_true rfl, Nat.le_of_ble_eq_true rfl⟩ dL_law_537) (hW.foc 13) (fun y H locs ey hW => ?_)
  refine lv_icmp_eq (tgt := 880) F.1 F.2.1 dL_law_540 (by decide) (fun _ => kk μ H locs (hI.mono (by omega)) (hW.to (fo_self μ 13))) (fun hne => absurd ?_ hne)
  rw [ex, ey]
  exact st
set_option maxHeartbeats 4000000 in
set_option maxRecDepth 100000 in
theorem law_c11 (F : CallFix p m c code 4 s #[.ref b] TB RL) (hT : Stat E s) (hX : va_X b L xs s s.heap) (hbl : b < s.heap.size) (hbA : ¬ AA E b) (hL : L ≤ 2560) (hi : i + 5 ≤ L) (hW : Wd E s H locs μ) (hI : Iv g μ (μ 13)) (hg : g + 28000 < 2 ^ 29) (hl : lv_has ls 4 (LLw E b i))
    (kk : ∀ (μ' : Mu) (H : Heap) (locs : List Loc), Iv (g + 28000) μ' (μ' 13) → Wd E s H locs μ' → W p l e room_1 s m #[.ref b] below meth c H locs 356 6383 Q (F0 m 880 ls [])) : W p l e room_1 s m #[.ref b] below meth c H locs 356 6383 Q (F0 m 545 ls []) := by
  refine lv_aload_n F.1 F.2.1 dL_law_545 rfl (lv_at hl 2 rfl) ?_
  refine lv_aload_n F.1 F.2.1 dL_law_546 rfl (lv_at hl 3 rfl) ?_
  refine lv_iload_n F.1 F.2.1 dL_law_547 rfl (lv_at hl 0 rfl) ?_
  refine lv_iconst (v := 1) F.1 F.2.1 dL_law_548 (by decide) ?_
  refine lv_iadd F.1 F.2.1 dL_law_549 ?_
  refine va_sld F.1 F.2.1 hX hbl hbA hW.2 (vpk1 hi hL) dL_law_550 ?_
  refine lv_aload_n F.1 F.2.1 dL_law_551 rfl (lv_at hl 3 rfl) ?_
  refine lv_iload_n F.1 F.2.1 dL_law_552 rfl (lv_at hl 0 rfl) ?_
  refine lv_iconst (v := 2) F.1 F.2.1 dL_law_553 (by decide) ?_
  refine lv_iadd F.1 F.2.1 dL_law_554 ?_
  refine va_sld F.1 F.2.1 hX hbl hbA hW.2 (vpk2 hi hL) dL_law_555 ?_
  refine jcip (jrunV (As := [.int (xs (nI i + 1).toNatClampNeg), .int (xs (nI i + 2).toNatClampNeg)]) (rest := []) F hT hW yc_X6_ofTimer yv_X6_ofTimer ml_L_61 oH0 (by decide) rfl (c_X6_ofTimer l E μ (xs (nI i + 1).toNatClampNeg) (xs (nI i + 2).toNatClampNeg) hI.wc) rfl hl.1 ⟨Nat.le_of_ble_eq_true rfl, Nat.le_of_ble_eq_true rfl⟩ rfl (Nat.le_of_ble_eq_true rfl) ⟨Nat.le_of_ble_eq_true rfl, Nat.le_of_ble_eq_true rfl⟩ dL_law_556) hW (fun x H locs ex hW => ?_)
  have st := n_ofTimer (a := (xs (nI i + 1).toNatClampNeg)) (b := (xs (nI i + 2).toNatClampNeg)) hI
  have h13 : μ 13 = μ 13 := rfl
  have wm : Wm (μ 13) := by rw [h13]; exact hI.wm
  have ht := wm.2.1
  refine lv_aload_n F.1 F.2.1 dL_law_559 rfl (lv_at hl 1 rfl) ?_
  refine lv_aload_n F.1 F.2.1 dL_law_560 rfl (lv_at hl 3 rfl) ?_
  refine lv_iload_n F.1 F.2.1 dL_law_561 rfl (lv_at hl 0 rfl) ?_
  refine lv_iconst (v := 1) F.1 F.2.1 dL_law_562 (by decide) ?_
  refine lv_iadd F.1 F.2.1 dL_law_563 ?_
  refine va_sld F.1 F.2.1 hX hbl hbA hW.2 (vpk1 hi hL) dL_law_564 ?_
  refine lv_aload_n F.1 F.2.1 dL_law_565 rfl (lv_at hl 3 rfl) ?_
  refine lv_iload_n F.1 F.2.1 dL_law_566 rfl (lv_at hl 0 rfl) ?_
  refine lv_iconst (v := 2) F.1 F.2.1 dL_law_567 (by decide) ?_
  refine lv_iadd F.1 F.2.1 dL_law_568 ?_
  refine va_sld F.1 F.2.1 hX hbl hbA hW.2 (vpk2 hi hL) dL_law_569 ?_
  refine jcip (jrunV (As := [.int (xs (nI i + 1).toNatClampNeg), .int (xs (nI i + 2).toNatClampNeg)]) (rest := [.int x]) F hT (hW.foc 13) yc_X7_ofTimer yv_X7_ofTimer ml_L_64 oM0 (by decide) rfl (c_X7_ofTimer l E μ (μ 13) (xs (nI i + 1).toNatClampNeg) (xs (nI i + 2).toNatClampNeg) ht) rfl hl.1 ⟨Nat.le_of_ble_eq_true rfl, Nat.le_of_ble_eq_true rfl⟩ rfl (Nat.le_of_ble_eq_true rfl) ⟨Nat.le_of_ble_eq_true rfl, Nat.le_of_ble_eq_true rfl⟩ dL_law_570) (hW.foc 13) (fun y H locs ey hW => ?_)
  refine lv_icmp_eq (tgt := 880) F.1 F.2.1 dL_law_573 (by decide) (fun _ => kk μ H locs (hI.mono (by omega)) (hW.to (fo_self μ 13))) (fun hne => absurd ?_ hne)
  rw [ex, ey]
  exact st
set_option maxHeartbeats 4000000 in
set_option maxRecDepth 100000 in
theorem law_c12 (F : CallFix p m c code 4 s #[.ref b] TB RL) (hT : Stat E s) (hX : va_X b L xs s s.heap) (hbl : b < s.heap.size) (hbA : ¬ AA E b) (hL : L ≤ 2560) (hi : i + 5 ≤ L) (hW : Wd E s H locs μ) (hI : Iv g μ (μ 13)) (hg : g + 28000 < 2 ^ 29) (hl : lv_has ls 4 (LLw E b i))
    (kk : ∀ (μ' : Mu) (H : Heap) (locs : List Loc), Iv (g + 28000) μ' (μ' 13) → Wd E s H locs μ' → W p l e room_1 s m #[.ref b] below meth c H locs 356 6383 Q (F0 m 880 ls [])) : W p l e room_1 s m #[.ref b] below meth c H locs 356 6383 Q (F0 m 578 ls []) := by
  refine lv_aload_n F.1 F.2.1 dL_law_578 rfl (lv_at hl 2 rfl) ?_
  refine lv_aload_n F.1 F.2.1 dL_law_579 rfl (lv_at hl 3 rfl) ?_
  refine lv_iload_n F.1 F.2.1 dL_law_580 rfl (lv_at hl 0 rfl) ?_
  refine lv_iconst (v := 1) F.1 F.2.1 dL_law_581 (by decide) ?_
  refine lv_iadd F.1 F.2.1 dL_law_582 ?_
  refine va_sld F.1 F.2.1 hX hbl hbA hW.2 (vpk1 hi hL) dL_law_583 ?_
  refine jcip (jrunV (As := [.int (xs (nI i + 1).toNatClampNeg)]) (rest := []) F hT hW yc_X6_count yv_X6_count ml_L_65 oH0 (by decide) rfl (c_X6_count l E μ (xs (nI i + 1).toNatClampNeg) hI.wc) rfl hl.1 ⟨Nat.le_of_ble_eq_true rfl, Nat.le_of_ble_eq_true rfl⟩ rfl (Nat.le_of_ble_eq_true rfl) ⟨Nat.le_of_ble_eq_true rfl, Nat.le_of_ble_eq_true rfl⟩ dL_law_584) hW (fun x H locs ex hW => ?_)
  have st := n_count (a := (xs (nI i + 1).toNatClampNeg)) hI
  have h13 : μ 13 = μ 13 := rfl
  have wm : Wm (μ 13) := by rw [h13]; exact hI.wm
  have hn := wm.1
  have hd := wm.2.2.2.1.1
  refine lv_aload_n F.1 F.2.1 dL_law_587 rfl (lv_at hl 1 rfl) ?_
  refine lv_aload_n F.1 F.2.1 dL_law_588 rfl (lv_at hl 3 rfl) ?_
  refine lv_iload_n F.1 F.2.1 dL_law_589 rfl (lv_at hl 0 rfl) ?_
  refine lv_iconst (v := 1) F.1 F.2.1 dL_law_590 (by decide) ?_
  refine lv_iadd F.1 F.2.1 dL_law_591 ?_
  refine va_sld F.1 F.2.1 hX hbl hbA hW.2 (vpk1 hi hL) dL_law_592 ?_
  refine jcip (jrunV (As := [.int (xs (nI i + 1).toNatClampNeg)]) (rest := [.int x]) F hT (hW.foc 13) yc_X7_count yv_X7_count ml_L_68 oM0 (by decide) rfl (c_X7_count l E μ (μ 13) (xs (nI i + 1).toNatClampNeg) hn hd) rfl hl.1 ⟨Nat.le_of_ble_eq_true rfl, Nat.le_of_ble_eq_true rfl⟩ rfl (Nat.le_of_ble_eq_true rfl) ⟨Nat.le_of_ble_eq_true rfl, Nat.le_of_ble_eq_true rfl⟩ dL_law_593) (hW.foc 13) (fun y H locs ey hW => ?_)
  refine lv_icmp_eq (tgt := 880) F.1 F.2.1 dL_law_596 (by decide) (fun _ => kk μ H locs (hI.mono (by omega)) (hW.to (fo_self μ 13))) (fun hne => absurd ?_ hne)
  rw [ex, ey]
  exact st
set_option maxHeartbeats 4000000 in
set_option maxRecDepth 100000 in
theorem law_c13 (F : CallFix p m c code 4 s #[.ref b] TB RL) (hT : Stat E s) (hX : va_X b L xs s s.heap) (hbl : b < s.heap.size) (hbA : ¬ AA E b) (hL : L ≤ 2560) (hi : i + 5 ≤ L) (hW : Wd E s H locs μ) (hI : Iv g μ (μ 13)) (hg : g + 28000 < 2 ^ 29) (hl : lv_has ls 4 (LLw E b i))
    (kk : ∀ (μ' : Mu) (H : Heap) (locs : List Loc), Iv (g + 28000) μ' (μ' 13) → Wd E s H locs μ' → W p l e room_1 s m #[.ref b] below meth c H locs 356 6383 Q (F0 m 880 ls [])) : W p l e room_1 s m #[.ref b] below meth c H locs 356 6383 Q (F0 m 601 ls []) := by
  refine lv_aload_n F.1 F.2.1 dL_law_601 rfl (lv_at hl 2 rfl) ?_
  refine lv_aload_n F.1 F.2.1 dL_law_602 rfl (lv_at hl 3 rfl) ?_
  refine lv_iload_n F.1 F.2.1 dL_law_603 rfl (lv_at hl 0 rfl) ?_
  refine lv_iconst (v := 1) F.1 F.2.1 dL_law_604 (by decide) ?_
  refine lv_iadd F.1 F.2.1 dL_law_605 ?_
  refine va_sld F.1 F.2.1 hX hbl hbA hW.2 (vpk1 hi hL) dL_law_606 ?_
  refine jciG (jrunV (As := [.int (xs (nI i + 1).toNatClampNeg)]) (rest := []) F hT hW yc_X6_beginsIn yv_X6_beginsIn ml_L_69 oH0 (by decide) rfl (c_X6_beginsIn l E μ (xs (nI i + 1).toNatClampNeg) hI.wc) rfl hl.1 ⟨Nat.le_of_ble_eq_true rfl, Nat.le_of_ble_eq_true rfl⟩ rfl (Nat.le_of_ble_eq_true rfl) ⟨Nat.le_of_ble_eq_true rfl, Nat.le_of_ble_eq_true rfl⟩ dL_law_607) hW (fun x μ1 H locs ex eμ hW => ?_)
  have st : StR g μ (p_X6_beginsIn μ (xs (nI i + 1).toNatClampNeg)) (p_X7_beginsIn (μ 13) (xs (nI i + 1).toNatClampNeg)) := s_beginsIn hI hg
  have h13 : μ1 13 = μ 13 := by rw [eμ]; exact st.2.2
  have wm : Wm (μ1 13) := by rw [h13]; exact hI.wm
  refine lv_aload_n F.1 F.2.1 dL_law_610 rfl (lv_at hl 1 rfl) ?_
  refine lv_aload_n F.1 F.2.1 dL_law_611 rfl (lv_at hl 3 rfl) ?_
  refine lv_iload_n F.1 F.2.1 dL_law_612 rfl (lv_at hl 0 rfl) ?_
  refine lv_iconst (v := 1) F.1 F.2.1 dL_law_613 (by decide) ?_
  refine lv_iadd F.1 F.2.1 dL_law_614 ?_
  refine va_sld F.1 F.2.1 hX hbl hbA hW.2 (vpk1 hi hL) dL_law_615 ?_
  refine jcif (jrunV (As := [.int (xs (nI i + 1).toNatClampNeg)]) (rest := [.int x]) F hT (hW.foc 13) yc_X7_beginsIn yv_X7_beginsIn ml_L_72 oM0 (by decide) rfl (c_X7_beginsIn l E μ1 (μ1 13) (xs (nI i + 1).toNatClampNeg) wm) rfl hl.1 ⟨Nat.le_of_ble_eq_true rfl, Nat.le_of_ble_eq_true rfl⟩ rfl (Nat.le_of_ble_eq_true rfl) ⟨Nat.le_of_ble_eq_true rfl, Nat.le_of_ble_eq_true rfl⟩ dL_law_616) (hW.foc 13) (fun y S2 H locs ey eS hW => ?_)
  rw [h13] at ey eS
  have hI2 : Iv (g + 28000) μ1 S2 := by rw [eμ, eS]; exact st.2.1
  refine lv_icmp_eq (tgt := 880) F.1 F.2.1 dL_law_619 (by decide) (fun _ => kk _ H locs hI2.at13 hW) (fun hne => absurd ?_ hne)
  rw [ex, ey]
  exact st.1
set_option maxHeartbeats 4000000 in
set_option maxRecDepth 100000 in
theorem law_c14 (F : CallFix p m c code 4 s #[.ref b] TB RL) (hT : Stat E s) (hX : va_X b L xs s s.heap) (hbl : b < s.heap.size) (hbA : ¬ AA E b) (hL : L ≤ 2560) (hi : i + 5 ≤ L) (hW : Wd E s H locs μ) (hI : Iv g μ (μ 13)) (hg : g + 28000 < 2 ^ 29) (hl : lv_has ls 4 (LLw E b i))
    (kk : ∀ (μ' : Mu) (H : Heap) (locs : List Loc), Iv (g + 28000) μ' (μ' 13) → Wd E s H locs μ' → W p l e room_1 s m #[.ref b] below meth c H locs 356 6383 Q (F0 m 880 ls [])) : W p l e room_1 s m #[.ref b] below meth c H locs 356 6383 Q (F0 m 624 ls []) := by
  refine lv_aload_n F.1 F.2.1 dL_law_624 rfl (lv_at hl 2 rfl) ?_
  refine jciG (jrunV (As := []) (rest := []) F hT hW yc_X6_idleIn yv_X6_idleIn ml_L_73 oH0 (by decide) rfl (c_X6_idleIn l E μ hI.wc) rfl hl.1 ⟨Nat.le_of_ble_eq_true rfl, Nat.le_of_ble_eq_true rfl⟩ rfl (Nat.le_of_ble_eq_true rfl) ⟨Nat.le_of_ble_eq_true rfl, Nat.le_of_ble_eq_true rfl⟩ dL_law_625) hW (fun x μ1 H locs ex eμ hW => ?_)
  have st : StR g μ (p_X6_idleIn μ) (p_X7_idleIn (μ 13)) := s_idleIn hI hg
  have h13 : μ1 13 = μ 13 := by rw [eμ]; exact st.2.2
  have wm : Wm (μ1 13) := by rw [h13]; exact hI.wm
  refine lv_aload_n F.1 F.2.1 dL_law_628 rfl (lv_at hl 1 rfl) ?_
  refine jcif (jrunV (As := []) (rest := [.int x]) F hT (hW.foc 13) yc_X7_idleIn yv_X7_idleIn ml_L_77 oM0 (by decide) rfl (c_X7_idleIn l E μ1 (μ1 13) wm) rfl hl.1 ⟨Nat.le_of_ble_eq_true rfl, Nat.le_of_ble_eq_true rfl⟩ rfl (Nat.le_of_ble_eq_true rfl) ⟨Nat.le_of_ble_eq_true rfl, Nat.le_of_ble_eq_true rfl⟩ dL_law_629) (hW.foc 13) (fun y S2 H locs ey eS hW => ?_)
  rw [h13] at ey eS
  have hI2 : Iv (g + 28000) μ1 S2 := by rw [eμ, eS]; exact st.2.1
  refine lv_icmp_eq (tgt := 880) F.1 F.2.1 dL_law_632 (by decide) (fun _ => kk _ H locs hI2.at13 hW) (fun hne => absurd ?_ hne)
  rw [ex, ey]
  exact st.1
set_option maxHeartbeats 4000000 in
set_option maxRecDepth 100000 in
theorem law_c15 (F : CallFix p m c code 4 s #[.ref b] TB RL) (hT : Stat E s) (hX : va_X b L xs s s.heap) (hbl : b < s.heap.size) (hbA : ¬ AA E b) (hL : L ≤ 2560) (hi : i + 5 ≤ L) (hW : Wd E s H locs μ) (hI : Iv g μ (μ 13)) (hg : g + 28000 < 2 ^ 29) (hl : lv_has ls 4 (LLw E b i))
    (kk : ∀ (μ' : Mu) (H : Heap) (locs : List Loc), Iv (g + 28000) μ' (μ' 13) → Wd E s H locs μ' → W p l e room_1 s m #[.ref b] below meth c H locs 356 6383 Q (F0 m 880 ls [])) : W p l e room_1 s m #[.ref b] below meth c H locs 356 6383 Q (F0 m 637 ls []) := by
  refine lv_aload_n F.1 F.2.1 dL_law_637 rfl (lv_at hl 2 rfl) ?_
  refine lv_aload_n F.1 F.2.1 dL_law_638 rfl (lv_at hl 3 rfl) ?_
  refine lv_iload_n F.1 F.2.1 dL_law_639 rfl (lv_at hl 0 rfl) ?_
  refine lv_iconst (v := 1) F.1 F.2.1 dL_law_640 (by decide) ?_
  refine lv_iadd F.1 F.2.1 dL_law_641 ?_
  refine va_sld F.1 F.2.1 hX hbl hbA hW.2 (vpk1 hi hL) dL_law_642 ?_
  refine jciG (jrunV (As := [.int (xs (nI i + 1).toNatClampNeg)]) (rest := []) F hT hW yc_X6_missesIn yv_X6_missesIn ml_L_78 oH0 (by decide) rfl (c_X6_missesIn l E μ (xs (nI i + 1).toNatClampNeg) hI.wc) rfl hl.1 ⟨Nat.le_of_ble_eq_true rfl, Nat.le_of_ble_eq_true rfl⟩ rfl (Nat.le_of_ble_eq_true rfl) ⟨Nat.le_of_ble_eq_true rfl, Nat.le_of_ble_eq_true rfl⟩ dL_law_643) hW (fun x μ1 H locs ex eμ hW => ?_)
  have st : StR g μ (p_X6_missesIn μ (xs (nI i + 1).toNatClampNeg)) (p_X7_missesIn (μ 13) (xs (nI i + 1).toNatClampNeg)) := s_missesIn hI hg
  have h13 : μ1 13 = μ 13 := by rw [eμ]; exact st.2.2
  have wm : Wm (μ1 13) := by rw [h13]; exact hI.wm
  refine lv_aload_n F.1 F.2.1 dL_law_646 rfl (lv_at hl 1 rfl) ?_
  refine lv_aload_n F.1 F.2.1 dL_law_647 rfl (lv_at hl 3 rfl) ?_
  refine lv_iload_n F.1 F.2.1 dL_law_648 rfl (lv_at hl 0 rfl) ?_
  refine lv_iconst (v := 1) F.1 F.2.1 dL_law_649 (by decide) ?_
  refine lv_iadd F.1 F.2.1 dL_law_650 ?_
  refine va_sld F.1 F.2.1 hX hbl hbA hW.2 (vpk1 hi hL) dL_law_651 ?_
  refine jcif (jrunV (As := [.int (xs (nI i + 1).toNatClampNeg)]) (rest := [.int x]) F hT (hW.foc 13) yc_X7_missesIn yv_X7_missesIn ml_L_81 oM0 (by decide) rfl (c_X7_missesIn l E μ1 (μ1 13) (xs (nI i + 1).toNatClampNeg) wm) rfl hl.1 ⟨Nat.le_of_ble_eq_true rfl, Nat.le_of_ble_eq_true rfl⟩ rfl (Nat.le_of_ble_eq_true rfl) ⟨Nat.le_of_ble_eq_true rfl, Nat.le_of_ble_eq_true rfl⟩ dL_law_652) (hW.foc 13) (fun y S2 H locs ey eS hW => ?_)
  rw [h13] at ey eS
  have hI2 : Iv (g + 28000) μ1 S2 := by rw [eμ, eS]; exact st.2.1
  refine lv_icmp_eq (tgt := 880) F.1 F.2.1 dL_law_655 (by decide) (fun _ => kk _ H locs hI2.at13 hW) (fun hne => absurd ?_ hne)
  rw [ex, ey]
  exact st.1
set_option maxHeartbeats 4000000 in
set_option maxRecDepth 100000 in
theorem law_c16 (F : CallFix p m c code 4 s #[.ref b] TB RL) (hT : Stat E s) (hX : va_X b L xs s s.heap) (hbl : b < s.heap.size) (hbA : ¬ AA E b) (hL : L ≤ 2560) (hi : i + 5 ≤ L) (hW : Wd E s H locs μ) (hI : Iv g μ (μ 13)) (hg : g + 28000 < 2 ^ 29) (hl : lv_has ls 4 (LLw E b i))
    (kk : ∀ (μ' : Mu) (H : Heap) (locs : List Loc), Iv (g + 28000) μ' (μ' 13) → Wd E s H locs μ' → W p l e room_1 s m #[.ref b] below meth c H locs 356 6383 Q (F0 m 880 ls [])) : W p l e room_1 s m #[.ref b] below meth c H locs 356 6383 Q (F0 m 660 ls []) := by
  refine lv_aload_n F.1 F.2.1 dL_law_660 rfl (lv_at hl 2 rfl) ?_
  refine lv_aload_n F.1 F.2.1 dL_law_661 rfl (lv_at hl 3 rfl) ?_
  refine lv_iload_n F.1 F.2.1 dL_law_662 rfl (lv_at hl 0 rfl) ?_
  refine lv_iconst (v := 1) F.1 F.2.1 dL_law_663 (by decide) ?_
  refine lv_iadd F.1 F.2.1 dL_law_664 ?_
  refine va_sld F.1 F.2.1 hX hbl hbA hW.2 (vpk1 hi hL) dL_law_665 ?_
  refine lv_aload_n F.1 F.2.1 dL_law_666 rfl (lv_at hl 3 rfl) ?_
  refine lv_iload_n F.1 F.2.1 dL_law_667 rfl (lv_at hl 0 rfl) ?_
  refine lv_iconst (v := 2) F.1 F.2.1 dL_law_668 (by decide) ?_
  refine lv_iadd F.1 F.2.1 dL_law_669 ?_
  refine va_sld F.1 F.2.1 hX hbl hbA hW.2 (vpk2 hi hL) dL_law_670 ?_
  refine jciG (jrunV (As := [.int (xs (nI i + 1).toNatClampNeg), .int (xs (nI i + 2).toNatClampNeg)]) (rest := []) F hT hW yc_X6_greatestBar yv_X6_greatestBar ml_L_82 oH0 (by decide) rfl (c_X6_greatestBar l E μ (xs (nI i + 1).toNatClampNeg) (xs (nI i + 2).toNatClampNeg) hI.wc) rfl hl.1 ⟨Nat.le_of_ble_eq_true rfl, Nat.le_of_ble_eq_true rfl⟩ rfl (Nat.le_of_ble_eq_true rfl) ⟨Nat.le_of_ble_eq_true rfl, Nat.le_of_ble_eq_true rfl⟩ dL_law_671) hW (fun x μ1 H locs ex eμ hW => ?_)
  have st : StR g μ (p_X6_greatestBar μ (xs (nI i + 1).toNatClampNeg) (xs (nI i + 2).toNatClampNeg)) (p_X7_greatestBar (μ 13) (xs (nI i + 1).toNatClampNeg) (xs (nI i + 2).toNatClampNeg)) := s_greatestBar hI hg
  have h13 : μ1 13 = μ 13 := by rw [eμ]; exact st.2.2
  have wm : Wm (μ1 13) := by rw [h13]; exact hI.wm
  refine lv_aload_n F.1 F.2.1 dL_law_674 rfl (lv_at hl 1 rfl) ?_
  refine lv_aload_n F.1 F.2.1 dL_law_675 rfl (lv_at hl 3 rfl) ?_
  refine lv_iload_n F.1 F.2.1 dL_law_676 rfl (lv_at hl 0 rfl) ?_
  refine lv_iconst (v := 1) F.1 F.2.1 dL_law_677 (by decide) ?_
  refine lv_iadd F.1 F.2.1 dL_law_678 ?_
  refine va_sld F.1 F.2.1 hX hbl hbA hW.2 (vpk1 hi hL) dL_law_679 ?_
  refine lv_aload_n F.1 F.2.1 dL_law_680 rfl (lv_at hl 3 rfl) ?_
  refine lv_iload_n F.1 F.2.1 dL_law_681 rfl (lv_at hl 0 rfl) ?_
  refine lv_iconst (v := 2) F.1 F.2.1 dL_law_682 (by decide) ?_
  refine lv_iadd F.1 F.2.1 dL_law_683 ?_
  refine va_sld F.1 F.2.1 hX hbl hbA hW.2 (vpk2 hi hL) dL_law_684 ?_
  refine jcif (jrunV (As := [.int (xs (nI i + 1).toNatClampNeg), .int (xs (nI i + 2).toNatClampNeg)]) (rest := [.int x]) F hT (hW.foc 13) yc_X7_greatestBar yv_X7_greatestBar ml_L_85 oM0 (by decide) rfl (c_X7_greatestBar l E μ1 (μ1 13) (xs (nI i + 1).toNatClampNeg) (xs (nI i + 2).toNatClampNeg) wm) rfl hl.1 ⟨Nat.le_of_ble_eq_true rfl, Nat.le_of_ble_eq_true rfl⟩ rfl (Nat.le_of_ble_eq_true rfl) ⟨Nat.le_of_ble_eq_true rfl, Nat.le_of_ble_eq_true rfl⟩ dL_law_685) (hW.foc 13) (fun y S2 H locs ey eS hW => ?_)
  rw [h13] at ey eS
  have hI2 : Iv (g + 28000) μ1 S2 := by rw [eμ, eS]; exact st.2.1
  refine lv_icmp_eq (tgt := 880) F.1 F.2.1 dL_law_688 (by decide) (fun _ => kk _ H locs hI2.at13 hW) (fun hne => absurd ?_ hne)
  rw [ex, ey]
  exact st.1
set_option maxHeartbeats 4000000 in
set_option maxRecDepth 100000 in
theorem law_c17 (F : CallFix p m c code 4 s #[.ref b] TB RL) (hT : Stat E s) (hX : va_X b L xs s s.heap) (hbl : b < s.heap.size) (hbA : ¬ AA E b) (hL : L ≤ 2560) (hi : i + 5 ≤ L) (hW : Wd E s H locs μ) (hI : Iv g μ (μ 13)) (hg : g + 28000 < 2 ^ 29) (hl : lv_has ls 4 (LLw E b i))
    (kk : ∀ (μ' : Mu) (H : Heap) (locs : List Loc), Iv (g + 28000) μ' (μ' 13) → Wd E s H locs μ' → W p l e room_1 s m #[.ref b] below meth c H locs 356 6383 Q (F0 m 880 ls [])) : W p l e room_1 s m #[.ref b] below meth c H locs 356 6383 Q (F0 m 693 ls []) := by
  refine lv_aload_n F.1 F.2.1 dL_law_693 rfl (lv_at hl 2 rfl) ?_
  refine lv_aload_n F.1 F.2.1 dL_law_694 rfl (lv_at hl 3 rfl) ?_
  refine lv_iload_n F.1 F.2.1 dL_law_695 rfl (lv_at hl 0 rfl) ?_
  refine lv_iconst (v := 1) F.1 F.2.1 dL_law_696 (by decide) ?_
  refine lv_iadd F.1 F.2.1 dL_law_697 ?_
  refine va_sld F.1 F.2.1 hX hbl hbA hW.2 (vpk1 hi hL) dL_law_698 ?_
  refine jcip (jrunV (As := [.int (xs (nI i + 1).toNatClampNeg)]) (rest := []) F hT hW yc_X6_bound yv_X6_bound ml_L_86 oH0 (by decide) rfl (c_X6_bound l E μ (xs (nI i + 1).toNatClampNeg) hI.wc) rfl hl.1 ⟨Nat.le_of_ble_eq_true rfl, Nat.le_of_ble_eq_true rfl⟩ rfl (Nat.le_of_ble_eq_true rfl) ⟨Nat.le_of_ble_eq_true rfl, Nat.le_of_ble_eq_true rfl⟩ dL_law_699) hW (fun x H locs ex hW => ?_)
  have st := n_bound (a := (xs (nI i + 1).toNatClampNeg)) hI
  have h13 : μ 13 = μ 13 := rfl
  have wm : Wm (μ 13) := by rw [h13]; exact hI.wm
  have hn := wm.1
  have ht := wm.2.1
  have hq := wm.2.2.1
  have hpz : ∀ q, q < cn (μ 13 1 9) → Bn (μ 13 1 (260 + 3 * q + 1)) 200 ∧ 0 < cn (μ 13 1 (260 + 3 * q + 1)) := by rw [h13]; exact hI.hpz
  refine lv_aload_n F.1 F.2.1 dL_law_702 rfl (lv_at hl 1 rfl) ?_
  refine lv_aload_n F.1 F.2.1 dL_law_703 rfl (lv_at hl 3 rfl) ?_
  refine lv_iload_n F.1 F.2.1 dL_law_704 rfl (lv_at hl 0 rfl) ?_
  refine lv_iconst (v := 1) F.1 F.2.1 dL_law_705 (by decide) ?_
  refine lv_iadd F.1 F.2.1 dL_law_706 ?_
  refine va_sld F.1 F.2.1 hX hbl hbA hW.2 (vpk1 hi hL) dL_law_707 ?_
  refine jcip (jrunV (As := [.int (xs (nI i + 1).toNatClampNeg)]) (rest := [.int x]) F hT (hW.foc 13) yc_X7_bound yv_X7_bound ml_L_89 oM0 (by decide) rfl (c_X7_bound l E μ (μ 13) (xs (nI i + 1).toNatClampNeg) hn ht hq hpz) rfl hl.1 ⟨Nat.le_of_ble_eq_true rfl, Nat.le_of_ble_eq_true rfl⟩ rfl (Nat.le_of_ble_eq_true rfl) ⟨Nat.le_of_ble_eq_true rfl, Nat.le_of_ble_eq_true rfl⟩ dL_law_708) (hW.foc 13) (fun y H locs ey hW => ?_)
  refine lv_icmp_eq (tgt := 880) F.1 F.2.1 dL_law_711 (by decide) (fun _ => kk μ H locs (hI.mono (by omega)) (hW.to (fo_self μ 13))) (fun hne => absurd ?_ hne)
  rw [ex, ey]
  exact st
set_option maxHeartbeats 4000000 in
set_option maxRecDepth 100000 in
theorem law_c18 (F : CallFix p m c code 4 s #[.ref b] TB RL) (hT : Stat E s) (hX : va_X b L xs s s.heap) (hbl : b < s.heap.size) (hbA : ¬ AA E b) (hL : L ≤ 2560) (hi : i + 5 ≤ L) (hW : Wd E s H locs μ) (hI : Iv g μ (μ 13)) (hg : g + 28000 < 2 ^ 29) (hl : lv_has ls 4 (LLw E b i))
    (kk : ∀ (μ' : Mu) (H : Heap) (locs : List Loc), Iv (g + 28000) μ' (μ' 13) → Wd E s H locs μ' → W p l e room_1 s m #[.ref b] below meth c H locs 356 6383 Q (F0 m 880 ls [])) : W p l e room_1 s m #[.ref b] below meth c H locs 356 6383 Q (F0 m 716 ls []) := by
  refine lv_aload_n F.1 F.2.1 dL_law_716 rfl (lv_at hl 2 rfl) ?_
  refine jcip (jrunV (As := []) (rest := []) F hT hW yc_X6_load yv_X6_load ml_L_90 oH0 (by decide) rfl (c_X6_load l E μ hI.wc) rfl hl.1 ⟨Nat.le_of_ble_eq_true rfl, Nat.le_of_ble_eq_true rfl⟩ rfl (Nat.le_of_ble_eq_true rfl) ⟨Nat.le_of_ble_eq_true rfl, Nat.le_of_ble_eq_true rfl⟩ dL_law_717) hW (fun x H locs ex hW => ?_)
  have st := n_load  hI
  have h13 : μ 13 = μ 13 := rfl
  have wm : Wm (μ 13) := by rw [h13]; exact hI.wm
  have ht := wm.2.1
  have hq := wm.2.2.1
  have hpz : ∀ q, q < cn (μ 13 1 9) → Bn (μ 13 1 (260 + 3 * q + 1)) 200 ∧ 0 < cn (μ 13 1 (260 + 3 * q + 1)) := by rw [h13]; exact hI.hpz
  refine lv_aload_n F.1 F.2.1 dL_law_720 rfl (lv_at hl 1 rfl) ?_
  refine jcip (jrunV (As := []) (rest := [.int x]) F hT (hW.foc 13) yc_X7_load yv_X7_load ml_L_93 oM0 (by decide) rfl (c_X7_load l E μ (μ 13) ht hq hpz) rfl hl.1 ⟨Nat.le_of_ble_eq_true rfl, Nat.le_of_ble_eq_true rfl⟩ rfl (Nat.le_of_ble_eq_true rfl) ⟨Nat.le_of_ble_eq_true rfl, Nat.le_of_ble_eq_true rfl⟩ dL_law_721) (hW.foc 13) (fun y H locs ey hW => ?_)
  refine lv_icmp_eq (tgt := 880) F.1 F.2.1 dL_law_724 (by decide) (fun _ => kk μ H locs (hI.mono (by omega)) (hW.to (fo_self μ 13))) (fun hne => absurd ?_ hne)
  rw [ex, ey]
  exact st
set_option maxHeartbeats 4000000 in
set_option maxRecDepth 100000 in
theorem law_c19 (F : CallFix p m c code 4 s #[.ref b] TB RL) (hT : Stat E s) (hX : va_X b L xs s s.heap) (hbl : b < s.heap.size) (hbA : ¬ AA E b) (hL : L ≤ 2560) (hi : i + 5 ≤ L) (hW : Wd E s H locs μ) (hI : Iv g μ (μ 13)) (hg : g + 28000 < 2 ^ 29) (hl : lv_has ls 4 (LLw E b i))
    (kk : ∀ (μ' : Mu) (H : Heap) (locs : List Loc), Iv (g + 28000) μ' (μ' 13) → Wd E s H locs μ' → W p l e room_1 s m #[.ref b] below meth c H locs 356 6383 Q (F0 m 880 ls [])) : W p l e room_1 s m #[.ref b] below meth c H locs 356 6383 Q (F0 m 729 ls []) := by
  refine lv_aload_n F.1 F.2.1 dL_law_729 rfl (lv_at hl 2 rfl) ?_
  refine lv_aload_n F.1 F.2.1 dL_law_730 rfl (lv_at hl 3 rfl) ?_
  refine lv_iload_n F.1 F.2.1 dL_law_731 rfl (lv_at hl 0 rfl) ?_
  refine lv_iconst (v := 1) F.1 F.2.1 dL_law_732 (by decide) ?_
  refine lv_iadd F.1 F.2.1 dL_law_733 ?_
  refine va_sld F.1 F.2.1 hX hbl hbA hW.2 (vpk1 hi hL) dL_law_734 ?_
  refine lv_i2l F.1 F.2.1 dL_law_735 rfl ?_
  refine lv_bipush (v := 32) F.1 F.2.1 dL_law_736 (by decide) ?_
  refine lv_lshl F.1 F.2.1 dL_law_738 rfl ?_
  refine lv_aload_n F.1 F.2.1 dL_law_739 rfl (lv_at hl 3 rfl) ?_
  refine lv_iload_n F.1 F.2.1 dL_law_740 rfl (lv_at hl 0 rfl) ?_
  refine lv_iconst (v := 2) F.1 F.2.1 dL_law_741 (by decide) ?_
  refine lv_iadd F.1 F.2.1 dL_law_742 ?_
  refine va_sld F.1 F.2.1 hX hbl hbA hW.2 (vpk2 hi hL) dL_law_743 ?_
  refine lv_i2l F.1 F.2.1 dL_law_744 rfl ?_
  refine lv_ldc2 F.1 F.2.1 F.2.2.2.1 (F.2.2.2.2 _ wl_L_94) dL_law_745 ?_
  refine lv_land F.1 F.2.1 dL_law_748 ?_
  refine lv_lor F.1 F.2.1 dL_law_749 ?_
  refine jciG (jrunV (As := [.long (((xs (nI i + 1).toNatClampNeg).toInt64 <<< ((32 : Int32).toInt64 &&& 63)) ||| ((xs (nI i + 2).toNatClampNeg).toInt64 &&& 4294967295))]) (rest := []) F hT hW yc_X6_put yv_X6_put ml_L_96 oH0 (by decide) rfl (c_X6_put l E μ (((xs (nI i + 1).toNatClampNeg).toInt64 <<< ((32 : Int32).toInt64 &&& 63)) ||| ((xs (nI i + 2).toNatClampNeg).toInt64 &&& 4294967295)) hI.wc) rfl hl.1 ⟨Nat.le_of_ble_eq_true rfl, Nat.le_of_ble_eq_true rfl⟩ rfl (Nat.le_of_ble_eq_true rfl) ⟨Nat.le_of_ble_eq_true rfl, Nat.le_of_ble_eq_true rfl⟩ dL_law_750) hW (fun x μ1 H locs ex eμ hW => ?_)
  have st : StR g μ (p_X6_put μ (((xs (nI i + 1).toNatClampNeg).toInt64 <<< ((32 : Int32).toInt64 &&& 63)) ||| ((xs (nI i + 2).toNatClampNeg).toInt64 &&& 4294967295))) (p_X7_put (μ 13) (((xs (nI i + 1).toNatClampNeg).toInt64 <<< ((32 : Int32).toInt64 &&& 63)) ||| ((xs (nI i + 2).toNatClampNeg).toInt64 &&& 4294967295))) := s_put hI
  have h13 : μ1 13 = μ 13 := by rw [eμ]; exact st.2.2
  have hsg : Bn (μ1 13 0 7) 80 := by rw [h13]; exact hI.hsg
  refine lv_aload_n F.1 F.2.1 dL_law_753 rfl (lv_at hl 1 rfl) ?_
  refine lv_aload_n F.1 F.2.1 dL_law_754 rfl (lv_at hl 3 rfl) ?_
  refine lv_iload_n F.1 F.2.1 dL_law_755 rfl (lv_at hl 0 rfl) ?_
  refine lv_iconst (v := 1) F.1 F.2.1 dL_law_756 (by decide) ?_
  refine lv_iadd F.1 F.2.1 dL_law_757 ?_
  refine va_sld F.1 F.2.1 hX hbl hbA hW.2 (vpk1 hi hL) dL_law_758 ?_
  refine lv_i2l F.1 F.2.1 dL_law_759 rfl ?_
  refine lv_bipush (v := 32) F.1 F.2.1 dL_law_760 (by decide) ?_
  refine lv_lshl F.1 F.2.1 dL_law_762 rfl ?_
  refine lv_aload_n F.1 F.2.1 dL_law_763 rfl (lv_at hl 3 rfl) ?_
  refine lv_iload_n F.1 F.2.1 dL_law_764 rfl (lv_at hl 0 rfl) ?_
  refine lv_iconst (v := 2) F.1 F.2.1 dL_law_765 (by decide) ?_
  refine lv_iadd F.1 F.2.1 dL_law_766 ?_
  refine va_sld F.1 F.2.1 hX hbl hbA hW.2 (vpk2 hi hL) dL_law_767 ?_
  refine lv_i2l F.1 F.2.1 dL_law_768 rfl ?_
  refine lv_ldc2 F.1 F.2.1 F.2.2.2.1 (F.2.2.2.2 _ wl_L_94) dL_law_769 ?_
  refine lv_land F.1 F.2.1 dL_law_772 ?_
  refine lv_lor F.1 F.2.1 dL_law_773 ?_
  refine jcif (jrunV (As := [.long (((xs (nI i + 1).toNatClampNeg).toInt64 <<< ((32 : Int32).toInt64 &&& 63)) ||| ((xs (nI i + 2).toNatClampNeg).toInt64 &&& 4294967295))]) (rest := [.int x]) F hT (hW.foc 13) yc_X7_put yv_X7_put ml_L_100 oM0 (by decide) rfl (c_X7_put l E μ1 (μ1 13) (((xs (nI i + 1).toNatClampNeg).toInt64 <<< ((32 : Int32).toInt64 &&& 63)) ||| ((xs (nI i + 2).toNatClampNeg).toInt64 &&& 4294967295)) hsg) rfl hl.1 ⟨Nat.le_of_ble_eq_true rfl, Nat.le_of_ble_eq_true rfl⟩ rfl (Nat.le_of_ble_eq_true rfl) ⟨Nat.le_of_ble_eq_true rfl, Nat.le_of_ble_eq_true rfl⟩ dL_law_774) (hW.foc 13) (fun y S2 H locs ey eS hW => ?_)
  rw [h13] at ey eS
  have hI2 : Iv (g + 28000) μ1 S2 := by rw [eμ, eS]; exact st.2.1
  refine lv_icmp_eq (tgt := 880) F.1 F.2.1 dL_law_777 (by decide) (fun _ => kk _ H locs hI2.at13 hW) (fun hne => absurd ?_ hne)
  rw [ex, ey]
  exact st.1
set_option maxHeartbeats 4000000 in
set_option maxRecDepth 100000 in
theorem law_c20 (F : CallFix p m c code 4 s #[.ref b] TB RL) (hT : Stat E s) (hX : va_X b L xs s s.heap) (hbl : b < s.heap.size) (hbA : ¬ AA E b) (hL : L ≤ 2560) (hi : i + 5 ≤ L) (hW : Wd E s H locs μ) (hI : Iv g μ (μ 13)) (hg : g + 28000 < 2 ^ 29) (hl : lv_has ls 4 (LLw E b i))
    (kk : ∀ (μ' : Mu) (H : Heap) (locs : List Loc), Iv (g + 28000) μ' (μ' 13) → Wd E s H locs μ' → W p l e room_1 s m #[.ref b] below meth c H locs 356 6383 Q (F0 m 880 ls [])) : W p l e room_1 s m #[.ref b] below meth c H locs 356 6383 Q (F0 m 782 ls []) := by
  refine lv_aload_n F.1 F.2.1 dL_law_782 rfl (lv_at hl 2 rfl) ?_
  refine jciG (jrunV (As := []) (rest := []) F hT hW yc_X6_wipe yv_X6_wipe ml_L_101 oH0 (by decide) rfl (c_X6_wipe l E μ hI.wc) rfl hl.1 ⟨Nat.le_of_ble_eq_true rfl, Nat.le_of_ble_eq_true rfl⟩ rfl (Nat.le_of_ble_eq_true rfl) ⟨Nat.le_of_ble_eq_true rfl, Nat.le_of_ble_eq_true rfl⟩ dL_law_783) hW (fun x μ1 H locs ex eμ hW => ?_)
  have st : StR g μ (p_X6_wipe μ) (p_X7_wipe (μ 13)) := s_wipe hI
  have h13 : μ1 13 = μ 13 := by rw [eμ]; exact st.2.2
  refine lv_aload_n F.1 F.2.1 dL_law_786 rfl (lv_at hl 1 rfl) ?_
  refine jcif (jrunV (As := []) (rest := [.int x]) F hT (hW.foc 13) yc_X7_wipe yv_X7_wipe ml_L_104 oM0 (by decide) rfl (c_X7_wipe l E μ1 (μ1 13)) rfl hl.1 ⟨Nat.le_of_ble_eq_true rfl, Nat.le_of_ble_eq_true rfl⟩ rfl (Nat.le_of_ble_eq_true rfl) ⟨Nat.le_of_ble_eq_true rfl, Nat.le_of_ble_eq_true rfl⟩ dL_law_787) (hW.foc 13) (fun y S2 H locs ey eS hW => ?_)
  rw [h13] at ey eS
  have hI2 : Iv (g + 28000) μ1 S2 := by rw [eμ, eS]; exact st.2.1
  refine lv_icmp_eq (tgt := 880) F.1 F.2.1 dL_law_790 (by decide) (fun _ => kk _ H locs hI2.at13 hW) (fun hne => absurd ?_ hne)
  rw [ex, ey]
  exact st.1
set_option maxHeartbeats 4000000 in
set_option maxRecDepth 100000 in
theorem law_c21 (F : CallFix p m c code 4 s #[.ref b] TB RL) (hT : Stat E s) (hX : va_X b L xs s s.heap) (hbl : b < s.heap.size) (hbA : ¬ AA E b) (hL : L ≤ 2560) (hi : i + 5 ≤ L) (hW : Wd E s H locs μ) (hI : Iv g μ (μ 13)) (hg : g + 28000 < 2 ^ 29) (hl : lv_has ls 4 (LLw E b i))
    (kk : ∀ (μ' : Mu) (H : Heap) (locs : List Loc), Iv (g + 28000) μ' (μ' 13) → Wd E s H locs μ' → W p l e room_1 s m #[.ref b] below meth c H locs 356 6383 Q (F0 m 880 ls [])) : W p l e room_1 s m #[.ref b] below meth c H locs 356 6383 Q (F0 m 795 ls []) := by
  refine lv_aload_n F.1 F.2.1 dL_law_795 rfl (lv_at hl 2 rfl) ?_
  refine jcip (jrunV (As := []) (rest := []) F hT hW yc_X6_fault yv_X6_fault ml_L_105 oH0 (by decide) rfl (c_X6_fault l E μ hI.wc) rfl hl.1 ⟨Nat.le_of_ble_eq_true rfl, Nat.le_of_ble_eq_true rfl⟩ rfl (Nat.le_of_ble_eq_true rfl) ⟨Nat.le_of_ble_eq_true rfl, Nat.le_of_ble_eq_true rfl⟩ dL_law_796) hW (fun x H locs ex hW => ?_)
  have st := s_fault hI
  have h13 : μ 13 = μ 13 := rfl
  have hsg : Bn (μ 13 0 7) 80 := by rw [h13]; exact hI.hsg
  refine lv_aload_n F.1 F.2.1 dL_law_799 rfl (lv_at hl 1 rfl) ?_
  refine jcif (jrunV (As := []) (rest := [.int x]) F hT (hW.foc 13) yc_X7_fault yv_X7_fault ml_L_108 oM0 (by decide) rfl (c_X7_fault l E μ (μ 13) hsg) rfl hl.1 ⟨Nat.le_of_ble_eq_true rfl, Nat.le_of_ble_eq_true rfl⟩ rfl (Nat.le_of_ble_eq_true rfl) ⟨Nat.le_of_ble_eq_true rfl, Nat.le_of_ble_eq_true rfl⟩ dL_law_800) (hW.foc 13) (fun y S2 H locs ey eS hW => ?_)
  rw [h13] at ey eS
  have hI2 : Iv (g + 28000) μ S2 := by rw [eS]; exact st.2.1
  refine lv_icmp_eq (tgt := 880) F.1 F.2.1 dL_law_803 (by decide) (fun _ => kk _ H locs hI2.at13 hW) (fun hne => absurd ?_ hne)
  rw [ex, ey]
  exact st.1
set_option maxHeartbeats 4000000 in
set_option maxRecDepth 100000 in
theorem law_c22 (F : CallFix p m c code 4 s #[.ref b] TB RL) (hT : Stat E s) (hX : va_X b L xs s s.heap) (hbl : b < s.heap.size) (hbA : ¬ AA E b) (hL : L ≤ 2560) (hi : i + 5 ≤ L) (hW : Wd E s H locs μ) (hI : Iv g μ (μ 13)) (hg : g + 28000 < 2 ^ 29) (hl : lv_has ls 4 (LLw E b i))
    (kk : ∀ (μ' : Mu) (H : Heap) (locs : List Loc), Iv (g + 28000) μ' (μ' 13) → Wd E s H locs μ' → W p l e room_1 s m #[.ref b] below meth c H locs 356 6383 Q (F0 m 880 ls [])) : W p l e room_1 s m #[.ref b] below meth c H locs 356 6383 Q (F0 m 808 ls []) := by
  refine lv_aload_n F.1 F.2.1 dL_law_808 rfl (lv_at hl 2 rfl) ?_
  refine jciG (jrunV (As := []) (rest := []) F hT hW yc_X6_carryOut yv_X6_carryOut ml_L_109 oH0 (by decide) rfl (c_X6_carryOut l E μ hI.wc) rfl hl.1 ⟨Nat.le_of_ble_eq_true rfl, Nat.le_of_ble_eq_true rfl⟩ rfl (Nat.le_of_ble_eq_true rfl) ⟨Nat.le_of_ble_eq_true rfl, Nat.le_of_ble_eq_true rfl⟩ dL_law_809) hW (fun x μ1 H locs ex eμ hW => ?_)
  have st : StR g μ (p_X6_carryOut μ) (p_X7_carryOut (μ 13)) := s_carryOut hI hg
  have h13 : μ1 13 = μ 13 := by rw [eμ]; exact st.2.2
  have wm : Wm (μ1 13) := by rw [h13]; exact hI.wm
  have hu : Bn (μ1 13 0 3) 6 := by rw [h13]; exact hI.hu
  have hsg : Bn (μ1 13 0 7) 80 := by rw [h13]; exact hI.hsg
  refine lv_aload_n F.1 F.2.1 dL_law_812 rfl (lv_at hl 1 rfl) ?_
  refine jcif (jrunV (As := []) (rest := [.int x]) F hT (hW.foc 13) yc_X7_carryOut yv_X7_carryOut ml_L_112 oM0 (by decide) rfl (c_X7_carryOut l E μ1 (μ1 13) hsg hu wm) rfl hl.1 ⟨Nat.le_of_ble_eq_true rfl, Nat.le_of_ble_eq_true rfl⟩ rfl (Nat.le_of_ble_eq_true rfl) ⟨Nat.le_of_ble_eq_true rfl, Nat.le_of_ble_eq_true rfl⟩ dL_law_813) (hW.foc 13) (fun y S2 H locs ey eS hW => ?_)
  rw [h13] at ey eS
  have hI2 : Iv (g + 28000) μ1 S2 := by rw [eμ, eS]; exact st.2.1
  refine lv_icmp_eq (tgt := 880) F.1 F.2.1 dL_law_816 (by decide) (fun _ => kk _ H locs hI2.at13 hW) (fun hne => absurd ?_ hne)
  rw [ex, ey]
  exact st.1
set_option maxHeartbeats 4000000 in
set_option maxRecDepth 100000 in
theorem law_c23 (F : CallFix p m c code 4 s #[.ref b] TB RL) (hT : Stat E s) (hX : va_X b L xs s s.heap) (hbl : b < s.heap.size) (hbA : ¬ AA E b) (hL : L ≤ 2560) (hi : i + 5 ≤ L) (hW : Wd E s H locs μ) (hI : Iv g μ (μ 13)) (hg : g + 28000 < 2 ^ 29) (hl : lv_has ls 4 (LLw E b i))
    (kk : ∀ (μ' : Mu) (H : Heap) (locs : List Loc), Iv (g + 28000) μ' (μ' 13) → Wd E s H locs μ' → W p l e room_1 s m #[.ref b] below meth c H locs 356 6383 Q (F0 m 880 ls [])) : W p l e room_1 s m #[.ref b] below meth c H locs 356 6383 Q (F0 m 821 ls []) := by
  refine lv_aload_n F.1 F.2.1 dL_law_821 rfl (lv_at hl 2 rfl) ?_
  refine jciG (jrunV (As := []) (rest := []) F hT hW yc_X6_undo yv_X6_undo ml_L_113 oH0 (by decide) rfl (c_X6_undo l E μ hI.wc) rfl hl.1 ⟨Nat.le_of_ble_eq_true rfl, Nat.le_of_ble_eq_true rfl⟩ rfl (Nat.le_of_ble_eq_true rfl) ⟨Nat.le_of_ble_eq_true rfl, Nat.le_of_ble_eq_true rfl⟩ dL_law_822) hW (fun x μ1 H locs ex eμ hW => ?_)
  have st : StR g μ (p_X6_undo μ) (p_X7_undo (μ 13)) := s_undo hI
  have h13 : μ1 13 = μ 13 := by rw [eμ]; exact st.2.2
  have hu : Bn (μ1 13 0 3) 6 := by rw [h13]; exact hI.hu
  refine lv_aload_n F.1 F.2.1 dL_law_825 rfl (lv_at hl 1 rfl) ?_
  refine jcif (jrunV (As := []) (rest := [.int x]) F hT (hW.foc 13) yc_X7_undo yv_X7_undo ml_L_116 oM0 (by decide) rfl (c_X7_undo l E μ1 (μ1 13) hu) rfl hl.1 ⟨Nat.le_of_ble_eq_true rfl, Nat.le_of_ble_eq_true rfl⟩ rfl (Nat.le_of_ble_eq_true rfl) ⟨Nat.le_of_ble_eq_true rfl, Nat.le_of_ble_eq_true rfl⟩ dL_law_826) (hW.foc 13) (fun y S2 H locs ey eS hW => ?_)
  rw [h13] at ey eS
  have hI2 : Iv (g + 28000) μ1 S2 := by rw [eμ, eS]; exact st.2.1
  refine lv_icmp_eq (tgt := 880) F.1 F.2.1 dL_law_829 (by decide) (fun _ => kk _ H locs hI2.at13 hW) (fun hne => absurd ?_ hne)
  rw [ex, ey]
  exact st.1
set_option maxHeartbeats 4000000 in
set_option maxRecDepth 100000 in
theorem law_c24 (F : CallFix p m c code 4 s #[.ref b] TB RL) (hT : Stat E s) (hX : va_X b L xs s s.heap) (hbl : b < s.heap.size) (hbA : ¬ AA E b) (hL : L ≤ 2560) (hi : i + 5 ≤ L) (hW : Wd E s H locs μ) (hI : Iv g μ (μ 13)) (hg : g + 28000 < 2 ^ 29) (hl : lv_has ls 4 (LLw E b i))
    (kk : ∀ (μ' : Mu) (H : Heap) (locs : List Loc), Iv (g + 28000) μ' (μ' 13) → Wd E s H locs μ' → W p l e room_1 s m #[.ref b] below meth c H locs 356 6383 Q (F0 m 880 ls [])) : W p l e room_1 s m #[.ref b] below meth c H locs 356 6383 Q (F0 m 834 ls []) := by
  refine lv_aload_n F.1 F.2.1 dL_law_834 rfl (lv_at hl 2 rfl) ?_
  refine lv_aload_n F.1 F.2.1 dL_law_835 rfl (lv_at hl 3 rfl) ?_
  refine lv_iload_n F.1 F.2.1 dL_law_836 rfl (lv_at hl 0 rfl) ?_
  refine lv_iconst (v := 1) F.1 F.2.1 dL_law_837 (by decide) ?_
  refine lv_iadd F.1 F.2.1 dL_law_838 ?_
  refine va_sld F.1 F.2.1 hX hbl hbA hW.2 (vpk1 hi hL) dL_law_839 ?_
  refine jciG (jrunV (As := [.int (xs (nI i + 1).toNatClampNeg)]) (rest := []) F hT hW yc_X6_save yv_X6_save ml_L_117 oH0 (by decide) rfl (c_X6_save l E μ (xs (nI i + 1).toNatClampNeg) hI.wc) rfl hl.1 ⟨Nat.le_of_ble_eq_true rfl, Nat.le_of_ble_eq_true rfl⟩ rfl (Nat.le_of_ble_eq_true rfl) ⟨Nat.le_of_ble_eq_true rfl, Nat.le_of_ble_eq_true rfl⟩ dL_law_840) hW (fun x μ1 H locs ex eμ hW => ?_)
  have st : StR g μ (p_X6_save μ (xs (nI i + 1).toNatClampNeg)) (p_X7_save (μ 13) (xs (nI i + 1).toNatClampNeg)) := s_save hI
  have h13 : μ1 13 = μ 13 := by rw [eμ]; exact st.2.2
  refine lv_aload_n F.1 F.2.1 dL_law_843 rfl (lv_at hl 1 rfl) ?_
  refine lv_aload_n F.1 F.2.1 dL_law_844 rfl (lv_at hl 3 rfl) ?_
  refine lv_iload_n F.1 F.2.1 dL_law_845 rfl (lv_at hl 0 rfl) ?_
  refine lv_iconst (v := 1) F.1 F.2.1 dL_law_846 (by decide) ?_
  refine lv_iadd F.1 F.2.1 dL_law_847 ?_
  refine va_sld F.1 F.2.1 hX hbl hbA hW.2 (vpk1 hi hL) dL_law_848 ?_
  refine jcif (jrunV (As := [.int (xs (nI i + 1).toNatClampNeg)]) (rest := [.int x]) F hT (hW.foc 13) yc_X7_save yv_X7_save ml_L_120 oM0 (by decide) rfl (c_X7_save l E μ1 (μ1 13) (xs (nI i + 1).toNatClampNeg)) rfl hl.1 ⟨Nat.le_of_ble_eq_true rfl, Nat.le_of_ble_eq_true rfl⟩ rfl (Nat.le_of_ble_eq_true rfl) ⟨Nat.le_of_ble_eq_true rfl, Nat.le_of_ble_eq_true rfl⟩ dL_law_849) (hW.foc 13) (fun y S2 H locs ey eS hW => ?_)
  rw [h13] at ey eS
  have hI2 : Iv (g + 28000) μ1 S2 := by rw [eμ, eS]; exact st.2.1
  refine lv_icmp_eq (tgt := 880) F.1 F.2.1 dL_law_852 (by decide) (fun _ => kk _ H locs hI2.at13 hW) (fun hne => absurd ?_ hne)
  rw [ex, ey]
  exact st.1
set_option maxHeartbeats 4000000 in
set_option maxRecDepth 100000 in
theorem law_c25 (F : CallFix p m c code 4 s #[.ref b] TB RL) (hT : Stat E s) (hX : va_X b L xs s s.heap) (hbl : b < s.heap.size) (hbA : ¬ AA E b) (hL : L ≤ 2560) (hi : i + 5 ≤ L) (hW : Wd E s H locs μ) (hI : Iv g μ (μ 13)) (hg : g + 28000 < 2 ^ 29) (hl : lv_has ls 4 (LLw E b i))
    (kk : ∀ (μ' : Mu) (H : Heap) (locs : List Loc), Iv (g + 28000) μ' (μ' 13) → Wd E s H locs μ' → W p l e room_1 s m #[.ref b] below meth c H locs 356 6383 Q (F0 m 880 ls [])) : W p l e room_1 s m #[.ref b] below meth c H locs 356 6383 Q (F0 m 857 ls []) := by
  refine lv_aload_n F.1 F.2.1 dL_law_857 rfl (lv_at hl 2 rfl) ?_
  refine lv_aload_n F.1 F.2.1 dL_law_858 rfl (lv_at hl 3 rfl) ?_
  refine lv_iload_n F.1 F.2.1 dL_law_859 rfl (lv_at hl 0 rfl) ?_
  refine lv_iconst (v := 1) F.1 F.2.1 dL_law_860 (by decide) ?_
  refine lv_iadd F.1 F.2.1 dL_law_861 ?_
  refine va_sld F.1 F.2.1 hX hbl hbA hW.2 (vpk1 hi hL) dL_law_862 ?_
  refine jciG (jrunV (As := [.int (xs (nI i + 1).toNatClampNeg)]) (rest := []) F hT hW yc_X6_restore yv_X6_restore ml_L_121 oH0 (by decide) rfl (c_X6_restore l E μ (xs (nI i + 1).toNatClampNeg) hI.wc) rfl hl.1 ⟨Nat.le_of_ble_eq_true rfl, Nat.le_of_ble_eq_true rfl⟩ rfl (Nat.le_of_ble_eq_true rfl) ⟨Nat.le_of_ble_eq_true rfl, Nat.le_of_ble_eq_true rfl⟩ dL_law_863) hW (fun x μ1 H locs ex eμ hW => ?_)
  have st : StR g μ (p_X6_restore μ (xs (nI i + 1).toNatClampNeg)) (p_X7_restore (μ 13) (xs (nI i + 1).toNatClampNeg)) := s_restore hI hg
  have h13 : μ1 13 = μ 13 := by rw [eμ]; exact st.2.2
  have hu : Bn (μ1 13 0 3) 6 := by rw [h13]; exact hI.hu
  refine lv_aload_n F.1 F.2.1 dL_law_866 rfl (lv_at hl 1 rfl) ?_
  refine lv_aload_n F.1 F.2.1 dL_law_867 rfl (lv_at hl 3 rfl) ?_
  refine lv_iload_n F.1 F.2.1 dL_law_868 rfl (lv_at hl 0 rfl) ?_
  refine lv_iconst (v := 1) F.1 F.2.1 dL_law_869 (by decide) ?_
  refine lv_iadd F.1 F.2.1 dL_law_870 ?_
  refine va_sld F.1 F.2.1 hX hbl hbA hW.2 (vpk1 hi hL) dL_law_871 ?_
  refine jcif (jrunV (As := [.int (xs (nI i + 1).toNatClampNeg)]) (rest := [.int x]) F hT (hW.foc 13) yc_X7_restore yv_X7_restore ml_L_124 oM0 (by decide) rfl (c_X7_restore l E μ1 (μ1 13) (xs (nI i + 1).toNatClampNeg) hu) rfl hl.1 ⟨Nat.le_of_ble_eq_true rfl, Nat.le_of_ble_eq_true rfl⟩ rfl (Nat.le_of_ble_eq_true rfl) ⟨Nat.le_of_ble_eq_true rfl, Nat.le_of_ble_eq_true rfl⟩ dL_law_872) (hW.foc 13) (fun y S2 H locs ey eS hW => ?_)
  rw [h13] at ey eS
  have hI2 : Iv (g + 28000) μ1 S2 := by rw [eμ, eS]; exact st.2.1
  refine lv_icmp_eq (tgt := 880) F.1 F.2.1 dL_law_875 (by decide) (fun _ => kk _ H locs hI2.at13 hW) (fun hne => absurd ?_ hne)
  rw [ex, ey]
  exact st.1
end LAWC
