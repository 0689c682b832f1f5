/-! THE LAW: its calls -/
set_option maxHeartbeats 4000000 in
set_option maxRecDepth 100000 in
/-- the law: person -/
theorem lw_c0 {p : Program} {l : Launch} {e : Env} {s : State} {m : MethodId} {below : List Frame} {meth : Method} {c : Code} {b L : Nat} {D : va_G} {d : hs_Dm} {cB cL : ClassId} {xs : Nat → Int32} (G : lw_G p l s m meth c b L D d cB cL xs) {n : Nat} (hn5 : 5 * n + 5 ≤ L) {H : Heap} {locs : List Loc} {cells slots : Nat} (hI : lw_I D d cB cL s.heap.size n H) (hS : va_S (rg_A s.heap.size) s.heap H locs) {ls : Array Slot} (hl : lv_has ls 9 [(4, .int (nI (5 * n))), (3, .ref (s.heap.size + 181)), (2, .ref (s.heap.size + 135)), (1, .ref s.heap.size), (0, .ref b)]) (hc : cells + 1426 ≤ room_1.cells ∧ slots + 11421 ≤ room_1.slots) (kk : ∀ (H1 : Heap) (locs1 : List Loc) (ls1 : Array Slot), lw_I D d cB cL s.heap.size (n + 1) H1 → va_S (rg_A s.heap.size) s.heap H1 locs1 → lv_has ls1 9 [(4, .int (nI (5 * n))), (3, .ref (s.heap.size + 181)), (2, .ref (s.heap.size + 135)), (1, .ref s.heap.size), (0, .ref b)] → W p l e room_1 s m #[Value.ref b] below meth c H1 locs1 (cells + 1426) (slots + 11421) (lw_Z below #[Value.ref b] s) (F0 m 1353 ls1 [])) : W p l e room_1 s m #[Value.ref b] below meth c H locs cells slots (lw_Z below #[Value.ref b] s) (F0 m 172 ls []) := by
  obtain ⟨hx, hb, hr, hlocks, hml, hown, hts, hl0, hX, hbl, hK, hKK, hKL, hXE, hN, hL⟩ := id G
  have hts2 : ∀ w ∈ wsL_law, w.before #[Value.ref b] s = true := fun w h => hts w (wsL_law_in w h)
  have hbA : ¬ rg_A s.heap.size b := Nat.not_le.mpr hbl
  have hc1 := hc.1
  have hc2 := hc.2
  obtain ⟨P, F, R, σ, σ2, ρ, th, g, hmr, htr, hJ⟩ := hI
  obtain ⟨x1, hx1⟩ : ∃ x, xs (nI (5 * n) + 1).toNatClampNeg = x := ⟨_, rfl⟩
  obtain ⟨x2, hx2⟩ : ∃ x, xs (nI (5 * n) + 2).toNatClampNeg = x := ⟨_, rfl⟩
  obtain ⟨x3, hx3⟩ : ∃ x, xs (nI (5 * n) + 3).toNatClampNeg = x := ⟨_, rfl⟩
  refine lv_aload_n hx hb dL_law_172 rfl (lv_at hl 3 rfl) ?_
  refine lv_aload_n hx hb dL_law_173 rfl (lv_at hl 4 rfl) ?_
  refine lv_iload hx hb dL_law_174 (lv_at hl 0 rfl) ?_
  refine lv_iconst (v := 1) hx hb dL_law_176 (by decide) ?_
  refine lv_iadd hx hb dL_law_177 ?_
  refine va_sld (i := nI (5 * n) + 1) hx hb hX hbl hbA hS (lw_ix hn5 hL 1 (by decide)) dL_law_178 ?_
  rw [hx1]
  refine lv_aload_n hx hb dL_law_179 rfl (lv_at hl 4 rfl) ?_
  refine lv_iload hx hb dL_law_180 (lv_at hl 0 rfl) ?_
  refine lv_iconst (v := 2) hx hb dL_law_182 (by decide) ?_
  refine lv_iadd hx hb dL_law_183 ?_
  refine va_sld (i := nI (5 * n) + 2) hx hb hX hbl hbA hS (lw_ix hn5 hL 2 (by decide)) dL_law_184 ?_
  rw [hx2]
  refine lv_aload_n hx hb dL_law_185 rfl (lv_at hl 4 rfl) ?_
  refine lv_iload hx hb dL_law_186 (lv_at hl 0 rfl) ?_
  refine lv_iconst (v := 3) hx hb dL_law_188 (by decide) ?_
  refine lv_iadd hx hb dL_law_189 ?_
  refine va_sld (i := nI (5 * n) + 3) hx hb hX hbl hbA hS (lw_ix hn5 hL 3 (by decide)) dL_law_190 ?_
  rw [hx3]
  refine lv_aload_n hx hb dL_law_191 rfl (lv_at hl 1 rfl) ?_
  refine lw_hlp (As := [.ref s.heap.size, .int x1, .int x2, .int x3, .ref (s.heap.size + 181)]) ⟨hx, hb, hml, hown, hts2⟩ (hL_person l D d s.heap.size (rc_L (s.heap.size + 1)) (rc_L (s.heap.size + 68)) σ (lw_A1 s.heap.size) (lw_B1 s.heap.size) (s.heap.size + 181) cL g (fun z => by have z : (s.heap.size + 1 ≤ s.heap.size ∧ s.heap.size < s.heap.size + 68) ∨ s.heap.size = s.heap.size + 181 := z; omega) (fun q h => Or.inl h) (Or.inr rfl) (fun z => by have z : s.heap.size + 1 ≤ s.heap.size + 181 ∧ s.heap.size + 181 < s.heap.size + 68 := z; omega) hl0 P F R hmr.hs x1 x2 x3) (vx_cwSW 5 hts2 gL_law_L_person rfl rfl rfl (by decide +kernel) ⟨Nat.le_of_ble_eq_true rfl, Nat.le_of_ble_eq_true rfl⟩) hK hKL hXE hN hJ hS rfl hl.1 (Nat.le_of_ble_eq_true rfl) dL_law_192 ⟨by omega, by omega⟩ rfl (fun r1 g' H locs hr1 hg0 hJ hS => ?_)
  subst hr1
  refine lv_istore (lv' := [(5, .int ((cl_person P σ x1 x2 x3).1)), (4, .int (nI (5 * n))), (3, .ref (s.heap.size + 181)), (2, .ref (s.heap.size + 135)), (1, .ref s.heap.size), (0, .ref b)]) hx hb dL_law_195 hl (by decide) rfl (fun ls hl => ?_)
  refine lv_aload_n hx hb dL_law_197 rfl (lv_at hl 3 rfl) ?_
  refine lv_aload_n hx hb dL_law_198 rfl (lv_at hl 5 rfl) ?_
  refine lv_iload hx hb dL_law_199 (lv_at hl 1 rfl) ?_
  refine lv_iconst (v := 1) hx hb dL_law_201 (by decide) ?_
  refine lv_iadd hx hb dL_law_202 ?_
  refine va_sld (i := nI (5 * n) + 1) hx hb hX hbl hbA hS (lw_ix hn5 hL 1 (by decide)) dL_law_203 ?_
  rw [hx1]
  refine lv_aload_n hx hb dL_law_204 rfl (lv_at hl 5 rfl) ?_
  refine lv_iload hx hb dL_law_205 (lv_at hl 1 rfl) ?_
  refine lv_iconst (v := 2) hx hb dL_law_207 (by decide) ?_
  refine lv_iadd hx hb dL_law_208 ?_
  refine va_sld (i := nI (5 * n) + 2) hx hb hX hbl hbA hS (lw_ix hn5 hL 2 (by decide)) dL_law_209 ?_
  rw [hx2]
  refine lv_aload_n hx hb dL_law_210 rfl (lv_at hl 5 rfl) ?_
  refine lv_iload hx hb dL_law_211 (lv_at hl 1 rfl) ?_
  refine lv_iconst (v := 3) hx hb dL_law_213 (by decide) ?_
  refine lv_iadd hx hb dL_law_214 ?_
  refine va_sld (i := nI (5 * n) + 3) hx hb hX hbl hbA hS (lw_ix hn5 hL 3 (by decide)) dL_law_215 ?_
  rw [hx3]
  refine lw_ref (As := [.int x1, .int x2, .int x3]) (mc := 0) (ms := 0) ⟨hx, hb, hml, hown, hts2⟩ (kX6_person l D d cB (mL (s.heap.size + 136)) (s.heap.size + 135) th ρ (lw_M s.heap.size H.size) H.size P F R hmr.mh x1 x2 x3) (cwV 3 hts2 gL_law_X6_person rfl rfl rfl (by decide +kernel) ⟨Nat.le_of_ble_eq_true rfl, Nat.le_of_ble_eq_true rfl⟩) hKK hJ hS rfl hl.1 (Nat.le_of_ble_eq_true rfl) dL_law_216 ⟨by omega, by omega⟩ rfl (fun r2 X2 H locs hp hJ hS => ?_)
  refine lv_istore (lv' := [(6, .int r2), (5, .int ((cl_person P σ x1 x2 x3).1)), (4, .int (nI (5 * n))), (3, .ref (s.heap.size + 181)), (2, .ref (s.heap.size + 135)), (1, .ref s.heap.size), (0, .ref b)]) hx hb dL_law_219 hl (by decide) rfl (fun ls hl => ?_)
  refine lv_goto (tgt := 1353) hx hb dL_law_221 (by decide) ?_
  obtain ⟨s1, s2, P', F', R', hR, hmr2⟩ := sim_person hmr hp
  refine W.widen (k := cells + 1426) (n := slots + 11421) (by omega) (by omega) ?_
  exact kk _ _ _ ⟨_, _, _, _, _, _, _, _, hmr2, htr.up hR, hJ⟩ hS (lv_sub hl [2, 3, 4, 5, 6] rfl)
set_option maxHeartbeats 4000000 in
set_option maxRecDepth 100000 in
/-- the law: trend -/
theorem lw_c1 {p : Program} {l : Launch} {e : Env} {s : State} {m : MethodId} {below : List Frame} {meth : Method} {c : Code} {b L : Nat} {D : va_G} {d : hs_Dm} {cB cL : ClassId} {xs : Nat → Int32} (G : lw_G p l s m meth c b L D d cB cL xs) {n : Nat} (hn5 : 5 * n + 5 ≤ L) {H : Heap} {locs : List Loc} {cells slots : Nat} (hI : lw_I D d cB cL s.heap.size n H) (hS : va_S (rg_A s.heap.size) s.heap H locs) {ls : Array Slot} (hl : lv_has ls 9 [(4, .int (nI (5 * n))), (3, .ref (s.heap.size + 181)), (2, .ref (s.heap.size + 135)), (1, .ref s.heap.size), (0, .ref b)]) (hc : cells + 1426 ≤ room_1.cells ∧ slots + 11421 ≤ room_1.slots) (kk : ∀ (H1 : Heap) (locs1 : List Loc) (ls1 : Array Slot), lw_I D d cB cL s.heap.size (n + 1) H1 → va_S (rg_A s.heap.size) s.heap H1 locs1 → lv_has ls1 9 [(4, .int (nI (5 * n))), (3, .ref (s.heap.size + 181)), (2, .ref (s.heap.size + 135)), (1, .ref s.heap.size), (0, .ref b)] → W p l e room_1 s m #[Value.ref b] below meth c H1 locs1 (cells + 1426) (slots + 11421) (lw_Z below #[Value.ref b] s) (F0 m 1353 ls1 [])) : W p l e room_1 s m #[Value.ref b] below meth c H locs cells slots (lw_Z below #[Value.ref b] s) (F0 m 224 ls []) := by
  obtain ⟨hx, hb, hr, hlocks, hml, hown, hts, hl0, hX, hbl, hK, hKK, hKL, hXE, hN, hL⟩ := id G
  have hts2 : ∀ w ∈ wsL_law, w.before #[Value.ref b] s = true := fun w h => hts w (wsL_law_in w h)
  have hbA : ¬ rg_A s.heap.size b := Nat.not_le.mpr hbl
  have hc1 := hc.1
  have hc2 := hc.2
  obtain ⟨P, F, R, σ, σ2, ρ, th, g, hmr, htr, hJ⟩ := hI
  obtain ⟨x1, hx1⟩ : ∃ x, xs (nI (5 * n) + 1).toNatClampNeg = x := ⟨_, rfl⟩
  obtain ⟨x2, hx2⟩ : ∃ x, xs (nI (5 * n) + 2).toNatClampNeg = x := ⟨_, rfl⟩
  obtain ⟨x3, hx3⟩ : ∃ x, xs (nI (5 * n) + 3).toNatClampNeg = x := ⟨_, rfl⟩
  refine lv_aload_n hx hb dL_law_224 rfl (lv_at hl 3 rfl) ?_
  refine lv_aload_n hx hb dL_law_225 rfl (lv_at hl 4 rfl) ?_
  refine lv_iload hx hb dL_law_226 (lv_at hl 0 rfl) ?_
  refine lv_iconst (v := 1) hx hb dL_law_228 (by decide) ?_
  refine lv_iadd hx hb dL_law_229 ?_
  refine va_sld (i := nI (5 * n) + 1) hx hb hX hbl hbA hS (lw_ix hn5 hL 1 (by decide)) dL_law_230 ?_
  rw [hx1]
  refine lv_aload_n hx hb dL_law_231 rfl (lv_at hl 4 rfl) ?_
  refine lv_iload hx hb dL_law_232 (lv_at hl 0 rfl) ?_
  refine lv_iconst (v := 2) hx hb dL_law_234 (by decide) ?_
  refine lv_iadd hx hb dL_law_235 ?_
  refine va_sld (i := nI (5 * n) + 2) hx hb hX hbl hbA hS (lw_ix hn5 hL 2 (by decide)) dL_law_236 ?_
  rw [hx2]
  refine lv_aload_n hx hb dL_law_237 rfl (lv_at hl 4 rfl) ?_
  refine lv_iload hx hb dL_law_238 (lv_at hl 0 rfl) ?_
  refine lv_iconst (v := 3) hx hb dL_law_240 (by decide) ?_
  refine lv_iadd hx hb dL_law_241 ?_
  refine va_sld (i := nI (5 * n) + 3) hx hb hX hbl hbA hS (lw_ix hn5 hL 3 (by decide)) dL_law_242 ?_
  rw [hx3]
  refine lv_aload_n hx hb dL_law_243 rfl (lv_at hl 1 rfl) ?_
  refine lw_hlp (As := [.ref s.heap.size, .int x1, .int x2, .int x3, .ref (s.heap.size + 181)]) ⟨hx, hb, hml, hown, hts2⟩ (hL_trend l D d s.heap.size (rc_L (s.heap.size + 1)) (rc_L (s.heap.size + 68)) σ (lw_A1 s.heap.size) (lw_B1 s.heap.size) (s.heap.size + 181) cL g (fun z => by have z : (s.heap.size + 1 ≤ s.heap.size ∧ s.heap.size < s.heap.size + 68) ∨ s.heap.size = s.heap.size + 181 := z; omega) (fun q h => Or.inl h) (Or.inr rfl) (fun z => by have z : s.heap.size + 1 ≤ s.heap.size + 181 ∧ s.heap.size + 181 < s.heap.size + 68 := z; omega) hl0 P F R hmr.hs x1 x2 x3) (vx_cwSW 5 hts2 gL_law_L_trend rfl rfl rfl (by decide +kernel) ⟨Nat.le_of_ble_eq_true rfl, Nat.le_of_ble_eq_true rfl⟩) hK hKL hXE hN hJ hS rfl hl.1 (Nat.le_of_ble_eq_true rfl) dL_law_244 ⟨by omega, by omega⟩ rfl (fun r1 g' H locs hr1 hg0 hJ hS => ?_)
  subst hr1
  refine lv_istore (lv' := [(5, .int ((cl_trend P σ x1 x2 x3).1)), (4, .int (nI (5 * n))), (3, .ref (s.heap.size + 181)), (2, .ref (s.heap.size + 135)), (1, .ref s.heap.size), (0, .ref b)]) hx hb dL_law_247 hl (by decide) rfl (fun ls hl => ?_)
  refine lv_aload_n hx hb dL_law_249 rfl (lv_at hl 3 rfl) ?_
  refine lv_aload_n hx hb dL_law_250 rfl (lv_at hl 5 rfl) ?_
  refine lv_iload hx hb dL_law_251 (lv_at hl 1 rfl) ?_
  refine lv_iconst (v := 1) hx hb dL_law_253 (by decide) ?_
  refine lv_iadd hx hb dL_law_254 ?_
  refine va_sld (i := nI (5 * n) + 1) hx hb hX hbl hbA hS (lw_ix hn5 hL 1 (by decide)) dL_law_255 ?_
  rw [hx1]
  refine lv_aload_n hx hb dL_law_256 rfl (lv_at hl 5 rfl) ?_
  refine lv_iload hx hb dL_law_257 (lv_at hl 1 rfl) ?_
  refine lv_iconst (v := 2) hx hb dL_law_259 (by decide) ?_
  refine lv_iadd hx hb dL_law_260 ?_
  refine va_sld (i := nI (5 * n) + 2) hx hb hX hbl hbA hS (lw_ix hn5 hL 2 (by decide)) dL_law_261 ?_
  rw [hx2]
  refine lv_aload_n hx hb dL_law_262 rfl (lv_at hl 5 rfl) ?_
  refine lv_iload hx hb dL_law_263 (lv_at hl 1 rfl) ?_
  refine lv_iconst (v := 3) hx hb dL_law_265 (by decide) ?_
  refine lv_iadd hx hb dL_law_266 ?_
  refine va_sld (i := nI (5 * n) + 3) hx hb hX hbl hbA hS (lw_ix hn5 hL 3 (by decide)) dL_law_267 ?_
  rw [hx3]
  refine lw_ref (As := [.int x1, .int x2, .int x3]) (mc := 0) (ms := 0) ⟨hx, hb, hml, hown, hts2⟩ (kX6_trend l D d cB (mL (s.heap.size + 136)) (s.heap.size + 135) th ρ (lw_M s.heap.size H.size) H.size P F R hmr.mh x1 x2 x3) (cwV 3 hts2 gL_law_X6_trend rfl rfl rfl (by decide +kernel) ⟨Nat.le_of_ble_eq_true rfl, Nat.le_of_ble_eq_true rfl⟩) hKK hJ hS rfl hl.1 (Nat.le_of_ble_eq_true rfl) dL_law_268 ⟨by omega, by omega⟩ rfl (fun r2 X2 H locs hp hJ hS => ?_)
  refine lv_istore (lv' := [(6, .int r2), (5, .int ((cl_trend P σ x1 x2 x3).1)), (4, .int (nI (5 * n))), (3, .ref (s.heap.size + 181)), (2, .ref (s.heap.size + 135)), (1, .ref s.heap.size), (0, .ref b)]) hx hb dL_law_271 hl (by decide) rfl (fun ls hl => ?_)
  refine lv_goto (tgt := 1353) hx hb dL_law_273 (by decide) ?_
  obtain ⟨s1, s2, P', F', R', hR, hmr2⟩ := sim_trend hmr hp
  refine W.widen (k := cells + 1426) (n := slots + 11421) (by omega) (by omega) ?_
  exact kk _ _ _ ⟨_, _, _, _, _, _, _, _, hmr2, htr.up hR, hJ⟩ hS (lv_sub hl [2, 3, 4, 5, 6] rfl)
set_option maxHeartbeats 4000000 in
set_option maxRecDepth 100000 in
/-- the law: news -/
theorem lw_c2 {p : Program} {l : Launch} {e : Env} {s : State} {m : MethodId} {below : List Frame} {meth : Method} {c : Code} {b L : Nat} {D : va_G} {d : hs_Dm} {cB cL : ClassId} {xs : Nat → Int32} (G : lw_G p l s m meth c b L D d cB cL xs) {n : Nat} (hn5 : 5 * n + 5 ≤ L) {H : Heap} {locs : List Loc} {cells slots : Nat} (hI : lw_I D d cB cL s.heap.size n H) (hS : va_S (rg_A s.heap.size) s.heap H locs) {ls : Array Slot} (hl : lv_has ls 9 [(4, .int (nI (5 * n))), (3, .ref (s.heap.size + 181)), (2, .ref (s.heap.size + 135)), (1, .ref s.heap.size), (0, .ref b)]) (hc : cells + 1426 ≤ room_1.cells ∧ slots + 11421 ≤ room_1.slots) (kk : ∀ (H1 : Heap) (locs1 : List Loc) (ls1 : Array Slot), lw_I D d cB cL s.heap.size (n + 1) H1 → va_S (rg_A s.heap.size) s.heap H1 locs1 → lv_has ls1 9 [(4, .int (nI (5 * n))), (3, .ref (s.heap.size + 181)), (2, .ref (s.heap.size + 135)), (1, .ref s.heap.size), (0, .ref b)] → W p l e room_1 s m #[Value.ref b] below meth c H1 locs1 (cells + 1426) (slots + 11421) (lw_Z below #[Value.ref b] s) (F0 m 1353 ls1 [])) : W p l e room_1 s m #[Value.ref b] below meth c H locs cells slots (lw_Z below #[Value.ref b] s) (F0 m 276 ls []) := by
  obtain ⟨hx, hb, hr, hlocks, hml, hown, hts, hl0, hX, hbl, hK, hKK, hKL, hXE, hN, hL⟩ := id G
  have hts2 : ∀ w ∈ wsL_law, w.before #[Value.ref b] s = true := fun w h => hts w (wsL_law_in w h)
  have hbA : ¬ rg_A s.heap.size b := Nat.not_le.mpr hbl
  have hc1 := hc.1
  have hc2 := hc.2
  obtain ⟨P, F, R, σ, σ2, ρ, th, g, hmr, htr, hJ⟩ := hI
  obtain ⟨x1, hx1⟩ : ∃ x, xs (nI (5 * n) + 1).toNatClampNeg = x := ⟨_, rfl⟩
  obtain ⟨x2, hx2⟩ : ∃ x, xs (nI (5 * n) + 2).toNatClampNeg = x := ⟨_, rfl⟩
  refine lv_aload_n hx hb dL_law_276 rfl (lv_at hl 3 rfl) ?_
  refine lv_aload_n hx hb dL_law_277 rfl (lv_at hl 4 rfl) ?_
  refine lv_iload hx hb dL_law_278 (lv_at hl 0 rfl) ?_
  refine lv_iconst (v := 1) hx hb dL_law_280 (by decide) ?_
  refine lv_iadd hx hb dL_law_281 ?_
  refine va_sld (i := nI (5 * n) + 1) hx hb hX hbl hbA hS (lw_ix hn5 hL 1 (by decide)) dL_law_282 ?_
  rw [hx1]
  refine lv_aload_n hx hb dL_law_283 rfl (lv_at hl 4 rfl) ?_
  refine lv_iload hx hb dL_law_284 (lv_at hl 0 rfl) ?_
  refine lv_iconst (v := 2) hx hb dL_law_286 (by decide) ?_
  refine lv_iadd hx hb dL_law_287 ?_
  refine va_sld (i := nI (5 * n) + 2) hx hb hX hbl hbA hS (lw_ix hn5 hL 2 (by decide)) dL_law_288 ?_
  rw [hx2]
  refine lv_aload_n hx hb dL_law_289 rfl (lv_at hl 1 rfl) ?_
  refine lw_hlp (As := [.ref s.heap.size, .int x1, .int x2, .ref (s.heap.size + 181)]) ⟨hx, hb, hml, hown, hts2⟩ (hL_news l D d s.heap.size (rc_L (s.heap.size + 1)) (rc_L (s.heap.size + 68)) σ (lw_A1 s.heap.size) (lw_B1 s.heap.size) (s.heap.size + 181) cL g (fun z => by have z : (s.heap.size + 1 ≤ s.heap.size ∧ s.heap.size < s.heap.size + 68) ∨ s.heap.size = s.heap.size + 181 := z; omega) (fun q h => Or.inl h) (Or.inr rfl) (fun z => by have z : s.heap.size + 1 ≤ s.heap.size + 181 ∧ s.heap.size + 181 < s.heap.size + 68 := z; omega) hl0 P F R hmr.hs x1 x2) (vx_cwSW 4 hts2 gL_law_L_news rfl rfl rfl (by decide +kernel) ⟨Nat.le_of_ble_eq_true rfl, Nat.le_of_ble_eq_true rfl⟩) hK hKL hXE hN hJ hS rfl hl.1 (Nat.le_of_ble_eq_true rfl) dL_law_290 ⟨by omega, by omega⟩ rfl (fun r1 g' H locs hr1 hg0 hJ hS => ?_)
  subst hr1
  refine lv_istore (lv' := [(5, .int ((cl_news P σ x1 x2).1)), (4, .int (nI (5 * n))), (3, .ref (s.heap.size + 181)), (2, .ref (s.heap.size + 135)), (1, .ref s.heap.size), (0, .ref b)]) hx hb dL_law_293 hl (by decide) rfl (fun ls hl => ?_)
  refine lv_aload_n hx hb dL_law_295 rfl (lv_at hl 3 rfl) ?_
  refine lv_aload_n hx hb dL_law_296 rfl (lv_at hl 5 rfl) ?_
  refine lv_iload hx hb dL_law_297 (lv_at hl 1 rfl) ?_
  refine lv_iconst (v := 1) hx hb dL_law_299 (by decide) ?_
  refine lv_iadd hx hb dL_law_300 ?_
  refine va_sld (i := nI (5 * n) + 1) hx hb hX hbl hbA hS (lw_ix hn5 hL 1 (by decide)) dL_law_301 ?_
  rw [hx1]
  refine lv_aload_n hx hb dL_law_302 rfl (lv_at hl 5 rfl) ?_
  refine lv_iload hx hb dL_law_303 (lv_at hl 1 rfl) ?_
  refine lv_iconst (v := 2) hx hb dL_law_305 (by decide) ?_
  refine lv_iadd hx hb dL_law_306 ?_
  refine va_sld (i := nI (5 * n) + 2) hx hb hX hbl hbA hS (lw_ix hn5 hL 2 (by decide)) dL_law_307 ?_
  rw [hx2]
  refine lw_ref (As := [.int x1, .int x2]) (mc := 0) (ms := 0) ⟨hx, hb, hml, hown, hts2⟩ (kX6_news l D d cB (mL (s.heap.size + 136)) (s.heap.size + 135) th ρ (lw_M s.heap.size H.size) H.size P F R hmr.mh x1 x2) (cwV 2 hts2 gL_law_X6_news rfl rfl rfl (by decide +kernel) ⟨Nat.le_of_ble_eq_true rfl, Nat.le_of_ble_eq_true rfl⟩) hKK hJ hS rfl hl.1 (Nat.le_of_ble_eq_true rfl) dL_law_308 ⟨by omega, by omega⟩ rfl (fun r2 X2 H locs hp hJ hS => ?_)
  refine lv_istore (lv' := [(6, .int r2), (5, .int ((cl_news P σ x1 x2).1)), (4, .int (nI (5 * n))), (3, .ref (s.heap.size + 181)), (2, .ref (s.heap.size + 135)), (1, .ref s.heap.size), (0, .ref b)]) hx hb dL_law_311 hl (by decide) rfl (fun ls hl => ?_)
  refine lv_goto (tgt := 1353) hx hb dL_law_313 (by decide) ?_
  obtain ⟨s1, s2, P', F', R', hR, hmr2⟩ := sim_news hmr hp
  refine W.widen (k := cells + 1426) (n := slots + 11421) (by omega) (by omega) ?_
  exact kk _ _ _ ⟨_, _, _, _, _, _, _, _, hmr2, htr.up hR, hJ⟩ hS (lv_sub hl [2, 3, 4, 5, 6] rfl)
set_option maxHeartbeats 4000000 in
set_option maxRecDepth 100000 in
/-- the law: consent -/
theorem lw_c3 {p : Program} {l : Launch} {e : Env} {s : State} {m : MethodId} {below : List Frame} {meth : Method} {c : Code} {b L : Nat} {D : va_G} {d : hs_Dm} {cB cL : ClassId} {xs : Nat → Int32} (G : lw_G p l s m meth c b L D d cB cL xs) {n : Nat} (hn5 : 5 * n + 5 ≤ L) {H : Heap} {locs : List Loc} {cells slots : Nat} (hI : lw_I D d cB cL s.heap.size n H) (hS : va_S (rg_A s.heap.size) s.heap H locs) {ls : Array Slot} (hl : lv_has ls 9 [(4, .int (nI (5 * n))), (3, .ref (s.heap.size + 181)), (2, .ref (s.heap.size + 135)), (1, .ref s.heap.size), (0, .ref b)]) (hc : cells + 1426 ≤ room_1.cells ∧ slots + 11421 ≤ room_1.slots) (kk : ∀ (H1 : Heap) (locs1 : List Loc) (ls1 : Array Slot), lw_I D d cB cL s.heap.size (n + 1) H1 → va_S (rg_A s.heap.size) s.heap H1 locs1 → lv_has ls1 9 [(4, .int (nI (5 * n))), (3, .ref (s.heap.size + 181)), (2, .ref (s.heap.size + 135)), (1, .ref s.heap.size), (0, .ref b)] → W p l e room_1 s m #[Value.ref b] below meth c H1 locs1 (cells + 1426) (slots + 11421) (lw_Z below #[Value.ref b] s) (F0 m 1353 ls1 [])) : W p l e room_1 s m #[Value.ref b] below meth c H locs cells slots (lw_Z below #[Value.ref b] s) (F0 m 316 ls []) := by
  obtain ⟨hx, hb, hr, hlocks, hml, hown, hts, hl0, hX, hbl, hK, hKK, hKL, hXE, hN, hL⟩ := id G
  have hts2 : ∀ w ∈ wsL_law, w.before #[Value.ref b] s = true := fun w h => hts w (wsL_law_in w h)
  have hbA : ¬ rg_A s.heap.size b := Nat.not_le.mpr hbl
  have hc1 := hc.1
  have hc2 := hc.2
  obtain ⟨P, F, R, σ, σ2, ρ, th, g, hmr, htr, hJ⟩ := hI
  obtain ⟨x1, hx1⟩ : ∃ x, xs (nI (5 * n) + 1).toNatClampNeg = x := ⟨_, rfl⟩
  obtain ⟨x2, hx2⟩ : ∃ x, xs (nI (5 * n) + 2).toNatClampNeg = x := ⟨_, rfl⟩
  refine lv_aload_n hx hb dL_law_316 rfl (lv_at hl 3 rfl) ?_
  refine lv_aload_n hx hb dL_law_317 rfl (lv_at hl 4 rfl) ?_
  refine lv_iload hx hb dL_law_318 (lv_at hl 0 rfl) ?_
  refine lv_iconst (v := 1) hx hb dL_law_320 (by decide) ?_
  refine lv_iadd hx hb dL_law_321 ?_
  refine va_sld (i := nI (5 * n) + 1) hx hb hX hbl hbA hS (lw_ix hn5 hL 1 (by decide)) dL_law_322 ?_
  rw [hx1]
  refine lv_aload_n hx hb dL_law_323 rfl (lv_at hl 4 rfl) ?_
  refine lv_iload hx hb dL_law_324 (lv_at hl 0 rfl) ?_
  refine lv_iconst (v := 2) hx hb dL_law_326 (by decide) ?_
  refine lv_iadd hx hb dL_law_327 ?_
  refine va_sld (i := nI (5 * n) + 2) hx hb hX hbl hbA hS (lw_ix hn5 hL 2 (by decide)) dL_law_328 ?_
  rw [hx2]
  refine lv_if_eq (tgt := 336) hx hb dL_law_329 (by decide) (fun c_329 => ?_) (fun c_329 => ?_)
  · refine lv_iconst (v := 0) hx hb dL_law_336 (by decide) ?_
    refine lv_aload_n hx hb dL_law_337 rfl (lv_at hl 1 rfl) ?_
    refine lw_hlp (As := [.ref s.heap.size, .int x1, .int 0, .ref (s.heap.size + 181)]) ⟨hx, hb, hml, hown, hts2⟩ (hL_consent l D d s.heap.size (rc_L (s.heap.size + 1)) (rc_L (s.heap.size + 68)) σ (lw_A1 s.heap.size) (lw_B1 s.heap.size) (s.heap.size + 181) cL g (fun z => by have z : (s.heap.size + 1 ≤ s.heap.size ∧ s.heap.size < s.heap.size + 68) ∨ s.heap.size = s.heap.size + 181 := z; omega) (fun q h => Or.inl h) (Or.inr rfl) (fun z => by have z : s.heap.size + 1 ≤ s.heap.size + 181 ∧ s.heap.size + 181 < s.heap.size + 68 := z; omega) hl0 P F R hmr.hs x1 0 (Or.inl rfl)) (vx_cwSW 4 hts2 gL_law_L_consent rfl rfl rfl (by decide +kernel) ⟨Nat.le_of_ble_eq_true rfl, Nat.le_of_ble_eq_true rfl⟩) hK hKL hXE hN hJ hS rfl hl.1 (Nat.le_of_ble_eq_true rfl) dL_law_338 ⟨by omega, by omega⟩ rfl (fun r1 g' H locs hr1 hg0 hJ hS => ?_)
    subst hr1
    refine lv_istore (lv' := [(5, .int ((cl_consent P F σ x1 0).1)), (4, .int (nI (5 * n))), (3, .ref (s.heap.size + 181)), (2, .ref (s.heap.size + 135)), (1, .ref s.heap.size), (0, .ref b)]) hx hb dL_law_341 hl (by decide) rfl (fun ls hl => ?_)
    refine lv_aload_n hx hb dL_law_343 rfl (lv_at hl 3 rfl) ?_
    refine lv_aload_n hx hb dL_law_344 rfl (lv_at hl 5 rfl) ?_
    refine lv_iload hx hb dL_law_345 (lv_at hl 1 rfl) ?_
    refine lv_iconst (v := 1) hx hb dL_law_347 (by decide) ?_
    refine lv_iadd hx hb dL_law_348 ?_
    refine va_sld (i := nI (5 * n) + 1) hx hb hX hbl hbA hS (lw_ix hn5 hL 1 (by decide)) dL_law_349 ?_
    rw [hx1]
    refine lv_aload_n hx hb dL_law_350 rfl (lv_at hl 5 rfl) ?_
    refine lv_iload hx hb dL_law_351 (lv_at hl 1 rfl) ?_
    refine lv_iconst (v := 2) hx hb dL_law_353 (by decide) ?_
    refine lv_iadd hx hb dL_law_354 ?_
    refine va_sld (i := nI (5 * n) + 2) hx hb hX hbl hbA hS (lw_ix hn5 hL 2 (by decide)) dL_law_355 ?_
    rw [hx2]
    refine lv_if_eq (tgt := 363) hx hb dL_law_356 (by decide) (fun c_356 => ?_) (fun c_356 => ?_)
    · refine lv_iconst (v := 0) hx hb dL_law_363 (by decide) ?_
      refine lw_ref (As := [.int x1, .int 0]) (mc := 0) (ms := 0) ⟨hx, hb, hml, hown, hts2⟩ (kX6_consent l D d cB (mL (s.heap.size + 136)) (s.heap.size + 135) th ρ (lw_M s.heap.size H.size) H.size P F R hmr.mh x1 0) (cwV 2 hts2 gL_law_X6_consent rfl rfl rfl (by decide +kernel) ⟨Nat.le_of_ble_eq_true rfl, Nat.le_of_ble_eq_true rfl⟩) hKK hJ hS rfl hl.1 (Nat.le_of_ble_eq_true rfl) dL_law_364 ⟨by omega, by omega⟩ rfl (fun r2 X2 H locs hp hJ hS => ?_)
      refine lv_istore (lv' := [(6, .int r2), (5, .int ((cl_consent P F σ x1 0).1)), (4, .int (nI (5 * n))), (3, .ref (s.heap.size + 181)), (2, .ref (s.heap.size + 135)), (1, .ref s.heap.size), (0, .ref b)]) hx hb dL_law_367 hl (by decide) rfl (fun ls hl => ?_)
      refine lv_goto (tgt := 1353) hx hb dL_law_369 (by decide) ?_
      obtain ⟨s1, s2, P', F', R', hR, hmr2⟩ := sim_consent hmr hp
      refine W.widen (k := cells + 1426) (n := slots + 11421) (by omega) (by omega) ?_
      exact kk _ _ _ ⟨_, _, _, _, _, _, _, _, hmr2, htr.up hR, hJ⟩ hS (lv_sub hl [2, 3, 4, 5, 6] rfl)
    · exact absurd c_329 c_356
  · refine lv_iconst (v := 1) hx hb dL_law_332 (by decide) ?_
    refine lv_goto (tgt := 337) hx hb dL_law_333 (by decide) ?_
    refine lv_aload_n hx hb dL_law_337 rfl (lv_at hl 1 rfl) ?_
    refine lw_hlp (As := [.ref s.heap.size, .int x1, .int 1, .ref (s.heap.size + 181)]) ⟨hx, hb, hml, hown, hts2⟩ (hL_consent l D d s.heap.size (rc_L (s.heap.size + 1)) (rc_L (s.heap.size + 68)) σ (lw_A1 s.heap.size) (lw_B1 s.heap.size) (s.heap.size + 181) cL g (fun z => by have z : (s.heap.size + 1 ≤ s.heap.size ∧ s.heap.size < s.heap.size + 68) ∨ s.heap.size = s.heap.size + 181 := z; omega) (fun q h => Or.inl h) (Or.inr rfl) (fun z => by have z : s.heap.size + 1 ≤ s.heap.size + 181 ∧ s.heap.size + 181 < s.heap.size + 68 := z; omega) hl0 P F R hmr.hs x1 1 (Or.inr rfl)) (vx_cwSW 4 hts2 gL_law_L_consent rfl rfl rfl (by decide +kernel) ⟨Nat.le_of_ble_eq_true rfl, Nat.le_of_ble_eq_true rfl⟩) hK hKL hXE hN hJ hS rfl hl.1 (Nat.le_of_ble_eq_true rfl) dL_law_338 ⟨by omega, by omega⟩ rfl (fun r1 g' H locs hr1 hg0 hJ hS => ?_)
    subst hr1
    refine lv_istore (lv' := [(5, .int ((cl_consent P F σ x1 1).1)), (4, .int (nI (5 * n))), (3, .ref (s.heap.size + 181)), (2, .ref (s.heap.size + 135)), (1, .ref s.heap.size), (0, .ref b)]) hx hb dL_law_341 hl (by decide) rfl (fun ls hl => ?_)
    refine lv_aload_n hx hb dL_law_343 rfl (lv_at hl 3 rfl) ?_
    refine lv_aload_n hx hb dL_law_344 rfl (lv_at hl 5 rfl) ?_
    refine lv_iload hx hb dL_law_345 (lv_at hl 1 rfl) ?_
    refine lv_iconst (v := 1) hx hb dL_law_347 (by decide) ?_
    refine lv_iadd hx hb dL_law_348 ?_
    refine va_sld (i := nI (5 * n) + 1) hx hb hX hbl hbA hS (lw_ix hn5 hL 1 (by decide)) dL_law_349 ?_
    rw [hx1]
    refine lv_aload_n hx hb dL_law_350 rfl (lv_at hl 5 rfl) ?_
    refine lv_iload hx hb dL_law_351 (lv_at hl 1 rfl) ?_
    refine lv_iconst (v := 2) hx hb dL_law_353 (by decide) ?_
    refine lv_iadd hx hb dL_law_354 ?_
    refine va_sld (i := nI (5 * n) + 2) hx hb hX hbl hbA hS (lw_ix hn5 hL 2 (by decide)) dL_law_355 ?_
    rw [hx2]
    refine lv_if_eq (tgt := 363) hx hb dL_law_356 (by decide) (fun c_356 => ?_) (fun c_356 => ?_)
    · exact absurd c_356 c_329
    · refine lv_iconst (v := 1) hx hb dL_law_359 (by decide) ?_
      refine lv_goto (tgt := 364) hx hb dL_law_360 (by decide) ?_
      refine lw_ref (As := [.int x1, .int 1]) (mc := 0) (ms := 0) ⟨hx, hb, hml, hown, hts2⟩ (kX6_consent l D d cB (mL (s.heap.size + 136)) (s.heap.size + 135) th ρ (lw_M s.heap.size H.size) H.size P F R hmr.mh x1 1) (cwV 2 hts2 gL_law_X6_consent rfl rfl rfl (by decide +kernel) ⟨Nat.le_of_ble_eq_true rfl, Nat.le_of_ble_eq_true rfl⟩) hKK hJ hS rfl hl.1 (Nat.le_of_ble_eq_true rfl) dL_law_364 ⟨by omega, by omega⟩ rfl (fun r2 X2 H locs hp hJ hS => ?_)
      refine lv_istore (lv' := [(6, .int r2), (5, .int ((cl_consent P F σ x1 1).1)), (4, .int (nI (5 * n))), (3, .ref (s.heap.size + 181)), (2, .ref (s.heap.size + 135)), (1, .ref s.heap.size), (0, .ref b)]) hx hb dL_law_367 hl (by decide) rfl (fun ls hl => ?_)
      refine lv_goto (tgt := 1353) hx hb dL_law_369 (by decide) ?_
      obtain ⟨s1, s2, P', F', R', hR, hmr2⟩ := sim_consent hmr hp
      refine W.widen (k := cells + 1426) (n := slots + 11421) (by omega) (by omega) ?_
      exact kk _ _ _ ⟨_, _, _, _, _, _, _, _, hmr2, htr.up hR, hJ⟩ hS (lv_sub hl [2, 3, 4, 5, 6] rfl)
set_option maxHeartbeats 4000000 in
set_option maxRecDepth 100000 in
/-- the law: measure -/
theorem lw_c4 {p : Program} {l : Launch} {e : Env} {s : State} {m : MethodId} {below : List Frame} {meth : Method} {c : Code} {b L : Nat} {D : va_G} {d : hs_Dm} {cB cL : ClassId} {xs : Nat → Int32} (G : lw_G p l s m meth c b L D d cB cL xs) {n : Nat} (hn5 : 5 * n + 5 ≤ L) {H : Heap} {locs : List Loc} {cells slots : Nat} (hI : lw_I D d cB cL s.heap.size n H) (hS : va_S (rg_A s.heap.size) s.heap H locs) {ls : Array Slot} (hl : lv_has ls 9 [(4, .int (nI (5 * n))), (3, .ref (s.heap.size + 181)), (2, .ref (s.heap.size + 135)), (1, .ref s.heap.size), (0, .ref b)]) (hc : cells + 1426 ≤ room_1.cells ∧ slots + 11421 ≤ room_1.slots) (kk : ∀ (H1 : Heap) (locs1 : List Loc) (ls1 : Array Slot), lw_I D d cB cL s.heap.size (n + 1) H1 → va_S (rg_A s.heap.size) s.heap H1 locs1 → lv_has ls1 9 [(4, .int (nI (5 * n))), (3, .ref (s.heap.size + 181)), (2, .ref (s.heap.size + 135)), (1, .ref s.heap.size), (0, .ref b)] → W p l e room_1 s m #[Value.ref b] below meth c H1 locs1 (cells + 1426) (slots + 11421) (lw_Z below #[Value.ref b] s) (F0 m 1353 ls1 [])) : W p l e room_1 s m #[Value.ref b] below meth c H locs cells slots (lw_Z below #[Value.ref b] s) (F0 m 372 ls []) := by
  obtain ⟨hx, hb, hr, hlocks, hml, hown, hts, hl0, hX, hbl, hK, hKK, hKL, hXE, hN, hL⟩ := id G
  have hts2 : ∀ w ∈ wsL_law, w.before #[Value.ref b] s = true := fun w h => hts w (wsL_law_in w h)
  have hbA : ¬ rg_A s.heap.size b := Nat.not_le.mpr hbl
  have hc1 := hc.1
  have hc2 := hc.2
  obtain ⟨P, F, R, σ, σ2, ρ, th, g, hmr, htr, hJ⟩ := hI
  obtain ⟨x1, hx1⟩ : ∃ x, xs (nI (5 * n) + 1).toNatClampNeg = x := ⟨_, rfl⟩
  obtain ⟨x2, hx2⟩ : ∃ x, xs (nI (5 * n) + 2).toNatClampNeg = x := ⟨_, rfl⟩
  obtain ⟨x3, hx3⟩ : ∃ x, xs (nI (5 * n) + 3).toNatClampNeg = x := ⟨_, rfl⟩
  obtain ⟨x4, hx4⟩ : ∃ x, xs (nI (5 * n) + 4).toNatClampNeg = x := ⟨_, rfl⟩
  refine lv_aload_n hx hb dL_law_372 rfl (lv_at hl 3 rfl) ?_
  refine lv_aload_n hx hb dL_law_373 rfl (lv_at hl 4 rfl) ?_
  refine lv_iload hx hb dL_law_374 (lv_at hl 0 rfl) ?_
  refine lv_iconst (v := 1) hx hb dL_law_376 (by decide) ?_
  refine lv_iadd hx hb dL_law_377 ?_
  refine va_sld (i := nI (5 * n) + 1) hx hb hX hbl hbA hS (lw_ix hn5 hL 1 (by decide)) dL_law_378 ?_
  rw [hx1]
  refine lv_aload_n hx hb dL_law_379 rfl (lv_at hl 4 rfl) ?_
  refine lv_iload hx hb dL_law_380 (lv_at hl 0 rfl) ?_
  refine lv_iconst (v := 2) hx hb dL_law_382 (by decide) ?_
  refine lv_iadd hx hb dL_law_383 ?_
  refine va_sld (i := nI (5 * n) + 2) hx hb hX hbl hbA hS (lw_ix hn5 hL 2 (by decide)) dL_law_384 ?_
  rw [hx2]
  refine lv_aload_n hx hb dL_law_385 rfl (lv_at hl 4 rfl) ?_
  refine lv_iload hx hb dL_law_386 (lv_at hl 0 rfl) ?_
  refine lv_iconst (v := 3) hx hb dL_law_388 (by decide) ?_
  refine lv_iadd hx hb dL_law_389 ?_
  refine va_sld (i := nI (5 * n) + 3) hx hb hX hbl hbA hS (lw_ix hn5 hL 3 (by decide)) dL_law_390 ?_
  rw [hx3]
  refine lv_aload_n hx hb dL_law_391 rfl (lv_at hl 4 rfl) ?_
  refine lv_iload hx hb dL_law_392 (lv_at hl 0 rfl) ?_
  refine lv_iconst (v := 4) hx hb dL_law_394 (by decide) ?_
  refine lv_iadd hx hb dL_law_395 ?_
  refine va_sld (i := nI (5 * n) + 4) hx hb hX hbl hbA hS (lw_ix hn5 hL 4 (by decide)) dL_law_396 ?_
  rw [hx4]
  refine lv_aload_n hx hb dL_law_397 rfl (lv_at hl 1 rfl) ?_
  refine lw_hlp (As := [.ref s.heap.size, .int x1, .int x2, .int x3, .int x4, .ref (s.heap.size + 181)]) ⟨hx, hb, hml, hown, hts2⟩ (hL_measure l D d s.heap.size (rc_L (s.heap.size + 1)) (rc_L (s.heap.size + 68)) σ (lw_A1 s.heap.size) (lw_B1 s.heap.size) (s.heap.size + 181) cL g (fun z => by have z : (s.heap.size + 1 ≤ s.heap.size ∧ s.heap.size < s.heap.size + 68) ∨ s.heap.size = s.heap.size + 181 := z; omega) (fun q h => Or.inl h) (Or.inr rfl) (fun z => by have z : s.heap.size + 1 ≤ s.heap.size + 181 ∧ s.heap.size + 181 < s.heap.size + 68 := z; omega) hl0 P F R hmr.hs x1 x2 x3 x4) (vx_cwSW 6 hts2 gL_law_L_measure rfl rfl rfl (by decide +kernel) ⟨Nat.le_of_ble_eq_true rfl, Nat.le_of_ble_eq_true rfl⟩) hK hKL hXE hN hJ hS rfl hl.1 (Nat.le_of_ble_eq_true rfl) dL_law_398 ⟨by omega, by omega⟩ rfl (fun r1 g' H locs hr1 hg0 hJ hS => ?_)
  subst hr1
  refine lv_istore (lv' := [(5, .int ((cl_measure P σ x1 x2 x3 x4).1)), (4, .int (nI (5 * n))), (3, .ref (s.heap.size + 181)), (2, .ref (s.heap.size + 135)), (1, .ref s.heap.size), (0, .ref b)]) hx hb dL_law_401 hl (by decide) rfl (fun ls hl => ?_)
  refine lv_aload_n hx hb dL_law_403 rfl (lv_at hl 3 rfl) ?_
  refine lv_aload_n hx hb dL_law_404 rfl (lv_at hl 5 rfl) ?_
  refine lv_iload hx hb dL_law_405 (lv_at hl 1 rfl) ?_
  refine lv_iconst (v := 1) hx hb dL_law_407 (by decide) ?_
  refine lv_iadd hx hb dL_law_408 ?_
  refine va_sld (i := nI (5 * n) + 1) hx hb hX hbl hbA hS (lw_ix hn5 hL 1 (by decide)) dL_law_409 ?_
  rw [hx1]
  refine lv_aload_n hx hb dL_law_410 rfl (lv_at hl 5 rfl) ?_
  refine lv_iload hx hb dL_law_411 (lv_at hl 1 rfl) ?_
  refine lv_iconst (v := 2) hx hb dL_law_413 (by decide) ?_
  refine lv_iadd hx hb dL_law_414 ?_
  refine va_sld (i := nI (5 * n) + 2) hx hb hX hbl hbA hS (lw_ix hn5 hL 2 (by decide)) dL_law_415 ?_
  rw [hx2]
  refine lv_aload_n hx hb dL_law_416 rfl (lv_at hl 5 rfl) ?_
  refine lv_iload hx hb dL_law_417 (lv_at hl 1 rfl) ?_
  refine lv_iconst (v := 3) hx hb dL_law_419 (by decide) ?_
  refine lv_iadd hx hb dL_law_420 ?_
  refine va_sld (i := nI (5 * n) + 3) hx hb hX hbl hbA hS (lw_ix hn5 hL 3 (by decide)) dL_law_421 ?_
  rw [hx3]
  refine lv_aload_n hx hb dL_law_422 rfl (lv_at hl 5 rfl) ?_
  refine lv_iload hx hb dL_law_423 (lv_at hl 1 rfl) ?_
  refine lv_iconst (v := 4) hx hb dL_law_425 (by decide) ?_
  refine lv_iadd hx hb dL_law_426 ?_
  refine va_sld (i := nI (5 * n) + 4) hx hb hX hbl hbA hS (lw_ix hn5 hL 4 (by decide)) dL_law_427 ?_
  rw [hx4]
  refine lw_ref (As := [.int x1, .int x2, .int x3, .int x4]) (mc := 0) (ms := 0) ⟨hx, hb, hml, hown, hts2⟩ (kX6_measure l D d cB (mL (s.heap.size + 136)) (s.heap.size + 135) th ρ (lw_M s.heap.size H.size) H.size P F R hmr.mh x1 x2 x3 x4) (cwV 4 hts2 gL_law_X6_measure rfl rfl rfl (by decide +kernel) ⟨Nat.le_of_ble_eq_true rfl, Nat.le_of_ble_eq_true rfl⟩) hKK hJ hS rfl hl.1 (Nat.le_of_ble_eq_true rfl) dL_law_428 ⟨by omega, by omega⟩ rfl (fun r2 X2 H locs hp hJ hS => ?_)
  refine lv_istore (lv' := [(6, .int r2), (5, .int ((cl_measure P σ x1 x2 x3 x4).1)), (4, .int (nI (5 * n))), (3, .ref (s.heap.size + 181)), (2, .ref (s.heap.size + 135)), (1, .ref s.heap.size), (0, .ref b)]) hx hb dL_law_431 hl (by decide) rfl (fun ls hl => ?_)
  refine lv_goto (tgt := 1353) hx hb dL_law_433 (by decide) ?_
  obtain ⟨s1, s2, P', F', R', hR, hmr2⟩ := sim_measure hmr hp
  refine W.widen (k := cells + 1426) (n := slots + 11421) (by omega) (by omega) ?_
  exact kk _ _ _ ⟨_, _, _, _, _, _, _, _, hmr2, htr.up hR, hJ⟩ hS (lv_sub hl [2, 3, 4, 5, 6] rfl)
set_option maxHeartbeats 4000000 in
set_option maxRecDepth 100000 in
/-- the law: pay -/
theorem lw_c5 {p : Program} {l : Launch} {e : Env} {s : State} {m : MethodId} {below : List Frame} {meth : Method} {c : Code} {b L : Nat} {D : va_G} {d : hs_Dm} {cB cL : ClassId} {xs : Nat → Int32} (G : lw_G p l s m meth c b L D d cB cL xs) {n : Nat} (hn5 : 5 * n + 5 ≤ L) {H : Heap} {locs : List Loc} {cells slots : Nat} (hI : lw_I D d cB cL s.heap.size n H) (hS : va_S (rg_A s.heap.size) s.heap H locs) {ls : Array Slot} (hl : lv_has ls 9 [(4, .int (nI (5 * n))), (3, .ref (s.heap.size + 181)), (2, .ref (s.heap.size + 135)), (1, .ref s.heap.size), (0, .ref b)]) (hc : cells + 1426 ≤ room_1.cells ∧ slots + 11421 ≤ room_1.slots) (kk : ∀ (H1 : Heap) (locs1 : List Loc) (ls1 : Array Slot), lw_I D d cB cL s.heap.size (n + 1) H1 → va_S (rg_A s.heap.size) s.heap H1 locs1 → lv_has ls1 9 [(4, .int (nI (5 * n))), (3, .ref (s.heap.size + 181)), (2, .ref (s.heap.size + 135)), (1, .ref s.heap.size), (0, .ref b)] → W p l e room_1 s m #[Value.ref b] below meth c H1 locs1 (cells + 1426) (slots + 11421) (lw_Z below #[Value.ref b] s) (F0 m 1353 ls1 [])) : W p l e room_1 s m #[Value.ref b] below meth c H locs cells slots (lw_Z below #[Value.ref b] s) (F0 m 436 ls []) := by
  obtain ⟨hx, hb, hr, hlocks, hml, hown, hts, hl0, hX, hbl, hK, hKK, hKL, hXE, hN, hL⟩ := id G
  have hts2 : ∀ w ∈ wsL_law, w.before #[Value.ref b] s = true := fun w h => hts w (wsL_law_in w h)
  have hbA : ¬ rg_A s.heap.size b := Nat.not_le.mpr hbl
  have hc1 := hc.1
  have hc2 := hc.2
  obtain ⟨P, F, R, σ, σ2, ρ, th, g, hmr, htr, hJ⟩ := hI
  obtain ⟨x1, hx1⟩ : ∃ x, xs (nI (5 * n) + 1).toNatClampNeg = x := ⟨_, rfl⟩
  refine lv_aload_n hx hb dL_law_436 rfl (lv_at hl 3 rfl) ?_
  refine lv_aload_n hx hb dL_law_437 rfl (lv_at hl 4 rfl) ?_
  refine lv_iload hx hb dL_law_438 (lv_at hl 0 rfl) ?_
  refine lv_iconst (v := 1) hx hb dL_law_440 (by decide) ?_
  refine lv_iadd hx hb dL_law_441 ?_
  refine va_sld (i := nI (5 * n) + 1) hx hb hX hbl hbA hS (lw_ix hn5 hL 1 (by decide)) dL_law_442 ?_
  rw [hx1]
  refine lv_aload_n hx hb dL_law_443 rfl (lv_at hl 1 rfl) ?_
  refine lw_hlp (As := [.ref s.heap.size, .int x1, .ref (s.heap.size + 181)]) ⟨hx, hb, hml, hown, hts2⟩ (hL_pay l D d s.heap.size (rc_L (s.heap.size + 1)) (rc_L (s.heap.size + 68)) σ (lw_A1 s.heap.size) (lw_B1 s.heap.size) (s.heap.size + 181) cL g (fun z => by have z : (s.heap.size + 1 ≤ s.heap.size ∧ s.heap.size < s.heap.size + 68) ∨ s.heap.size = s.heap.size + 181 := z; omega) (fun q h => Or.inl h) (Or.inr rfl) (fun z => by have z : s.heap.size + 1 ≤ s.heap.size + 181 ∧ s.heap.size + 181 < s.heap.size + 68 := z; omega) hl0 P F R hmr.hs x1) (vx_cwSW 3 hts2 gL_law_L_pay rfl rfl rfl (by decide +kernel) ⟨Nat.le_of_ble_eq_true rfl, Nat.le_of_ble_eq_true rfl⟩) hK hKL hXE hN hJ hS rfl hl.1 (Nat.le_of_ble_eq_true rfl) dL_law_444 ⟨by omega, by omega⟩ rfl (fun r1 g' H locs hr1 hg0 hJ hS => ?_)
  subst hr1
  refine lv_istore (lv' := [(5, .int ((cl_pay P σ x1).1)), (4, .int (nI (5 * n))), (3, .ref (s.heap.size + 181)), (2, .ref (s.heap.size + 135)), (1, .ref s.heap.size), (0, .ref b)]) hx hb dL_law_447 hl (by decide) rfl (fun ls hl => ?_)
  refine lv_aload_n hx hb dL_law_449 rfl (lv_at hl 3 rfl) ?_
  refine lv_aload_n hx hb dL_law_450 rfl (lv_at hl 5 rfl) ?_
  refine lv_iload hx hb dL_law_451 (lv_at hl 1 rfl) ?_
  refine lv_iconst (v := 1) hx hb dL_law_453 (by decide) ?_
  refine lv_iadd hx hb dL_law_454 ?_
  refine va_sld (i := nI (5 * n) + 1) hx hb hX hbl hbA hS (lw_ix hn5 hL 1 (by decide)) dL_law_455 ?_
  rw [hx1]
  refine lw_ref (As := [.int x1]) (mc := 0) (ms := 0) ⟨hx, hb, hml, hown, hts2⟩ (kX6_pay l D d cB (mL (s.heap.size + 136)) (s.heap.size + 135) th ρ (lw_M s.heap.size H.size) H.size P F R hmr.mh x1) (cwV 1 hts2 gL_law_X6_pay rfl rfl rfl (by decide +kernel) ⟨Nat.le_of_ble_eq_true rfl, Nat.le_of_ble_eq_true rfl⟩) hKK hJ hS rfl hl.1 (Nat.le_of_ble_eq_true rfl) dL_law_456 ⟨by omega, by omega⟩ rfl (fun r2 X2 H locs hp hJ hS => ?_)
  refine lv_istore (lv' := [(6, .int r2), (5, .int ((cl_pay P σ x1).1)), (4, .int (nI (5 * n))), (3, .ref (s.heap.size + 181)), (2, .ref (s.heap.size + 135)), (1, .ref s.heap.size), (0, .ref b)]) hx hb dL_law_459 hl (by decide) rfl (fun ls hl => ?_)
  refine lv_goto (tgt := 1353) hx hb dL_law_461 (by decide) ?_
  obtain ⟨s1, s2, P', F', R', hR, hmr2⟩ := sim_pay hmr hp
  refine W.widen (k := cells + 1426) (n := slots + 11421) (by omega) (by omega) ?_
  exact kk _ _ _ ⟨_, _, _, _, _, _, _, _, hmr2, htr.up hR, hJ⟩ hS (lv_sub hl [2, 3, 4, 5, 6] rfl)
set_option maxHeartbeats 4000000 in
set_option maxRecDepth 100000 in
/-- the law: figure -/
theorem lw_c6 {p : Program} {l : Launch} {e : Env} {s : State} {m : MethodId} {below : List Frame} {meth : Method} {c : Code} {b L : Nat} {D : va_G} {d : hs_Dm} {cB cL : ClassId} {xs : Nat → Int32} (G : lw_G p l s m meth c b L D d cB cL xs) {n : Nat} (hn5 : 5 * n + 5 ≤ L) {H : Heap} {locs : List Loc} {cells slots : Nat} (hI : lw_I D d cB cL s.heap.size n H) (hS : va_S (rg_A s.heap.size) s.heap H locs) {ls : Array Slot} (hl : lv_has ls 9 [(4, .int (nI (5 * n))), (3, .ref (s.heap.size + 181)), (2, .ref (s.heap.size + 135)), (1, .ref s.heap.size), (0, .ref b)]) (hc : cells + 1426 ≤ room_1.cells ∧ slots + 11421 ≤ room_1.slots) (kk : ∀ (H1 : Heap) (locs1 : List Loc) (ls1 : Array Slot), lw_I D d cB cL s.heap.size (n + 1) H1 → va_S (rg_A s.heap.size) s.heap H1 locs1 → lv_has ls1 9 [(4, .int (nI (5 * n))), (3, .ref (s.heap.size + 181)), (2, .ref (s.heap.size + 135)), (1, .ref s.heap.size), (0, .ref b)] → W p l e room_1 s m #[Value.ref b] below meth c H1 locs1 (cells + 1426) (slots + 11421) (lw_Z below #[Value.ref b] s) (F0 m 1353 ls1 [])) : W p l e room_1 s m #[Value.ref b] below meth c H locs cells slots (lw_Z below #[Value.ref b] s) (F0 m 464 ls []) := by
  obtain ⟨hx, hb, hr, hlocks, hml, hown, hts, hl0, hX, hbl, hK, hKK, hKL, hXE, hN, hL⟩ := id G
  have hts2 : ∀ w ∈ wsL_law, w.before #[Value.ref b] s = true := fun w h => hts w (wsL_law_in w h)
  have hbA : ¬ rg_A s.heap.size b := Nat.not_le.mpr hbl
  have hc1 := hc.1
  have hc2 := hc.2
  obtain ⟨P, F, R, σ, σ2, ρ, th, g, hmr, htr, hJ⟩ := hI
  obtain ⟨x1, hx1⟩ : ∃ x, xs (nI (5 * n) + 1).toNatClampNeg = x := ⟨_, rfl⟩
  refine lv_aload_n hx hb dL_law_464 rfl (lv_at hl 3 rfl) ?_
  refine lv_aload_n hx hb dL_law_465 rfl (lv_at hl 4 rfl) ?_
  refine lv_iload hx hb dL_law_466 (lv_at hl 0 rfl) ?_
  refine lv_iconst (v := 1) hx hb dL_law_468 (by decide) ?_
  refine lv_iadd hx hb dL_law_469 ?_
  refine va_sld (i := nI (5 * n) + 1) hx hb hX hbl hbA hS (lw_ix hn5 hL 1 (by decide)) dL_law_470 ?_
  rw [hx1]
  refine lv_aload_n hx hb dL_law_471 rfl (lv_at hl 1 rfl) ?_
  refine lw_hlp (As := [.ref s.heap.size, .int x1, .ref (s.heap.size + 181)]) ⟨hx, hb, hml, hown, hts2⟩ (hL_figure l D d s.heap.size (rc_L (s.heap.size + 1)) (rc_L (s.heap.size + 68)) σ (lw_A1 s.heap.size) (lw_B1 s.heap.size) (s.heap.size + 181) cL g (fun z => by have z : (s.heap.size + 1 ≤ s.heap.size ∧ s.heap.size < s.heap.size + 68) ∨ s.heap.size = s.heap.size + 181 := z; omega) (fun q h => Or.inl h) (Or.inr rfl) (fun z => by have z : s.heap.size + 1 ≤ s.heap.size + 181 ∧ s.heap.size + 181 < s.heap.size + 68 := z; omega) hl0 P F R hmr.hs x1) (vx_cwSW 3 hts2 gL_law_L_figure rfl rfl rfl (by decide +kernel) ⟨Nat.le_of_ble_eq_true rfl, Nat.le_of_ble_eq_true rfl⟩) hK hKL hXE hN hJ hS rfl hl.1 (Nat.le_of_ble_eq_true rfl) dL_law_472 ⟨by omega, by omega⟩ rfl (fun r1 g' H locs hr1 hg0 hJ hS => ?_)
  subst hr1
  refine lv_istore (lv' := [(5, .int ((cl_figure P F σ x1).1)), (4, .int (nI (5 * n))), (3, .ref (s.heap.size + 181)), (2, .ref (s.heap.size + 135)), (1, .ref s.heap.size), (0, .ref b)]) hx hb dL_law_475 hl (by decide) rfl (fun ls hl => ?_)
  refine lv_aload_n hx hb dL_law_477 rfl (lv_at hl 3 rfl) ?_
  refine lv_aload_n hx hb dL_law_478 rfl (lv_at hl 5 rfl) ?_
  refine lv_iload hx hb dL_law_479 (lv_at hl 1 rfl) ?_
  refine lv_iconst (v := 1) hx hb dL_law_481 (by decide) ?_
  refine lv_iadd hx hb dL_law_482 ?_
  refine va_sld (i := nI (5 * n) + 1) hx hb hX hbl hbA hS (lw_ix hn5 hL 1 (by decide)) dL_law_483 ?_
  rw [hx1]
  refine lw_ref (As := [.int x1]) (mc := 2) (ms := 18) ⟨hx, hb, hml, hown, hts2⟩ (kX6_figure l D d cB (mL (s.heap.size + 136)) (s.heap.size + 135) th ρ (lw_M s.heap.size H.size) H.size P F R hmr.mh x1 (fun q h => Or.inr h)) (cwV 1 hts2 gL_law_X6_figure rfl rfl rfl (by decide +kernel) ⟨Nat.le_of_ble_eq_true rfl, Nat.le_of_ble_eq_true rfl⟩) hKK hJ hS rfl hl.1 (Nat.le_of_ble_eq_true rfl) dL_law_484 ⟨by omega, by omega⟩ rfl (fun r2 X2 H locs hp hJ hS => ?_)
  refine lv_istore (lv' := [(6, .int r2), (5, .int ((cl_figure P F σ x1).1)), (4, .int (nI (5 * n))), (3, .ref (s.heap.size + 181)), (2, .ref (s.heap.size + 135)), (1, .ref s.heap.size), (0, .ref b)]) hx hb dL_law_487 hl (by decide) rfl (fun ls hl => ?_)
  refine lv_goto (tgt := 1353) hx hb dL_law_489 (by decide) ?_
  obtain ⟨s1, s2, P', F', R', hR, hmr2⟩ := sim_figure hmr hp
  refine W.widen (k := cells + 1426) (n := slots + 11421) (by omega) (by omega) ?_
  exact kk _ _ _ ⟨_, _, _, _, _, _, _, _, hmr2, htr.up hR, hJ⟩ hS (lv_sub hl [2, 3, 4, 5, 6] rfl)
set_option maxHeartbeats 4000000 in
set_option maxRecDepth 100000 in
/-- the law: work -/
theorem lw_c7 {p : Program} {l : Launch} {e : Env} {s : State} {m : MethodId} {below : List Frame} {meth : Method} {c : Code} {b L : Nat} {D : va_G} {d : hs_Dm} {cB cL : ClassId} {xs : Nat → Int32} (G : lw_G p l s m meth c b L D d cB cL xs) {n : Nat} (hn5 : 5 * n + 5 ≤ L) {H : Heap} {locs : List Loc} {cells slots : Nat} (hI : lw_I D d cB cL s.heap.size n H) (hS : va_S (rg_A s.heap.size) s.heap H locs) {ls : Array Slot} (hl : lv_has ls 9 [(4, .int (nI (5 * n))), (3, .ref (s.heap.size + 181)), (2, .ref (s.heap.size + 135)), (1, .ref s.heap.size), (0, .ref b)]) (hc : cells + 1426 ≤ room_1.cells ∧ slots + 11421 ≤ room_1.slots) (kk : ∀ (H1 : Heap) (locs1 : List Loc) (ls1 : Array Slot), lw_I D d cB cL s.heap.size (n + 1) H1 → va_S (rg_A s.heap.size) s.heap H1 locs1 → lv_has ls1 9 [(4, .int (nI (5 * n))), (3, .ref (s.heap.size + 181)), (2, .ref (s.heap.size + 135)), (1, .ref s.heap.size), (0, .ref b)] → W p l e room_1 s m #[Value.ref b] below meth c H1 locs1 (cells + 1426) (slots + 11421) (lw_Z below #[Value.ref b] s) (F0 m 1353 ls1 [])) : W p l e room_1 s m #[Value.ref b] below meth c H locs cells slots (lw_Z below #[Value.ref b] s) (F0 m 492 ls []) := by
  obtain ⟨hx, hb, hr, hlocks, hml, hown, hts, hl0, hX, hbl, hK, hKK, hKL, hXE, hN, hL⟩ := id G
  have hts2 : ∀ w ∈ wsL_law, w.before #[Value.ref b] s = true := fun w h => hts w (wsL_law_in w h)
  have hbA : ¬ rg_A s.heap.size b := Nat.not_le.mpr hbl
  have hc1 := hc.1
  have hc2 := hc.2
  obtain ⟨P, F, R, σ, σ2, ρ, th, g, hmr, htr, hJ⟩ := hI
  obtain ⟨x1, hx1⟩ : ∃ x, xs (nI (5 * n) + 1).toNatClampNeg = x := ⟨_, rfl⟩
  obtain ⟨x2, hx2⟩ : ∃ x, xs (nI (5 * n) + 2).toNatClampNeg = x := ⟨_, rfl⟩
  refine lv_aload_n hx hb dL_law_492 rfl (lv_at hl 3 rfl) ?_
  refine lv_aload_n hx hb dL_law_493 rfl (lv_at hl 4 rfl) ?_
  refine lv_iload hx hb dL_law_494 (lv_at hl 0 rfl) ?_
  refine lv_iconst (v := 1) hx hb dL_law_496 (by decide) ?_
  refine lv_iadd hx hb dL_law_497 ?_
  refine va_sld (i := nI (5 * n) + 1) hx hb hX hbl hbA hS (lw_ix hn5 hL 1 (by decide)) dL_law_498 ?_
  rw [hx1]
  refine lv_aload_n hx hb dL_law_499 rfl (lv_at hl 4 rfl) ?_
  refine lv_iload hx hb dL_law_500 (lv_at hl 0 rfl) ?_
  refine lv_iconst (v := 2) hx hb dL_law_502 (by decide) ?_
  refine lv_iadd hx hb dL_law_503 ?_
  refine va_sld (i := nI (5 * n) + 2) hx hb hX hbl hbA hS (lw_ix hn5 hL 2 (by decide)) dL_law_504 ?_
  rw [hx2]
  refine lv_aload_n hx hb dL_law_505 rfl (lv_at hl 1 rfl) ?_
  refine lw_hlp (As := [.ref s.heap.size, .int x1, .int x2, .ref (s.heap.size + 181)]) ⟨hx, hb, hml, hown, hts2⟩ (hL_work l D d s.heap.size (rc_L (s.heap.size + 1)) (rc_L (s.heap.size + 68)) σ (lw_A1 s.heap.size) (lw_B1 s.heap.size) (s.heap.size + 181) cL g (fun z => by have z : (s.heap.size + 1 ≤ s.heap.size ∧ s.heap.size < s.heap.size + 68) ∨ s.heap.size = s.heap.size + 181 := z; omega) (fun q h => Or.inl h) (Or.inr rfl) (fun z => by have z : s.heap.size + 1 ≤ s.heap.size + 181 ∧ s.heap.size + 181 < s.heap.size + 68 := z; omega) hl0 P F R hmr.hs x1 x2) (vx_cwSW 4 hts2 gL_law_L_work rfl rfl rfl (by decide +kernel) ⟨Nat.le_of_ble_eq_true rfl, Nat.le_of_ble_eq_true rfl⟩) hK hKL hXE hN hJ hS rfl hl.1 (Nat.le_of_ble_eq_true rfl) dL_law_506 ⟨by omega, by omega⟩ rfl (fun r1 g' H locs hr1 hg0 hJ hS => ?_)
  subst hr1
  refine lv_istore (lv' := [(5, .int ((cl_work F σ x1 x2).1)), (4, .int (nI (5 * n))), (3, .ref (s.heap.size + 181)), (2, .ref (s.heap.size + 135)), (1, .ref s.heap.size), (0, .ref b)]) hx hb dL_law_509 hl (by decide) rfl (fun ls hl => ?_)
  refine lv_aload_n hx hb dL_law_511 rfl (lv_at hl 3 rfl) ?_
  refine lv_aload_n hx hb dL_law_512 rfl (lv_at hl 5 rfl) ?_
  refine lv_iload hx hb dL_law_513 (lv_at hl 1 rfl) ?_
  refine lv_iconst (v := 1) hx hb dL_law_515 (by decide) ?_
  refine lv_iadd hx hb dL_law_516 ?_
  refine va_sld (i := nI (5 * n) + 1) hx hb hX hbl hbA hS (lw_ix hn5 hL 1 (by decide)) dL_law_517 ?_
  rw [hx1]
  refine lv_aload_n hx hb dL_law_518 rfl (lv_at hl 5 rfl) ?_
  refine lv_iload hx hb dL_law_519 (lv_at hl 1 rfl) ?_
  refine lv_iconst (v := 2) hx hb dL_law_521 (by decide) ?_
  refine lv_iadd hx hb dL_law_522 ?_
  refine va_sld (i := nI (5 * n) + 2) hx hb hX hbl hbA hS (lw_ix hn5 hL 2 (by decide)) dL_law_523 ?_
  rw [hx2]
  refine lw_ref (As := [.int x1, .int x2]) (mc := 0) (ms := 0) ⟨hx, hb, hml, hown, hts2⟩ (kX6_work l D d cB (mL (s.heap.size + 136)) (s.heap.size + 135) th ρ (lw_M s.heap.size H.size) H.size P F R hmr.mh x1 x2) (cwV 2 hts2 gL_law_X6_work rfl rfl rfl (by decide +kernel) ⟨Nat.le_of_ble_eq_true rfl, Nat.le_of_ble_eq_true rfl⟩) hKK hJ hS rfl hl.1 (Nat.le_of_ble_eq_true rfl) dL_law_524 ⟨by omega, by omega⟩ rfl (fun r2 X2 H locs hp hJ hS => ?_)
  refine lv_istore (lv' := [(6, .int r2), (5, .int ((cl_work F σ x1 x2).1)), (4, .int (nI (5 * n))), (3, .ref (s.heap.size + 181)), (2, .ref (s.heap.size + 135)), (1, .ref s.heap.size), (0, .ref b)]) hx hb dL_law_527 hl (by decide) rfl (fun ls hl => ?_)
  refine lv_goto (tgt := 1353) hx hb dL_law_529 (by decide) ?_
  obtain ⟨s1, s2, P', F', R', hR, hmr2⟩ := sim_work hmr hp
  refine W.widen (k := cells + 1426) (n := slots + 11421) (by omega) (by omega) ?_
  exact kk _ _ _ ⟨_, _, _, _, _, _, _, _, hmr2, htr.up hR, hJ⟩ hS (lv_sub hl [2, 3, 4, 5, 6] rfl)
