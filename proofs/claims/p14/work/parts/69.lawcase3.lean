/-! THE LAW: its calls -/
set_option maxHeartbeats 4000000 in
set_option maxRecDepth 100000 in
/-- the law: meanLikeness -/
theorem lw_c24 {p : Program} {l : Launch} {e : Env} {s : State} {m : MethodId} {below : List Frame} {meth : Method} {c : Code} {b L : Nat} {D : va_G} {d : hs_Dm} {cB cL : ClassId} {xs : Nat → Int32} (G : lw_G p l s m meth c b L D d cB cL xs) {n : Nat} (hn5 : 5 * n + 5 ≤ L) {H : Heap} {locs : List Loc} {cells slots : Nat} (hI : lw_I D d cB cL s.heap.size n H) (hS : va_S (rg_A s.heap.size) s.heap H locs) {ls : Array Slot} (hl : lv_has ls 9 [(4, .int (nI (5 * n))), (3, .ref (s.heap.size + 181)), (2, .ref (s.heap.size + 135)), (1, .ref s.heap.size), (0, .ref b)]) (hc : cells + 1426 ≤ room_1.cells ∧ slots + 11421 ≤ room_1.slots) (kk : ∀ (H1 : Heap) (locs1 : List Loc) (ls1 : Array Slot), lw_I D d cB cL s.heap.size (n + 1) H1 → va_S (rg_A s.heap.size) s.heap H1 locs1 → lv_has ls1 9 [(4, .int (nI (5 * n))), (3, .ref (s.heap.size + 181)), (2, .ref (s.heap.size + 135)), (1, .ref s.heap.size), (0, .ref b)] → W p l e room_1 s m #[Value.ref b] below meth c H1 locs1 (cells + 1426) (slots + 11421) (lw_Z below #[Value.ref b] s) (F0 m 1353 ls1 [])) : W p l e room_1 s m #[Value.ref b] below meth c H locs cells slots (lw_Z below #[Value.ref b] s) (F0 m 1180 ls []) := by
  obtain ⟨hx, hb, hr, hlocks, hml, hown, hts, hl0, hX, hbl, hK, hKK, hKL, hXE, hN, hL⟩ := id G
  have hts2 : ∀ w ∈ wsL_law, w.before #[Value.ref b] s = true := fun w h => hts w (wsL_law_in w h)
  have hbA : ¬ rg_A s.heap.size b := Nat.not_le.mpr hbl
  have hc1 := hc.1
  have hc2 := hc.2
  obtain ⟨P, F, R, σ, σ2, ρ, th, g, hmr, htr, hJ⟩ := hI
  refine lv_aload_n hx hb dL_law_1180 rfl (lv_at hl 3 rfl) ?_
  obtain ⟨dv, hM9⟩ : ∃ v : UInt64, wx_Md l yX4_meanLikeness wsX4_meanLikeness ({ frames := 4, cells := 0, slots := 0, locals := 80 }) D d s.heap.size (rc_L (s.heap.size + 1)) (rc_L (s.heap.size + 68)) σ (lw_A1 s.heap.size) [.ref s.heap.size] (fun r τ => v = r ∧ σ = τ) := by
    by_cases c9 : sp_figIn σ 0 4 F = 0
    · exact ⟨_, kX4_meanLikeness_0 l D d (rc_L (s.heap.size + 1)) σ (lw_A1 s.heap.size) s.heap.size (rc_L (s.heap.size + 68)) (fun z => by have z : s.heap.size + 1 ≤ s.heap.size ∧ s.heap.size < s.heap.size + 68 := z; omega) P F R hmr.hs c9⟩
    · exact ⟨_, kX4_meanLikeness_1 l D d (rc_L (s.heap.size + 1)) σ (lw_A1 s.heap.size) s.heap.size (rc_L (s.heap.size + 68)) (fun z => by have z : s.heap.size + 1 ≤ s.heap.size ∧ s.heap.size < s.heap.size + 68 := z; omega) P F R hmr.hs c9⟩
  refine lw_clsd (As := []) ⟨hx, hb, hml, hown, hts2⟩ hM9 (cwV 0 hts2 gL_law_X4_meanLikeness rfl rfl rfl (by decide +kernel) ⟨Nat.le_of_ble_eq_true rfl, Nat.le_of_ble_eq_true rfl⟩) hK hXE hJ hS rfl hl.1 (Nat.le_of_ble_eq_true rfl) dL_law_1181 ⟨by omega, by omega⟩ rfl (fun r1 τ H locs hp hJ hS => ?_)
  obtain ⟨hp1, rfl⟩ := hp
  refine lv_dstore (lv' := [(5, .double r1), (4, .int (nI (5 * n))), (3, .ref (s.heap.size + 181)), (2, .ref (s.heap.size + 135)), (1, .ref s.heap.size), (0, .ref b)]) hx hb dL_law_1184 hl (by decide) rfl (fun ls hl => ?_)
  refine lv_aload_n hx hb dL_law_1186 rfl (lv_at hl 3 rfl) ?_
  refine lw_refd (As := []) (mc := 0) (ms := 0) ⟨hx, hb, hml, hown, hts2⟩ (kX6_meanLikeness l D d cB (mL (s.heap.size + 136)) (s.heap.size + 135) th ρ (lw_M s.heap.size H.size) H.size P F R hmr.mh ) (cwV 0 hts2 gL_law_X6_meanLikeness rfl rfl rfl (by decide +kernel) ⟨Nat.le_of_ble_eq_true rfl, Nat.le_of_ble_eq_true rfl⟩) hKK hJ hS rfl hl.1 (Nat.le_of_ble_eq_true rfl) dL_law_1187 ⟨by omega, by omega⟩ rfl (fun r2 X2 H locs hp hJ hS => ?_)
  obtain ⟨t2, q2⟩ := X2
  obtain ⟨hp2, e2_, e3_⟩ := hp
  have e2_ : (0 : Int32) = t2 := e2_
  have e3_ : ρ = q2 := e3_
  subst e2_ e3_
  refine lv_dstore (lv' := [(7, .double r2), (5, .double r1), (4, .int (nI (5 * n))), (3, .ref (s.heap.size + 181)), (2, .ref (s.heap.size + 135)), (1, .ref s.heap.size), (0, .ref b)]) hx hb dL_law_1190 hl (by decide) rfl (fun ls hl => ?_)
  refine lv_goto (tgt := 1353) hx hb dL_law_1192 (by decide) ?_
  refine W.widen (k := cells + 1426) (n := slots + 11421) (by omega) (by omega) ?_
  exact kk _ _ _ ⟨_, _, _, _, _, _, _, _, hmr.up (Nat.le_succ n), htr, hJ⟩ hS (lv_sub hl [2, 3, 4, 5, 6] rfl)
set_option maxHeartbeats 4000000 in
set_option maxRecDepth 100000 in
/-- the law: wouldFame -/
theorem lw_c25 {p : Program} {l : Launch} {e : Env} {s : State} {m : MethodId} {below : List Frame} {meth : Method} {c : Code} {b L : Nat} {D : va_G} {d : hs_Dm} {cB cL : ClassId} {xs : Nat → Int32} (G : lw_G p l s m meth c b L D d cB cL xs) {n : Nat} (hn5 : 5 * n + 5 ≤ L) {H : Heap} {locs : List Loc} {cells slots : Nat} (hI : lw_I D d cB cL s.heap.size n H) (hS : va_S (rg_A s.heap.size) s.heap H locs) {ls : Array Slot} (hl : lv_has ls 9 [(4, .int (nI (5 * n))), (3, .ref (s.heap.size + 181)), (2, .ref (s.heap.size + 135)), (1, .ref s.heap.size), (0, .ref b)]) (hc : cells + 1426 ≤ room_1.cells ∧ slots + 11421 ≤ room_1.slots) (kk : ∀ (H1 : Heap) (locs1 : List Loc) (ls1 : Array Slot), lw_I D d cB cL s.heap.size (n + 1) H1 → va_S (rg_A s.heap.size) s.heap H1 locs1 → lv_has ls1 9 [(4, .int (nI (5 * n))), (3, .ref (s.heap.size + 181)), (2, .ref (s.heap.size + 135)), (1, .ref s.heap.size), (0, .ref b)] → W p l e room_1 s m #[Value.ref b] below meth c H1 locs1 (cells + 1426) (slots + 11421) (lw_Z below #[Value.ref b] s) (F0 m 1353 ls1 [])) : W p l e room_1 s m #[Value.ref b] below meth c H locs cells slots (lw_Z below #[Value.ref b] s) (F0 m 1195 ls []) := by
  obtain ⟨hx, hb, hr, hlocks, hml, hown, hts, hl0, hX, hbl, hK, hKK, hKL, hXE, hN, hL⟩ := id G
  have hts2 : ∀ w ∈ wsL_law, w.before #[Value.ref b] s = true := fun w h => hts w (wsL_law_in w h)
  have hbA : ¬ rg_A s.heap.size b := Nat.not_le.mpr hbl
  have hc1 := hc.1
  have hc2 := hc.2
  obtain ⟨P, F, R, σ, σ2, ρ, th, g, hmr, htr, hJ⟩ := hI
  obtain ⟨x1, hx1⟩ : ∃ x, xs (nI (5 * n) + 1).toNatClampNeg = x := ⟨_, rfl⟩
  obtain ⟨x2, hx2⟩ : ∃ x, xs (nI (5 * n) + 2).toNatClampNeg = x := ⟨_, rfl⟩
  obtain ⟨x3, hx3⟩ : ∃ x, xs (nI (5 * n) + 3).toNatClampNeg = x := ⟨_, rfl⟩
  refine lv_aload_n hx hb dL_law_1195 rfl (lv_at hl 3 rfl) ?_
  refine lv_aload_n hx hb dL_law_1196 rfl (lv_at hl 4 rfl) ?_
  refine lv_iload hx hb dL_law_1197 (lv_at hl 0 rfl) ?_
  refine lv_iconst (v := 1) hx hb dL_law_1199 (by decide) ?_
  refine lv_iadd hx hb dL_law_1200 ?_
  refine va_sld (i := nI (5 * n) + 1) hx hb hX hbl hbA hS (lw_ix hn5 hL 1 (by decide)) dL_law_1201 ?_
  rw [hx1]
  refine lv_aload_n hx hb dL_law_1202 rfl (lv_at hl 4 rfl) ?_
  refine lv_iload hx hb dL_law_1203 (lv_at hl 0 rfl) ?_
  refine lv_iconst (v := 2) hx hb dL_law_1205 (by decide) ?_
  refine lv_iadd hx hb dL_law_1206 ?_
  refine va_sld (i := nI (5 * n) + 2) hx hb hX hbl hbA hS (lw_ix hn5 hL 2 (by decide)) dL_law_1207 ?_
  rw [hx2]
  refine lv_aload_n hx hb dL_law_1208 rfl (lv_at hl 4 rfl) ?_
  refine lv_iload hx hb dL_law_1209 (lv_at hl 0 rfl) ?_
  refine lv_iconst (v := 3) hx hb dL_law_1211 (by decide) ?_
  refine lv_iadd hx hb dL_law_1212 ?_
  refine va_sld (i := nI (5 * n) + 3) hx hb hX hbl hbA hS (lw_ix hn5 hL 3 (by decide)) dL_law_1213 ?_
  rw [hx3]
  refine lv_aload_n hx hb dL_law_1214 rfl (lv_at hl 1 rfl) ?_
  refine lw_hlp (As := [.ref s.heap.size, .int x1, .int x2, .int x3, .ref (s.heap.size + 181)]) ⟨hx, hb, hml, hown, hts2⟩ (hL_wouldFame l D d s.heap.size (rc_L (s.heap.size + 1)) (rc_L (s.heap.size + 68)) σ (lw_A1 s.heap.size) (lw_B1 s.heap.size) (s.heap.size + 181) cL g (fun z => by have z : (s.heap.size + 1 ≤ s.heap.size ∧ s.heap.size < s.heap.size + 68) ∨ s.heap.size = s.heap.size + 181 := z; omega) (fun q h => Or.inl h) (Or.inr rfl) (fun z => by have z : s.heap.size + 1 ≤ s.heap.size + 181 ∧ s.heap.size + 181 < s.heap.size + 68 := z; omega) hl0 P F R hmr.hs x1 x2 x3) (vx_cwSW 5 hts2 gL_law_L_wouldFame rfl rfl rfl (by decide +kernel) ⟨Nat.le_of_ble_eq_true rfl, Nat.le_of_ble_eq_true rfl⟩) hK hKL hXE hN hJ hS rfl hl.1 (Nat.le_of_ble_eq_true rfl) dL_law_1215 ⟨by omega, by omega⟩ rfl (fun r1 g' H locs hr1 hg0 hJ hS => ?_)
  subst hr1
  refine lv_istore (lv' := [(5, .int ((cl_wouldFame P σ x1 x2 x3).1)), (4, .int (nI (5 * n))), (3, .ref (s.heap.size + 181)), (2, .ref (s.heap.size + 135)), (1, .ref s.heap.size), (0, .ref b)]) hx hb dL_law_1218 hl (by decide) rfl (fun ls hl => ?_)
  refine lv_aload_n hx hb dL_law_1220 rfl (lv_at hl 3 rfl) ?_
  refine lv_aload_n hx hb dL_law_1221 rfl (lv_at hl 5 rfl) ?_
  refine lv_iload hx hb dL_law_1222 (lv_at hl 1 rfl) ?_
  refine lv_iconst (v := 1) hx hb dL_law_1224 (by decide) ?_
  refine lv_iadd hx hb dL_law_1225 ?_
  refine va_sld (i := nI (5 * n) + 1) hx hb hX hbl hbA hS (lw_ix hn5 hL 1 (by decide)) dL_law_1226 ?_
  rw [hx1]
  refine lv_aload_n hx hb dL_law_1227 rfl (lv_at hl 5 rfl) ?_
  refine lv_iload hx hb dL_law_1228 (lv_at hl 1 rfl) ?_
  refine lv_iconst (v := 2) hx hb dL_law_1230 (by decide) ?_
  refine lv_iadd hx hb dL_law_1231 ?_
  refine va_sld (i := nI (5 * n) + 2) hx hb hX hbl hbA hS (lw_ix hn5 hL 2 (by decide)) dL_law_1232 ?_
  rw [hx2]
  refine lv_aload_n hx hb dL_law_1233 rfl (lv_at hl 5 rfl) ?_
  refine lv_iload hx hb dL_law_1234 (lv_at hl 1 rfl) ?_
  refine lv_iconst (v := 3) hx hb dL_law_1236 (by decide) ?_
  refine lv_iadd hx hb dL_law_1237 ?_
  refine va_sld (i := nI (5 * n) + 3) hx hb hX hbl hbA hS (lw_ix hn5 hL 3 (by decide)) dL_law_1238 ?_
  rw [hx3]
  refine lw_ref (As := [.int x1, .int x2, .int x3]) (mc := 1) (ms := 9) ⟨hx, hb, hml, hown, hts2⟩ (kX6_wouldFame l D d cB (mL (s.heap.size + 136)) (s.heap.size + 135) th ρ (lw_M s.heap.size H.size) H.size P F R hmr.mh x1 x2 x3 (fun q h => Or.inr h)) (cwV 3 hts2 gL_law_X6_wouldFame rfl rfl rfl (by decide +kernel) ⟨Nat.le_of_ble_eq_true rfl, Nat.le_of_ble_eq_true rfl⟩) hKK hJ hS rfl hl.1 (Nat.le_of_ble_eq_true rfl) dL_law_1239 ⟨by omega, by omega⟩ rfl (fun r2 X2 H locs hp hJ hS => ?_)
  refine lv_istore (lv' := [(6, .int r2), (5, .int ((cl_wouldFame P σ x1 x2 x3).1)), (4, .int (nI (5 * n))), (3, .ref (s.heap.size + 181)), (2, .ref (s.heap.size + 135)), (1, .ref s.heap.size), (0, .ref b)]) hx hb dL_law_1242 hl (by decide) rfl (fun ls hl => ?_)
  refine lv_goto (tgt := 1353) hx hb dL_law_1244 (by decide) ?_
  obtain ⟨s1, s2, P', F', R', hR, hmr2⟩ := sim_wouldFame hmr hp
  refine W.widen (k := cells + 1426) (n := slots + 11421) (by omega) (by omega) ?_
  exact kk _ _ _ ⟨_, _, _, _, _, _, _, _, hmr2, htr.up hR, hJ⟩ hS (lv_sub hl [2, 3, 4, 5, 6] rfl)
set_option maxHeartbeats 4000000 in
set_option maxRecDepth 100000 in
/-- the law: readyIn -/
theorem lw_c26 {p : Program} {l : Launch} {e : Env} {s : State} {m : MethodId} {below : List Frame} {meth : Method} {c : Code} {b L : Nat} {D : va_G} {d : hs_Dm} {cB cL : ClassId} {xs : Nat → Int32} (G : lw_G p l s m meth c b L D d cB cL xs) {n : Nat} (hn5 : 5 * n + 5 ≤ L) {H : Heap} {locs : List Loc} {cells slots : Nat} (hI : lw_I D d cB cL s.heap.size n H) (hS : va_S (rg_A s.heap.size) s.heap H locs) {ls : Array Slot} (hl : lv_has ls 9 [(4, .int (nI (5 * n))), (3, .ref (s.heap.size + 181)), (2, .ref (s.heap.size + 135)), (1, .ref s.heap.size), (0, .ref b)]) (hc : cells + 1426 ≤ room_1.cells ∧ slots + 11421 ≤ room_1.slots) (kk : ∀ (H1 : Heap) (locs1 : List Loc) (ls1 : Array Slot), lw_I D d cB cL s.heap.size (n + 1) H1 → va_S (rg_A s.heap.size) s.heap H1 locs1 → lv_has ls1 9 [(4, .int (nI (5 * n))), (3, .ref (s.heap.size + 181)), (2, .ref (s.heap.size + 135)), (1, .ref s.heap.size), (0, .ref b)] → W p l e room_1 s m #[Value.ref b] below meth c H1 locs1 (cells + 1426) (slots + 11421) (lw_Z below #[Value.ref b] s) (F0 m 1353 ls1 [])) : W p l e room_1 s m #[Value.ref b] below meth c H locs cells slots (lw_Z below #[Value.ref b] s) (F0 m 1247 ls []) := by
  obtain ⟨hx, hb, hr, hlocks, hml, hown, hts, hl0, hX, hbl, hK, hKK, hKL, hXE, hN, hL⟩ := id G
  have hts2 : ∀ w ∈ wsL_law, w.before #[Value.ref b] s = true := fun w h => hts w (wsL_law_in w h)
  have hbA : ¬ rg_A s.heap.size b := Nat.not_le.mpr hbl
  have hc1 := hc.1
  have hc2 := hc.2
  obtain ⟨P, F, R, σ, σ2, ρ, th, g, hmr, htr, hJ⟩ := hI
  obtain ⟨x1, hx1⟩ : ∃ x, xs (nI (5 * n) + 1).toNatClampNeg = x := ⟨_, rfl⟩
  refine lv_aload_n hx hb dL_law_1247 rfl (lv_at hl 3 rfl) ?_
  refine lv_aload_n hx hb dL_law_1248 rfl (lv_at hl 4 rfl) ?_
  refine lv_iload hx hb dL_law_1249 (lv_at hl 0 rfl) ?_
  refine lv_iconst (v := 1) hx hb dL_law_1251 (by decide) ?_
  refine lv_iadd hx hb dL_law_1252 ?_
  refine va_sld (i := nI (5 * n) + 1) hx hb hX hbl hbA hS (lw_ix hn5 hL 1 (by decide)) dL_law_1253 ?_
  rw [hx1]
  refine lv_aload_n hx hb dL_law_1254 rfl (lv_at hl 1 rfl) ?_
  refine lw_hlp (As := [.ref s.heap.size, .int x1, .ref (s.heap.size + 181)]) ⟨hx, hb, hml, hown, hts2⟩ (hL_readyIn l D d s.heap.size (rc_L (s.heap.size + 1)) (rc_L (s.heap.size + 68)) σ (lw_A1 s.heap.size) (lw_B1 s.heap.size) (s.heap.size + 181) cL g (fun z => by have z : (s.heap.size + 1 ≤ s.heap.size ∧ s.heap.size < s.heap.size + 68) ∨ s.heap.size = s.heap.size + 181 := z; omega) (fun q h => Or.inl h) (Or.inr rfl) (fun z => by have z : s.heap.size + 1 ≤ s.heap.size + 181 ∧ s.heap.size + 181 < s.heap.size + 68 := z; omega) hl0 P F R hmr.hs x1) (vx_cwSW 3 hts2 gL_law_L_readyIn rfl rfl rfl (by decide +kernel) ⟨Nat.le_of_ble_eq_true rfl, Nat.le_of_ble_eq_true rfl⟩) hK hKL hXE hN hJ hS rfl hl.1 (Nat.le_of_ble_eq_true rfl) dL_law_1255 ⟨by omega, by omega⟩ rfl (fun r1 g' H locs hr1 hg0 hJ hS => ?_)
  subst hr1
  refine lv_istore (lv' := [(5, .int ((cl_readyIn F σ x1).1)), (4, .int (nI (5 * n))), (3, .ref (s.heap.size + 181)), (2, .ref (s.heap.size + 135)), (1, .ref s.heap.size), (0, .ref b)]) hx hb dL_law_1258 hl (by decide) rfl (fun ls hl => ?_)
  refine lv_aload_n hx hb dL_law_1260 rfl (lv_at hl 3 rfl) ?_
  refine lv_aload_n hx hb dL_law_1261 rfl (lv_at hl 5 rfl) ?_
  refine lv_iload hx hb dL_law_1262 (lv_at hl 1 rfl) ?_
  refine lv_iconst (v := 1) hx hb dL_law_1264 (by decide) ?_
  refine lv_iadd hx hb dL_law_1265 ?_
  refine va_sld (i := nI (5 * n) + 1) hx hb hX hbl hbA hS (lw_ix hn5 hL 1 (by decide)) dL_law_1266 ?_
  rw [hx1]
  refine lw_ref (As := [.int x1]) (mc := 5) (ms := 35) ⟨hx, hb, hml, hown, hts2⟩ (kX6_readyIn l D d cB (mL (s.heap.size + 136)) (s.heap.size + 135) th ρ (lw_M s.heap.size H.size) H.size P F R hmr.mh x1 (fun q h => Or.inr h)) (cwV 1 hts2 gL_law_X6_readyIn rfl rfl rfl (by decide +kernel) ⟨Nat.le_of_ble_eq_true rfl, Nat.le_of_ble_eq_true rfl⟩) hKK hJ hS rfl hl.1 (Nat.le_of_ble_eq_true rfl) dL_law_1267 ⟨by omega, by omega⟩ rfl (fun r2 X2 H locs hp hJ hS => ?_)
  refine lv_istore (lv' := [(6, .int r2), (5, .int ((cl_readyIn F σ x1).1)), (4, .int (nI (5 * n))), (3, .ref (s.heap.size + 181)), (2, .ref (s.heap.size + 135)), (1, .ref s.heap.size), (0, .ref b)]) hx hb dL_law_1270 hl (by decide) rfl (fun ls hl => ?_)
  refine lv_goto (tgt := 1353) hx hb dL_law_1272 (by decide) ?_
  obtain ⟨s1, s2, P', F', R', hR, hmr2⟩ := sim_readyIn hmr hp
  refine W.widen (k := cells + 1426) (n := slots + 11421) (by omega) (by omega) ?_
  exact kk _ _ _ ⟨_, _, _, _, _, _, _, _, hmr2, htr.up hR, hJ⟩ hS (lv_sub hl [2, 3, 4, 5, 6] rfl)
set_option maxHeartbeats 4000000 in
set_option maxRecDepth 100000 in
/-- the law: meltsIn -/
theorem lw_c27 {p : Program} {l : Launch} {e : Env} {s : State} {m : MethodId} {below : List Frame} {meth : Method} {c : Code} {b L : Nat} {D : va_G} {d : hs_Dm} {cB cL : ClassId} {xs : Nat → Int32} (G : lw_G p l s m meth c b L D d cB cL xs) {n : Nat} (hn5 : 5 * n + 5 ≤ L) {H : Heap} {locs : List Loc} {cells slots : Nat} (hI : lw_I D d cB cL s.heap.size n H) (hS : va_S (rg_A s.heap.size) s.heap H locs) {ls : Array Slot} (hl : lv_has ls 9 [(4, .int (nI (5 * n))), (3, .ref (s.heap.size + 181)), (2, .ref (s.heap.size + 135)), (1, .ref s.heap.size), (0, .ref b)]) (hc : cells + 1426 ≤ room_1.cells ∧ slots + 11421 ≤ room_1.slots) (kk : ∀ (H1 : Heap) (locs1 : List Loc) (ls1 : Array Slot), lw_I D d cB cL s.heap.size (n + 1) H1 → va_S (rg_A s.heap.size) s.heap H1 locs1 → lv_has ls1 9 [(4, .int (nI (5 * n))), (3, .ref (s.heap.size + 181)), (2, .ref (s.heap.size + 135)), (1, .ref s.heap.size), (0, .ref b)] → W p l e room_1 s m #[Value.ref b] below meth c H1 locs1 (cells + 1426) (slots + 11421) (lw_Z below #[Value.ref b] s) (F0 m 1353 ls1 [])) : W p l e room_1 s m #[Value.ref b] below meth c H locs cells slots (lw_Z below #[Value.ref b] s) (F0 m 1275 ls []) := by
  obtain ⟨hx, hb, hr, hlocks, hml, hown, hts, hl0, hX, hbl, hK, hKK, hKL, hXE, hN, hL⟩ := id G
  have hts2 : ∀ w ∈ wsL_law, w.before #[Value.ref b] s = true := fun w h => hts w (wsL_law_in w h)
  have hbA : ¬ rg_A s.heap.size b := Nat.not_le.mpr hbl
  have hc1 := hc.1
  have hc2 := hc.2
  obtain ⟨P, F, R, σ, σ2, ρ, th, g, hmr, htr, hJ⟩ := hI
  obtain ⟨x1, hx1⟩ : ∃ x, xs (nI (5 * n) + 1).toNatClampNeg = x := ⟨_, rfl⟩
  obtain ⟨x2, hx2⟩ : ∃ x, xs (nI (5 * n) + 2).toNatClampNeg = x := ⟨_, rfl⟩
  obtain ⟨x3, hx3⟩ : ∃ x, xs (nI (5 * n) + 3).toNatClampNeg = x := ⟨_, rfl⟩
  refine lv_aload_n hx hb dL_law_1275 rfl (lv_at hl 3 rfl) ?_
  refine lv_aload_n hx hb dL_law_1276 rfl (lv_at hl 4 rfl) ?_
  refine lv_iload hx hb dL_law_1277 (lv_at hl 0 rfl) ?_
  refine lv_iconst (v := 1) hx hb dL_law_1279 (by decide) ?_
  refine lv_iadd hx hb dL_law_1280 ?_
  refine va_sld (i := nI (5 * n) + 1) hx hb hX hbl hbA hS (lw_ix hn5 hL 1 (by decide)) dL_law_1281 ?_
  rw [hx1]
  refine lv_aload_n hx hb dL_law_1282 rfl (lv_at hl 4 rfl) ?_
  refine lv_iload hx hb dL_law_1283 (lv_at hl 0 rfl) ?_
  refine lv_iconst (v := 2) hx hb dL_law_1285 (by decide) ?_
  refine lv_iadd hx hb dL_law_1286 ?_
  refine va_sld (i := nI (5 * n) + 2) hx hb hX hbl hbA hS (lw_ix hn5 hL 2 (by decide)) dL_law_1287 ?_
  rw [hx2]
  refine lv_aload_n hx hb dL_law_1288 rfl (lv_at hl 4 rfl) ?_
  refine lv_iload hx hb dL_law_1289 (lv_at hl 0 rfl) ?_
  refine lv_iconst (v := 3) hx hb dL_law_1291 (by decide) ?_
  refine lv_iadd hx hb dL_law_1292 ?_
  refine va_sld (i := nI (5 * n) + 3) hx hb hX hbl hbA hS (lw_ix hn5 hL 3 (by decide)) dL_law_1293 ?_
  rw [hx3]
  refine lv_aload_n hx hb dL_law_1294 rfl (lv_at hl 1 rfl) ?_
  refine lw_hlp2 (As := [.ref s.heap.size, .int x1, .int x2, .int x3, .ref (s.heap.size + 181)]) ⟨hx, hb, hml, hown, hts2⟩ (hL_meltsIn l D d s.heap.size (rc_L (s.heap.size + 1)) (rc_L (s.heap.size + 68)) σ (lw_A1 s.heap.size) (lw_B s.heap.size) (s.heap.size + 181) cL g (fun z => by have z : (s.heap.size + 1 ≤ s.heap.size ∧ s.heap.size < s.heap.size + 135) ∨ s.heap.size = s.heap.size + 181 := z; omega) (fun q h => by have h : s.heap.size + 1 ≤ q ∧ q < s.heap.size + 68 := h; exact Or.inl (by omega)) (Or.inr rfl) (fun z => by have z : s.heap.size + 1 ≤ s.heap.size + 181 ∧ s.heap.size + 181 < s.heap.size + 68 := z; omega) hl0 P F R hmr.hs σ2 (lw_A2 s.heap.size) lw_dis (fun q h => by have h : s.heap.size + 68 ≤ q ∧ q < s.heap.size + 135 := h; exact Or.inl (by omega)) (fun z => by have z : s.heap.size + 68 ≤ s.heap.size + 181 ∧ s.heap.size + 181 < s.heap.size + 135 := z; omega) htr hmr.liv hmr.cb x1 x2 x3) (vx_cwSW 5 hts2 gL_law_L_meltsIn rfl rfl rfl (by decide +kernel) ⟨Nat.le_of_ble_eq_true rfl, Nat.le_of_ble_eq_true rfl⟩) hK hKL hXE hN hJ hS rfl hl.1 (Nat.le_of_ble_eq_true rfl) dL_law_1295 ⟨by omega, by omega⟩ rfl (fun r1 g' τ H locs hr1 hg0 htr hJ hS => ?_)
  subst hr1
  refine lv_istore (lv' := [(5, .int ((cl_meltsIn P F R σ σ2 x1 x2 x3).1)), (4, .int (nI (5 * n))), (3, .ref (s.heap.size + 181)), (2, .ref (s.heap.size + 135)), (1, .ref s.heap.size), (0, .ref b)]) hx hb dL_law_1298 hl (by decide) rfl (fun ls hl => ?_)
  refine lv_aload_n hx hb dL_law_1300 rfl (lv_at hl 3 rfl) ?_
  refine lv_aload_n hx hb dL_law_1301 rfl (lv_at hl 5 rfl) ?_
  refine lv_iload hx hb dL_law_1302 (lv_at hl 1 rfl) ?_
  refine lv_iconst (v := 1) hx hb dL_law_1304 (by decide) ?_
  refine lv_iadd hx hb dL_law_1305 ?_
  refine va_sld (i := nI (5 * n) + 1) hx hb hX hbl hbA hS (lw_ix hn5 hL 1 (by decide)) dL_law_1306 ?_
  rw [hx1]
  refine lv_aload_n hx hb dL_law_1307 rfl (lv_at hl 5 rfl) ?_
  refine lv_iload hx hb dL_law_1308 (lv_at hl 1 rfl) ?_
  refine lv_iconst (v := 2) hx hb dL_law_1310 (by decide) ?_
  refine lv_iadd hx hb dL_law_1311 ?_
  refine va_sld (i := nI (5 * n) + 2) hx hb hX hbl hbA hS (lw_ix hn5 hL 2 (by decide)) dL_law_1312 ?_
  rw [hx2]
  refine lv_aload_n hx hb dL_law_1313 rfl (lv_at hl 5 rfl) ?_
  refine lv_iload hx hb dL_law_1314 (lv_at hl 1 rfl) ?_
  refine lv_iconst (v := 3) hx hb dL_law_1316 (by decide) ?_
  refine lv_iadd hx hb dL_law_1317 ?_
  refine va_sld (i := nI (5 * n) + 3) hx hb hX hbl hbA hS (lw_ix hn5 hL 3 (by decide)) dL_law_1318 ?_
  rw [hx3]
  refine lw_ref (As := [.int x1, .int x2, .int x3]) (mc := 153) (ms := 1176) ⟨hx, hb, hml, hown, hts2⟩ (kX6_meltsIn l D d cB (mL (s.heap.size + 136)) (s.heap.size + 135) th ρ (lw_M s.heap.size H.size) H.size P F R hmr.mh x1 x2 x3 (fun q h => Or.inr h)) (cwV 3 hts2 gL_law_X6_meltsIn rfl rfl rfl (by decide +kernel) ⟨Nat.le_of_ble_eq_true rfl, Nat.le_of_ble_eq_true rfl⟩) hKK hJ hS rfl hl.1 (Nat.le_of_ble_eq_true rfl) dL_law_1319 ⟨by omega, by omega⟩ rfl (fun r2 X2 H locs hp hJ hS => ?_)
  refine lv_istore (lv' := [(6, .int r2), (5, .int ((cl_meltsIn P F R σ σ2 x1 x2 x3).1)), (4, .int (nI (5 * n))), (3, .ref (s.heap.size + 181)), (2, .ref (s.heap.size + 135)), (1, .ref s.heap.size), (0, .ref b)]) hx hb dL_law_1322 hl (by decide) rfl (fun ls hl => ?_)
  refine lv_goto (tgt := 1353) hx hb dL_law_1324 (by decide) ?_
  obtain ⟨s1, s2, P', F', R', hR, hmr2⟩ := sim_meltsIn σ2 hmr hp
  refine W.widen (k := cells + 1426) (n := slots + 11421) (by omega) (by omega) ?_
  exact kk _ _ _ ⟨_, _, _, _, _, _, _, _, hmr2, htr.up hR, hJ⟩ hS (lv_sub hl [2, 3, 4, 5, 6] rfl)
set_option maxHeartbeats 4000000 in
set_option maxRecDepth 100000 in
/-- the law: bestNext -/
theorem lw_c28 {p : Program} {l : Launch} {e : Env} {s : State} {m : MethodId} {below : List Frame} {meth : Method} {c : Code} {b L : Nat} {D : va_G} {d : hs_Dm} {cB cL : ClassId} {xs : Nat → Int32} (G : lw_G p l s m meth c b L D d cB cL xs) {n : Nat} (hn5 : 5 * n + 5 ≤ L) {H : Heap} {locs : List Loc} {cells slots : Nat} (hI : lw_I D d cB cL s.heap.size n H) (hS : va_S (rg_A s.heap.size) s.heap H locs) {ls : Array Slot} (hl : lv_has ls 9 [(4, .int (nI (5 * n))), (3, .ref (s.heap.size + 181)), (2, .ref (s.heap.size + 135)), (1, .ref s.heap.size), (0, .ref b)]) (hc : cells + 1426 ≤ room_1.cells ∧ slots + 11421 ≤ room_1.slots) (kk : ∀ (H1 : Heap) (locs1 : List Loc) (ls1 : Array Slot), lw_I D d cB cL s.heap.size (n + 1) H1 → va_S (rg_A s.heap.size) s.heap H1 locs1 → lv_has ls1 9 [(4, .int (nI (5 * n))), (3, .ref (s.heap.size + 181)), (2, .ref (s.heap.size + 135)), (1, .ref s.heap.size), (0, .ref b)] → W p l e room_1 s m #[Value.ref b] below meth c H1 locs1 (cells + 1426) (slots + 11421) (lw_Z below #[Value.ref b] s) (F0 m 1353 ls1 [])) : W p l e room_1 s m #[Value.ref b] below meth c H locs cells slots (lw_Z below #[Value.ref b] s) (F0 m 1327 ls []) := by
  obtain ⟨hx, hb, hr, hlocks, hml, hown, hts, hl0, hX, hbl, hK, hKK, hKL, hXE, hN, hL⟩ := id G
  have hts2 : ∀ w ∈ wsL_law, w.before #[Value.ref b] s = true := fun w h => hts w (wsL_law_in w h)
  have hbA : ¬ rg_A s.heap.size b := Nat.not_le.mpr hbl
  have hc1 := hc.1
  have hc2 := hc.2
  obtain ⟨P, F, R, σ, σ2, ρ, th, g, hmr, htr, hJ⟩ := hI
  refine lv_aload_n hx hb dL_law_1327 rfl (lv_at hl 3 rfl) ?_
  refine lw_clsi (As := []) ⟨hx, hb, hml, hown, hts2⟩ (kX4_bestNext l D d (rc_L (s.heap.size + 1)) σ (lw_A1 s.heap.size) s.heap.size (rc_L (s.heap.size + 68)) (fun z => by have z : s.heap.size + 1 ≤ s.heap.size ∧ s.heap.size < s.heap.size + 68 := z; omega) P F R hmr.hs) (cwV 0 hts2 gL_law_X4_bestNext rfl rfl rfl (by decide +kernel) ⟨Nat.le_of_ble_eq_true rfl, Nat.le_of_ble_eq_true rfl⟩) hK hXE hJ hS rfl hl.1 (Nat.le_of_ble_eq_true rfl) dL_law_1328 ⟨by omega, by omega⟩ rfl (fun r1 τ H locs hp hJ hS => ?_)
  obtain ⟨hp1, rfl⟩ := hp
  refine lv_pop hx hb dL_law_1331 rfl ?_
  refine lv_aload_n hx hb dL_law_1332 rfl (lv_at hl 2 rfl) ?_
  refine lw_ref (As := []) (mc := 20) (ms := 180) ⟨hx, hb, hml, hown, hts2⟩ (kX6_bestNext l D d cB (mL (s.heap.size + 136)) (s.heap.size + 135) th ρ (lw_M s.heap.size H.size) H.size P F R hmr.mh  (fun q h => Or.inr h)) (cwV 0 hts2 gL_law_X6_bestNext rfl rfl rfl (by decide +kernel) ⟨Nat.le_of_ble_eq_true rfl, Nat.le_of_ble_eq_true rfl⟩) hKK hJ hS rfl hl.1 (Nat.le_of_ble_eq_true rfl) dL_law_1333 ⟨by omega, by omega⟩ rfl (fun r2 X2 H locs hp hJ hS => ?_)
  obtain ⟨t2, q2⟩ := X2
  obtain ⟨hp2, e2_, e3_⟩ := hp
  have e2_ : (0 : Int32) = t2 := e2_
  have e3_ : ρ = q2 := e3_
  subst e2_ e3_
  refine lv_pop hx hb dL_law_1336 rfl ?_
  refine lv_goto (tgt := 1353) hx hb dL_law_1337 (by decide) ?_
  refine W.widen (k := cells + 1426) (n := slots + 11421) (by omega) (by omega) ?_
  exact kk _ _ _ ⟨_, _, _, _, _, _, _, _, hmr.up (Nat.le_succ n), htr, hJ⟩ hS (lv_sub hl [0, 1, 2, 3, 4] rfl)
set_option maxHeartbeats 4000000 in
set_option maxRecDepth 100000 in
/-- the law: digest -/
theorem lw_c29 {p : Program} {l : Launch} {e : Env} {s : State} {m : MethodId} {below : List Frame} {meth : Method} {c : Code} {b L : Nat} {D : va_G} {d : hs_Dm} {cB cL : ClassId} {xs : Nat → Int32} (G : lw_G p l s m meth c b L D d cB cL xs) {n : Nat} (hn5 : 5 * n + 5 ≤ L) {H : Heap} {locs : List Loc} {cells slots : Nat} (hI : lw_I D d cB cL s.heap.size n H) (hS : va_S (rg_A s.heap.size) s.heap H locs) {ls : Array Slot} (hl : lv_has ls 9 [(4, .int (nI (5 * n))), (3, .ref (s.heap.size + 181)), (2, .ref (s.heap.size + 135)), (1, .ref s.heap.size), (0, .ref b)]) (hc : cells + 1426 ≤ room_1.cells ∧ slots + 11421 ≤ room_1.slots) (kk : ∀ (H1 : Heap) (locs1 : List Loc) (ls1 : Array Slot), lw_I D d cB cL s.heap.size (n + 1) H1 → va_S (rg_A s.heap.size) s.heap H1 locs1 → lv_has ls1 9 [(4, .int (nI (5 * n))), (3, .ref (s.heap.size + 181)), (2, .ref (s.heap.size + 135)), (1, .ref s.heap.size), (0, .ref b)] → W p l e room_1 s m #[Value.ref b] below meth c H1 locs1 (cells + 1426) (slots + 11421) (lw_Z below #[Value.ref b] s) (F0 m 1353 ls1 [])) : W p l e room_1 s m #[Value.ref b] below meth c H locs cells slots (lw_Z below #[Value.ref b] s) (F0 m 1340 ls []) := by
  obtain ⟨hx, hb, hr, hlocks, hml, hown, hts, hl0, hX, hbl, hK, hKK, hKL, hXE, hN, hL⟩ := id G
  have hts2 : ∀ w ∈ wsL_law, w.before #[Value.ref b] s = true := fun w h => hts w (wsL_law_in w h)
  have hbA : ¬ rg_A s.heap.size b := Nat.not_le.mpr hbl
  have hc1 := hc.1
  have hc2 := hc.2
  obtain ⟨P, F, R, σ, σ2, ρ, th, g, hmr, htr, hJ⟩ := hI
  refine lv_aload_n hx hb dL_law_1340 rfl (lv_at hl 3 rfl) ?_
  refine lw_clsl (As := []) ⟨hx, hb, hml, hown, hts2⟩ (kX4_digest l D d (rc_L (s.heap.size + 1)) σ (lw_A1 s.heap.size) s.heap.size (rc_L (s.heap.size + 68)) (lw_A2 s.heap.size) lw_dis (fun z => by have z : (s.heap.size + 1 ≤ s.heap.size ∧ s.heap.size < s.heap.size + 68) ∨ (s.heap.size + 68 ≤ s.heap.size ∧ s.heap.size < s.heap.size + 135) := z; omega) P F R hmr.hs σ2 htr hmr.liv hmr.cb) (cwV 0 hts2 gL_law_X4_digest rfl rfl rfl (by decide +kernel) ⟨Nat.le_of_ble_eq_true rfl, Nat.le_of_ble_eq_true rfl⟩) hK hXE hJ hS rfl hl.1 (Nat.le_of_ble_eq_true rfl) dL_law_1341 ⟨by omega, by omega⟩ rfl (fun r1 τ H locs hp hJ hS => ?_)
  obtain ⟨hp1, rfl⟩ := hp
  have htr := sp_dig_ok hmr.hs htr
  refine lv_pop2_2 hx hb dL_law_1344 rfl ?_
  refine lv_aload_n hx hb dL_law_1345 rfl (lv_at hl 2 rfl) ?_
  refine lw_refl (As := []) (mc := 1425) (ms := 11415) ⟨hx, hb, hml, hown, hts2⟩ (kX6_digest l D d cB (mL (s.heap.size + 136)) (s.heap.size + 135) th ρ (lw_M s.heap.size H.size) H.size P F R hmr.mh  (fun q h => Or.inr h)) (cwV 0 hts2 gL_law_X6_digest rfl rfl rfl (by decide +kernel) ⟨Nat.le_of_ble_eq_true rfl, Nat.le_of_ble_eq_true rfl⟩) hKK hJ hS rfl hl.1 (Nat.le_of_ble_eq_true rfl) dL_law_1346 ⟨by omega, by omega⟩ rfl (fun r2 X2 H locs hp hJ hS => ?_)
  obtain ⟨t2, q2⟩ := X2
  obtain ⟨hp2, e2_, e3_⟩ := hp
  have e2_ : (0 : Int32) = t2 := e2_
  have e3_ : ρ = q2 := e3_
  subst e2_ e3_
  refine lv_pop2_2 hx hb dL_law_1349 rfl ?_
  refine lv_goto (tgt := 1353) hx hb dL_law_1350 (by decide) ?_
  refine W.widen (k := cells + 1426) (n := slots + 11421) (by omega) (by omega) ?_
  exact kk _ _ _ ⟨_, _, _, _, _, _, _, _, hmr.up (Nat.le_succ n), htr, hJ⟩ hS (lv_sub hl [0, 1, 2, 3, 4] rfl)
