/-! THE LAW: its calls -/
set_option maxHeartbeats 4000000 in
set_option maxRecDepth 100000 in
/-- the law: swap -/
theorem lw_c8 {p : Program} {l : Launch} {e : Env} {s : State} {m : MethodId} {below : List Frame} {meth : Method} {c : Code} {b L : Nat} {D : va_G} {d : hs_Dm} {cB cL : ClassId} {xs : Nat → Int32} (G : lw_G p l s m meth c b L D d cB cL xs) {n : Nat} (hn5 : 5 * n + 5 ≤ L) {H : Heap} {locs : List Loc} {cells slots : Nat} (hI : lw_I D d cB cL s.heap.size n H) (hS : va_S (rg_A s.heap.size) s.heap H locs) {ls : Array Slot} (hl : lv_has ls 9 [(4, .int (nI (5 * n))), (3, .ref (s.heap.size + 181)), (2, .ref (s.heap.size + 135)), (1, .ref s.heap.size), (0, .ref b)]) (hc : cells + 1426 ≤ room_1.cells ∧ slots + 11421 ≤ room_1.slots) (kk : ∀ (H1 : Heap) (locs1 : List Loc) (ls1 : Array Slot), lw_I D d cB cL s.heap.size (n + 1) H1 → va_S (rg_A s.heap.size) s.heap H1 locs1 → lv_has ls1 9 [(4, .int (nI (5 * n))), (3, .ref (s.heap.size + 181)), (2, .ref (s.heap.size + 135)), (1, .ref s.heap.size), (0, .ref b)] → W p l e room_1 s m #[Value.ref b] below meth c H1 locs1 (cells + 1426) (slots + 11421) (lw_Z below #[Value.ref b] s) (F0 m 1353 ls1 [])) : W p l e room_1 s m #[Value.ref b] below meth c H locs cells slots (lw_Z below #[Value.ref b] s) (F0 m 532 ls []) := by
  obtain ⟨hx, hb, hr, hlocks, hml, hown, hts, hl0, hX, hbl, hK, hKK, hKL, hXE, hN, hL⟩ := id G
  have hts2 : ∀ w ∈ wsL_law, w.before #[Value.ref b] s = true := fun w h => hts w (wsL_law_in w h)
  have hbA : ¬ rg_A s.heap.size b := Nat.not_le.mpr hbl
  have hc1 := hc.1
  have hc2 := hc.2
  obtain ⟨P, F, R, σ, σ2, ρ, th, g, hmr, htr, hJ⟩ := hI
  obtain ⟨x1, hx1⟩ : ∃ x, xs (nI (5 * n) + 1).toNatClampNeg = x := ⟨_, rfl⟩
  obtain ⟨x2, hx2⟩ : ∃ x, xs (nI (5 * n) + 2).toNatClampNeg = x := ⟨_, rfl⟩
  refine lv_aload_n hx hb dL_law_532 rfl (lv_at hl 3 rfl) ?_
  refine lv_aload_n hx hb dL_law_533 rfl (lv_at hl 4 rfl) ?_
  refine lv_iload hx hb dL_law_534 (lv_at hl 0 rfl) ?_
  refine lv_iconst (v := 1) hx hb dL_law_536 (by decide) ?_
  refine lv_iadd hx hb dL_law_537 ?_
  refine va_sld (i := nI (5 * n) + 1) hx hb hX hbl hbA hS (lw_ix hn5 hL 1 (by decide)) dL_law_538 ?_
  rw [hx1]
  refine lv_aload_n hx hb dL_law_539 rfl (lv_at hl 4 rfl) ?_
  refine lv_iload hx hb dL_law_540 (lv_at hl 0 rfl) ?_
  refine lv_iconst (v := 2) hx hb dL_law_542 (by decide) ?_
  refine lv_iadd hx hb dL_law_543 ?_
  refine va_sld (i := nI (5 * n) + 2) hx hb hX hbl hbA hS (lw_ix hn5 hL 2 (by decide)) dL_law_544 ?_
  rw [hx2]
  refine lv_aload_n hx hb dL_law_545 rfl (lv_at hl 1 rfl) ?_
  refine lw_hlp (As := [.ref s.heap.size, .int x1, .int x2, .ref (s.heap.size + 181)]) ⟨hx, hb, hml, hown, hts2⟩ (hL_swap l D d s.heap.size (rc_L (s.heap.size + 1)) (rc_L (s.heap.size + 68)) σ (lw_A1 s.heap.size) (lw_B1 s.heap.size) (s.heap.size + 181) cL g (fun z => by have z : (s.heap.size + 1 ≤ s.heap.size ∧ s.heap.size < s.heap.size + 68) ∨ s.heap.size = s.heap.size + 181 := z; omega) (fun q h => Or.inl h) (Or.inr rfl) (fun z => by have z : s.heap.size + 1 ≤ s.heap.size + 181 ∧ s.heap.size + 181 < s.heap.size + 68 := z; omega) hl0 P F R hmr.hs x1 x2) (vx_cwSW 4 hts2 gL_law_L_swap rfl rfl rfl (by decide +kernel) ⟨Nat.le_of_ble_eq_true rfl, Nat.le_of_ble_eq_true rfl⟩) hK hKL hXE hN hJ hS rfl hl.1 (Nat.le_of_ble_eq_true rfl) dL_law_546 ⟨by omega, by omega⟩ rfl (fun r1 g' H locs hr1 hg0 hJ hS => ?_)
  subst hr1
  refine lv_istore (lv' := [(5, .int ((cl_swap F σ x1 x2).1)), (4, .int (nI (5 * n))), (3, .ref (s.heap.size + 181)), (2, .ref (s.heap.size + 135)), (1, .ref s.heap.size), (0, .ref b)]) hx hb dL_law_549 hl (by decide) rfl (fun ls hl => ?_)
  refine lv_aload_n hx hb dL_law_551 rfl (lv_at hl 3 rfl) ?_
  refine lv_aload_n hx hb dL_law_552 rfl (lv_at hl 5 rfl) ?_
  refine lv_iload hx hb dL_law_553 (lv_at hl 1 rfl) ?_
  refine lv_iconst (v := 1) hx hb dL_law_555 (by decide) ?_
  refine lv_iadd hx hb dL_law_556 ?_
  refine va_sld (i := nI (5 * n) + 1) hx hb hX hbl hbA hS (lw_ix hn5 hL 1 (by decide)) dL_law_557 ?_
  rw [hx1]
  refine lv_aload_n hx hb dL_law_558 rfl (lv_at hl 5 rfl) ?_
  refine lv_iload hx hb dL_law_559 (lv_at hl 1 rfl) ?_
  refine lv_iconst (v := 2) hx hb dL_law_561 (by decide) ?_
  refine lv_iadd hx hb dL_law_562 ?_
  refine va_sld (i := nI (5 * n) + 2) hx hb hX hbl hbA hS (lw_ix hn5 hL 2 (by decide)) dL_law_563 ?_
  rw [hx2]
  refine lw_ref (As := [.int x1, .int x2]) (mc := 0) (ms := 0) ⟨hx, hb, hml, hown, hts2⟩ (kX6_swap l D d cB (mL (s.heap.size + 136)) (s.heap.size + 135) th ρ (lw_M s.heap.size H.size) H.size P F R hmr.mh x1 x2) (cwV 2 hts2 gL_law_X6_swap rfl rfl rfl (by decide +kernel) ⟨Nat.le_of_ble_eq_true rfl, Nat.le_of_ble_eq_true rfl⟩) hKK hJ hS rfl hl.1 (Nat.le_of_ble_eq_true rfl) dL_law_564 ⟨by omega, by omega⟩ rfl (fun r2 X2 H locs hp hJ hS => ?_)
  refine lv_istore (lv' := [(6, .int r2), (5, .int ((cl_swap F σ x1 x2).1)), (4, .int (nI (5 * n))), (3, .ref (s.heap.size + 181)), (2, .ref (s.heap.size + 135)), (1, .ref s.heap.size), (0, .ref b)]) hx hb dL_law_567 hl (by decide) rfl (fun ls hl => ?_)
  refine lv_goto (tgt := 1353) hx hb dL_law_569 (by decide) ?_
  obtain ⟨s1, s2, P', F', R', hR, hmr2⟩ := sim_swap hmr hp
  refine W.widen (k := cells + 1426) (n := slots + 11421) (by omega) (by omega) ?_
  exact kk _ _ _ ⟨_, _, _, _, _, _, _, _, hmr2, htr.up hR, hJ⟩ hS (lv_sub hl [2, 3, 4, 5, 6] rfl)
set_option maxHeartbeats 4000000 in
set_option maxRecDepth 100000 in
/-- the law: mend -/
theorem lw_c9 {p : Program} {l : Launch} {e : Env} {s : State} {m : MethodId} {below : List Frame} {meth : Method} {c : Code} {b L : Nat} {D : va_G} {d : hs_Dm} {cB cL : ClassId} {xs : Nat → Int32} (G : lw_G p l s m meth c b L D d cB cL xs) {n : Nat} (hn5 : 5 * n + 5 ≤ L) {H : Heap} {locs : List Loc} {cells slots : Nat} (hI : lw_I D d cB cL s.heap.size n H) (hS : va_S (rg_A s.heap.size) s.heap H locs) {ls : Array Slot} (hl : lv_has ls 9 [(4, .int (nI (5 * n))), (3, .ref (s.heap.size + 181)), (2, .ref (s.heap.size + 135)), (1, .ref s.heap.size), (0, .ref b)]) (hc : cells + 1426 ≤ room_1.cells ∧ slots + 11421 ≤ room_1.slots) (kk : ∀ (H1 : Heap) (locs1 : List Loc) (ls1 : Array Slot), lw_I D d cB cL s.heap.size (n + 1) H1 → va_S (rg_A s.heap.size) s.heap H1 locs1 → lv_has ls1 9 [(4, .int (nI (5 * n))), (3, .ref (s.heap.size + 181)), (2, .ref (s.heap.size + 135)), (1, .ref s.heap.size), (0, .ref b)] → W p l e room_1 s m #[Value.ref b] below meth c H1 locs1 (cells + 1426) (slots + 11421) (lw_Z below #[Value.ref b] s) (F0 m 1353 ls1 [])) : W p l e room_1 s m #[Value.ref b] below meth c H locs cells slots (lw_Z below #[Value.ref b] s) (F0 m 572 ls []) := by
  obtain ⟨hx, hb, hr, hlocks, hml, hown, hts, hl0, hX, hbl, hK, hKK, hKL, hXE, hN, hL⟩ := id G
  have hts2 : ∀ w ∈ wsL_law, w.before #[Value.ref b] s = true := fun w h => hts w (wsL_law_in w h)
  have hbA : ¬ rg_A s.heap.size b := Nat.not_le.mpr hbl
  have hc1 := hc.1
  have hc2 := hc.2
  obtain ⟨P, F, R, σ, σ2, ρ, th, g, hmr, htr, hJ⟩ := hI
  obtain ⟨x1, hx1⟩ : ∃ x, xs (nI (5 * n) + 1).toNatClampNeg = x := ⟨_, rfl⟩
  refine lv_aload_n hx hb dL_law_572 rfl (lv_at hl 3 rfl) ?_
  refine lv_aload_n hx hb dL_law_573 rfl (lv_at hl 4 rfl) ?_
  refine lv_iload hx hb dL_law_574 (lv_at hl 0 rfl) ?_
  refine lv_iconst (v := 1) hx hb dL_law_576 (by decide) ?_
  refine lv_iadd hx hb dL_law_577 ?_
  refine va_sld (i := nI (5 * n) + 1) hx hb hX hbl hbA hS (lw_ix hn5 hL 1 (by decide)) dL_law_578 ?_
  rw [hx1]
  refine lv_aload_n hx hb dL_law_579 rfl (lv_at hl 1 rfl) ?_
  refine lw_hlp (As := [.ref s.heap.size, .int x1, .ref (s.heap.size + 181)]) ⟨hx, hb, hml, hown, hts2⟩ (hL_mend l D d s.heap.size (rc_L (s.heap.size + 1)) (rc_L (s.heap.size + 68)) σ (lw_A1 s.heap.size) (lw_B1 s.heap.size) (s.heap.size + 181) cL g (fun z => by have z : (s.heap.size + 1 ≤ s.heap.size ∧ s.heap.size < s.heap.size + 68) ∨ s.heap.size = s.heap.size + 181 := z; omega) (fun q h => Or.inl h) (Or.inr rfl) (fun z => by have z : s.heap.size + 1 ≤ s.heap.size + 181 ∧ s.heap.size + 181 < s.heap.size + 68 := z; omega) hl0 P F R hmr.hs x1) (vx_cwSW 3 hts2 gL_law_L_mend rfl rfl rfl (by decide +kernel) ⟨Nat.le_of_ble_eq_true rfl, Nat.le_of_ble_eq_true rfl⟩) hK hKL hXE hN hJ hS rfl hl.1 (Nat.le_of_ble_eq_true rfl) dL_law_580 ⟨by omega, by omega⟩ rfl (fun r1 g' H locs hr1 hg0 hJ hS => ?_)
  subst hr1
  refine lv_istore (lv' := [(5, .int ((cl_mend F σ x1).1)), (4, .int (nI (5 * n))), (3, .ref (s.heap.size + 181)), (2, .ref (s.heap.size + 135)), (1, .ref s.heap.size), (0, .ref b)]) hx hb dL_law_583 hl (by decide) rfl (fun ls hl => ?_)
  refine lv_aload_n hx hb dL_law_585 rfl (lv_at hl 3 rfl) ?_
  refine lv_aload_n hx hb dL_law_586 rfl (lv_at hl 5 rfl) ?_
  refine lv_iload hx hb dL_law_587 (lv_at hl 1 rfl) ?_
  refine lv_iconst (v := 1) hx hb dL_law_589 (by decide) ?_
  refine lv_iadd hx hb dL_law_590 ?_
  refine va_sld (i := nI (5 * n) + 1) hx hb hX hbl hbA hS (lw_ix hn5 hL 1 (by decide)) dL_law_591 ?_
  rw [hx1]
  refine lw_ref (As := [.int x1]) (mc := 0) (ms := 0) ⟨hx, hb, hml, hown, hts2⟩ (kX6_mend l D d cB (mL (s.heap.size + 136)) (s.heap.size + 135) th ρ (lw_M s.heap.size H.size) H.size P F R hmr.mh x1) (cwV 1 hts2 gL_law_X6_mend rfl rfl rfl (by decide +kernel) ⟨Nat.le_of_ble_eq_true rfl, Nat.le_of_ble_eq_true rfl⟩) hKK hJ hS rfl hl.1 (Nat.le_of_ble_eq_true rfl) dL_law_592 ⟨by omega, by omega⟩ rfl (fun r2 X2 H locs hp hJ hS => ?_)
  refine lv_istore (lv' := [(6, .int r2), (5, .int ((cl_mend F σ x1).1)), (4, .int (nI (5 * n))), (3, .ref (s.heap.size + 181)), (2, .ref (s.heap.size + 135)), (1, .ref s.heap.size), (0, .ref b)]) hx hb dL_law_595 hl (by decide) rfl (fun ls hl => ?_)
  refine lv_goto (tgt := 1353) hx hb dL_law_597 (by decide) ?_
  obtain ⟨s1, s2, P', F', R', hR, hmr2⟩ := sim_mend hmr hp
  refine W.widen (k := cells + 1426) (n := slots + 11421) (by omega) (by omega) ?_
  exact kk _ _ _ ⟨_, _, _, _, _, _, _, _, hmr2, htr.up hR, hJ⟩ hS (lv_sub hl [2, 3, 4, 5, 6] rfl)
set_option maxHeartbeats 4000000 in
set_option maxRecDepth 100000 in
/-- the law: melt -/
theorem lw_c10 {p : Program} {l : Launch} {e : Env} {s : State} {m : MethodId} {below : List Frame} {meth : Method} {c : Code} {b L : Nat} {D : va_G} {d : hs_Dm} {cB cL : ClassId} {xs : Nat → Int32} (G : lw_G p l s m meth c b L D d cB cL xs) {n : Nat} (hn5 : 5 * n + 5 ≤ L) {H : Heap} {locs : List Loc} {cells slots : Nat} (hI : lw_I D d cB cL s.heap.size n H) (hS : va_S (rg_A s.heap.size) s.heap H locs) {ls : Array Slot} (hl : lv_has ls 9 [(4, .int (nI (5 * n))), (3, .ref (s.heap.size + 181)), (2, .ref (s.heap.size + 135)), (1, .ref s.heap.size), (0, .ref b)]) (hc : cells + 1426 ≤ room_1.cells ∧ slots + 11421 ≤ room_1.slots) (kk : ∀ (H1 : Heap) (locs1 : List Loc) (ls1 : Array Slot), lw_I D d cB cL s.heap.size (n + 1) H1 → va_S (rg_A s.heap.size) s.heap H1 locs1 → lv_has ls1 9 [(4, .int (nI (5 * n))), (3, .ref (s.heap.size + 181)), (2, .ref (s.heap.size + 135)), (1, .ref s.heap.size), (0, .ref b)] → W p l e room_1 s m #[Value.ref b] below meth c H1 locs1 (cells + 1426) (slots + 11421) (lw_Z below #[Value.ref b] s) (F0 m 1353 ls1 [])) : W p l e room_1 s m #[Value.ref b] below meth c H locs cells slots (lw_Z below #[Value.ref b] s) (F0 m 600 ls []) := by
  obtain ⟨hx, hb, hr, hlocks, hml, hown, hts, hl0, hX, hbl, hK, hKK, hKL, hXE, hN, hL⟩ := id G
  have hts2 : ∀ w ∈ wsL_law, w.before #[Value.ref b] s = true := fun w h => hts w (wsL_law_in w h)
  have hbA : ¬ rg_A s.heap.size b := Nat.not_le.mpr hbl
  have hc1 := hc.1
  have hc2 := hc.2
  obtain ⟨P, F, R, σ, σ2, ρ, th, g, hmr, htr, hJ⟩ := hI
  obtain ⟨x1, hx1⟩ : ∃ x, xs (nI (5 * n) + 1).toNatClampNeg = x := ⟨_, rfl⟩
  refine lv_aload_n hx hb dL_law_600 rfl (lv_at hl 3 rfl) ?_
  refine lv_aload_n hx hb dL_law_601 rfl (lv_at hl 4 rfl) ?_
  refine lv_iload hx hb dL_law_602 (lv_at hl 0 rfl) ?_
  refine lv_iconst (v := 1) hx hb dL_law_604 (by decide) ?_
  refine lv_iadd hx hb dL_law_605 ?_
  refine va_sld (i := nI (5 * n) + 1) hx hb hX hbl hbA hS (lw_ix hn5 hL 1 (by decide)) dL_law_606 ?_
  rw [hx1]
  refine lv_aload_n hx hb dL_law_607 rfl (lv_at hl 1 rfl) ?_
  refine lw_hlp (As := [.ref s.heap.size, .int x1, .ref (s.heap.size + 181)]) ⟨hx, hb, hml, hown, hts2⟩ (hL_melt l D d s.heap.size (rc_L (s.heap.size + 1)) (rc_L (s.heap.size + 68)) σ (lw_A1 s.heap.size) (lw_B1 s.heap.size) (s.heap.size + 181) cL g (fun z => by have z : (s.heap.size + 1 ≤ s.heap.size ∧ s.heap.size < s.heap.size + 68) ∨ s.heap.size = s.heap.size + 181 := z; omega) (fun q h => Or.inl h) (Or.inr rfl) (fun z => by have z : s.heap.size + 1 ≤ s.heap.size + 181 ∧ s.heap.size + 181 < s.heap.size + 68 := z; omega) hl0 P F R hmr.hs x1) (vx_cwSW 3 hts2 gL_law_L_melt rfl rfl rfl (by decide +kernel) ⟨Nat.le_of_ble_eq_true rfl, Nat.le_of_ble_eq_true rfl⟩) hK hKL hXE hN hJ hS rfl hl.1 (Nat.le_of_ble_eq_true rfl) dL_law_608 ⟨by omega, by omega⟩ rfl (fun r1 g' H locs hr1 hg0 hJ hS => ?_)
  subst hr1
  refine lv_istore (lv' := [(5, .int ((cl_melt F σ x1).1)), (4, .int (nI (5 * n))), (3, .ref (s.heap.size + 181)), (2, .ref (s.heap.size + 135)), (1, .ref s.heap.size), (0, .ref b)]) hx hb dL_law_611 hl (by decide) rfl (fun ls hl => ?_)
  refine lv_aload_n hx hb dL_law_613 rfl (lv_at hl 3 rfl) ?_
  refine lv_aload_n hx hb dL_law_614 rfl (lv_at hl 5 rfl) ?_
  refine lv_iload hx hb dL_law_615 (lv_at hl 1 rfl) ?_
  refine lv_iconst (v := 1) hx hb dL_law_617 (by decide) ?_
  refine lv_iadd hx hb dL_law_618 ?_
  refine va_sld (i := nI (5 * n) + 1) hx hb hX hbl hbA hS (lw_ix hn5 hL 1 (by decide)) dL_law_619 ?_
  rw [hx1]
  refine lw_ref (As := [.int x1]) (mc := 0) (ms := 0) ⟨hx, hb, hml, hown, hts2⟩ (kX6_melt l D d cB (mL (s.heap.size + 136)) (s.heap.size + 135) th ρ (lw_M s.heap.size H.size) H.size P F R hmr.mh x1) (cwV 1 hts2 gL_law_X6_melt rfl rfl rfl (by decide +kernel) ⟨Nat.le_of_ble_eq_true rfl, Nat.le_of_ble_eq_true rfl⟩) hKK hJ hS rfl hl.1 (Nat.le_of_ble_eq_true rfl) dL_law_620 ⟨by omega, by omega⟩ rfl (fun r2 X2 H locs hp hJ hS => ?_)
  refine lv_istore (lv' := [(6, .int r2), (5, .int ((cl_melt F σ x1).1)), (4, .int (nI (5 * n))), (3, .ref (s.heap.size + 181)), (2, .ref (s.heap.size + 135)), (1, .ref s.heap.size), (0, .ref b)]) hx hb dL_law_623 hl (by decide) rfl (fun ls hl => ?_)
  refine lv_goto (tgt := 1353) hx hb dL_law_625 (by decide) ?_
  obtain ⟨s1, s2, P', F', R', hR, hmr2⟩ := sim_melt (by omega) hmr hp
  refine W.widen (k := cells + 1426) (n := slots + 11421) (by omega) (by omega) ?_
  exact kk _ _ _ ⟨_, _, _, _, _, _, _, _, hmr2, htr.up hR, hJ⟩ hS (lv_sub hl [2, 3, 4, 5, 6] rfl)
set_option maxHeartbeats 4000000 in
set_option maxRecDepth 100000 in
/-- the law: tour -/
theorem lw_c11 {p : Program} {l : Launch} {e : Env} {s : State} {m : MethodId} {below : List Frame} {meth : Method} {c : Code} {b L : Nat} {D : va_G} {d : hs_Dm} {cB cL : ClassId} {xs : Nat → Int32} (G : lw_G p l s m meth c b L D d cB cL xs) {n : Nat} (hn5 : 5 * n + 5 ≤ L) {H : Heap} {locs : List Loc} {cells slots : Nat} (hI : lw_I D d cB cL s.heap.size n H) (hS : va_S (rg_A s.heap.size) s.heap H locs) {ls : Array Slot} (hl : lv_has ls 9 [(4, .int (nI (5 * n))), (3, .ref (s.heap.size + 181)), (2, .ref (s.heap.size + 135)), (1, .ref s.heap.size), (0, .ref b)]) (hc : cells + 1426 ≤ room_1.cells ∧ slots + 11421 ≤ room_1.slots) (kk : ∀ (H1 : Heap) (locs1 : List Loc) (ls1 : Array Slot), lw_I D d cB cL s.heap.size (n + 1) H1 → va_S (rg_A s.heap.size) s.heap H1 locs1 → lv_has ls1 9 [(4, .int (nI (5 * n))), (3, .ref (s.heap.size + 181)), (2, .ref (s.heap.size + 135)), (1, .ref s.heap.size), (0, .ref b)] → W p l e room_1 s m #[Value.ref b] below meth c H1 locs1 (cells + 1426) (slots + 11421) (lw_Z below #[Value.ref b] s) (F0 m 1353 ls1 [])) : W p l e room_1 s m #[Value.ref b] below meth c H locs cells slots (lw_Z below #[Value.ref b] s) (F0 m 628 ls []) := by
  obtain ⟨hx, hb, hr, hlocks, hml, hown, hts, hl0, hX, hbl, hK, hKK, hKL, hXE, hN, hL⟩ := id G
  have hts2 : ∀ w ∈ wsL_law, w.before #[Value.ref b] s = true := fun w h => hts w (wsL_law_in w h)
  have hbA : ¬ rg_A s.heap.size b := Nat.not_le.mpr hbl
  have hc1 := hc.1
  have hc2 := hc.2
  obtain ⟨P, F, R, σ, σ2, ρ, th, g, hmr, htr, hJ⟩ := hI
  obtain ⟨x1, hx1⟩ : ∃ x, xs (nI (5 * n) + 1).toNatClampNeg = x := ⟨_, rfl⟩
  obtain ⟨x2, hx2⟩ : ∃ x, xs (nI (5 * n) + 2).toNatClampNeg = x := ⟨_, rfl⟩
  obtain ⟨x3, hx3⟩ : ∃ x, xs (nI (5 * n) + 3).toNatClampNeg = x := ⟨_, rfl⟩
  refine lv_aload_n hx hb dL_law_628 rfl (lv_at hl 3 rfl) ?_
  refine lv_aload_n hx hb dL_law_629 rfl (lv_at hl 4 rfl) ?_
  refine lv_iload hx hb dL_law_630 (lv_at hl 0 rfl) ?_
  refine lv_iconst (v := 1) hx hb dL_law_632 (by decide) ?_
  refine lv_iadd hx hb dL_law_633 ?_
  refine va_sld (i := nI (5 * n) + 1) hx hb hX hbl hbA hS (lw_ix hn5 hL 1 (by decide)) dL_law_634 ?_
  rw [hx1]
  refine lv_aload_n hx hb dL_law_635 rfl (lv_at hl 4 rfl) ?_
  refine lv_iload hx hb dL_law_636 (lv_at hl 0 rfl) ?_
  refine lv_iconst (v := 2) hx hb dL_law_638 (by decide) ?_
  refine lv_iadd hx hb dL_law_639 ?_
  refine va_sld (i := nI (5 * n) + 2) hx hb hX hbl hbA hS (lw_ix hn5 hL 2 (by decide)) dL_law_640 ?_
  rw [hx2]
  refine lv_aload_n hx hb dL_law_641 rfl (lv_at hl 4 rfl) ?_
  refine lv_iload hx hb dL_law_642 (lv_at hl 0 rfl) ?_
  refine lv_iconst (v := 3) hx hb dL_law_644 (by decide) ?_
  refine lv_iadd hx hb dL_law_645 ?_
  refine va_sld (i := nI (5 * n) + 3) hx hb hX hbl hbA hS (lw_ix hn5 hL 3 (by decide)) dL_law_646 ?_
  rw [hx3]
  refine lv_aload_n hx hb dL_law_647 rfl (lv_at hl 1 rfl) ?_
  refine lw_hlp (As := [.ref s.heap.size, .int x1, .int x2, .int x3, .ref (s.heap.size + 181)]) ⟨hx, hb, hml, hown, hts2⟩ (hL_tour l D d s.heap.size (rc_L (s.heap.size + 1)) (rc_L (s.heap.size + 68)) σ (lw_A1 s.heap.size) (lw_B1 s.heap.size) (s.heap.size + 181) cL g (fun z => by have z : (s.heap.size + 1 ≤ s.heap.size ∧ s.heap.size < s.heap.size + 68) ∨ s.heap.size = s.heap.size + 181 := z; omega) (fun q h => Or.inl h) (Or.inr rfl) (fun z => by have z : s.heap.size + 1 ≤ s.heap.size + 181 ∧ s.heap.size + 181 < s.heap.size + 68 := z; omega) hl0 P F R hmr.hs x1 x2 x3) (vx_cwSW 5 hts2 gL_law_L_tour rfl rfl rfl (by decide +kernel) ⟨Nat.le_of_ble_eq_true rfl, Nat.le_of_ble_eq_true rfl⟩) hK hKL hXE hN hJ hS rfl hl.1 (Nat.le_of_ble_eq_true rfl) dL_law_648 ⟨by omega, by omega⟩ rfl (fun r1 g' H locs hr1 hg0 hJ hS => ?_)
  subst hr1
  refine lv_istore (lv' := [(5, .int ((cl_tour F σ x1 x2 x3).1)), (4, .int (nI (5 * n))), (3, .ref (s.heap.size + 181)), (2, .ref (s.heap.size + 135)), (1, .ref s.heap.size), (0, .ref b)]) hx hb dL_law_651 hl (by decide) rfl (fun ls hl => ?_)
  refine lv_aload_n hx hb dL_law_653 rfl (lv_at hl 3 rfl) ?_
  refine lv_aload_n hx hb dL_law_654 rfl (lv_at hl 5 rfl) ?_
  refine lv_iload hx hb dL_law_655 (lv_at hl 1 rfl) ?_
  refine lv_iconst (v := 1) hx hb dL_law_657 (by decide) ?_
  refine lv_iadd hx hb dL_law_658 ?_
  refine va_sld (i := nI (5 * n) + 1) hx hb hX hbl hbA hS (lw_ix hn5 hL 1 (by decide)) dL_law_659 ?_
  rw [hx1]
  refine lv_aload_n hx hb dL_law_660 rfl (lv_at hl 5 rfl) ?_
  refine lv_iload hx hb dL_law_661 (lv_at hl 1 rfl) ?_
  refine lv_iconst (v := 2) hx hb dL_law_663 (by decide) ?_
  refine lv_iadd hx hb dL_law_664 ?_
  refine va_sld (i := nI (5 * n) + 2) hx hb hX hbl hbA hS (lw_ix hn5 hL 2 (by decide)) dL_law_665 ?_
  rw [hx2]
  refine lv_aload_n hx hb dL_law_666 rfl (lv_at hl 5 rfl) ?_
  refine lv_iload hx hb dL_law_667 (lv_at hl 1 rfl) ?_
  refine lv_iconst (v := 3) hx hb dL_law_669 (by decide) ?_
  refine lv_iadd hx hb dL_law_670 ?_
  refine va_sld (i := nI (5 * n) + 3) hx hb hX hbl hbA hS (lw_ix hn5 hL 3 (by decide)) dL_law_671 ?_
  rw [hx3]
  refine lw_ref (As := [.int x1, .int x2, .int x3]) (mc := 0) (ms := 0) ⟨hx, hb, hml, hown, hts2⟩ (kX6_tour l D d cB (mL (s.heap.size + 136)) (s.heap.size + 135) th ρ (lw_M s.heap.size H.size) H.size P F R hmr.mh x1 x2 x3) (cwV 3 hts2 gL_law_X6_tour rfl rfl rfl (by decide +kernel) ⟨Nat.le_of_ble_eq_true rfl, Nat.le_of_ble_eq_true rfl⟩) hKK hJ hS rfl hl.1 (Nat.le_of_ble_eq_true rfl) dL_law_672 ⟨by omega, by omega⟩ rfl (fun r2 X2 H locs hp hJ hS => ?_)
  refine lv_istore (lv' := [(6, .int r2), (5, .int ((cl_tour F σ x1 x2 x3).1)), (4, .int (nI (5 * n))), (3, .ref (s.heap.size + 181)), (2, .ref (s.heap.size + 135)), (1, .ref s.heap.size), (0, .ref b)]) hx hb dL_law_675 hl (by decide) rfl (fun ls hl => ?_)
  refine lv_goto (tgt := 1353) hx hb dL_law_677 (by decide) ?_
  obtain ⟨s1, s2, P', F', R', hR, hmr2⟩ := sim_tour hmr hp
  refine W.widen (k := cells + 1426) (n := slots + 11421) (by omega) (by omega) ?_
  exact kk _ _ _ ⟨_, _, _, _, _, _, _, _, hmr2, htr.up hR, hJ⟩ hS (lv_sub hl [2, 3, 4, 5, 6] rfl)
set_option maxHeartbeats 4000000 in
set_option maxRecDepth 100000 in
/-- the law: room -/
theorem lw_c12 {p : Program} {l : Launch} {e : Env} {s : State} {m : MethodId} {below : List Frame} {meth : Method} {c : Code} {b L : Nat} {D : va_G} {d : hs_Dm} {cB cL : ClassId} {xs : Nat → Int32} (G : lw_G p l s m meth c b L D d cB cL xs) {n : Nat} (hn5 : 5 * n + 5 ≤ L) {H : Heap} {locs : List Loc} {cells slots : Nat} (hI : lw_I D d cB cL s.heap.size n H) (hS : va_S (rg_A s.heap.size) s.heap H locs) {ls : Array Slot} (hl : lv_has ls 9 [(4, .int (nI (5 * n))), (3, .ref (s.heap.size + 181)), (2, .ref (s.heap.size + 135)), (1, .ref s.heap.size), (0, .ref b)]) (hc : cells + 1426 ≤ room_1.cells ∧ slots + 11421 ≤ room_1.slots) (kk : ∀ (H1 : Heap) (locs1 : List Loc) (ls1 : Array Slot), lw_I D d cB cL s.heap.size (n + 1) H1 → va_S (rg_A s.heap.size) s.heap H1 locs1 → lv_has ls1 9 [(4, .int (nI (5 * n))), (3, .ref (s.heap.size + 181)), (2, .ref (s.heap.size + 135)), (1, .ref s.heap.size), (0, .ref b)] → W p l e room_1 s m #[Value.ref b] below meth c H1 locs1 (cells + 1426) (slots + 11421) (lw_Z below #[Value.ref b] s) (F0 m 1353 ls1 [])) : W p l e room_1 s m #[Value.ref b] below meth c H locs cells slots (lw_Z below #[Value.ref b] s) (F0 m 680 ls []) := by
  obtain ⟨hx, hb, hr, hlocks, hml, hown, hts, hl0, hX, hbl, hK, hKK, hKL, hXE, hN, hL⟩ := id G
  have hts2 : ∀ w ∈ wsL_law, w.before #[Value.ref b] s = true := fun w h => hts w (wsL_law_in w h)
  have hbA : ¬ rg_A s.heap.size b := Nat.not_le.mpr hbl
  have hc1 := hc.1
  have hc2 := hc.2
  obtain ⟨P, F, R, σ, σ2, ρ, th, g, hmr, htr, hJ⟩ := hI
  obtain ⟨x1, hx1⟩ : ∃ x, xs (nI (5 * n) + 1).toNatClampNeg = x := ⟨_, rfl⟩
  obtain ⟨x2, hx2⟩ : ∃ x, xs (nI (5 * n) + 2).toNatClampNeg = x := ⟨_, rfl⟩
  refine lv_aload_n hx hb dL_law_680 rfl (lv_at hl 3 rfl) ?_
  refine lv_aload_n hx hb dL_law_681 rfl (lv_at hl 4 rfl) ?_
  refine lv_iload hx hb dL_law_682 (lv_at hl 0 rfl) ?_
  refine lv_iconst (v := 1) hx hb dL_law_684 (by decide) ?_
  refine lv_iadd hx hb dL_law_685 ?_
  refine va_sld (i := nI (5 * n) + 1) hx hb hX hbl hbA hS (lw_ix hn5 hL 1 (by decide)) dL_law_686 ?_
  rw [hx1]
  refine lv_aload_n hx hb dL_law_687 rfl (lv_at hl 4 rfl) ?_
  refine lv_iload hx hb dL_law_688 (lv_at hl 0 rfl) ?_
  refine lv_iconst (v := 2) hx hb dL_law_690 (by decide) ?_
  refine lv_iadd hx hb dL_law_691 ?_
  refine va_sld (i := nI (5 * n) + 2) hx hb hX hbl hbA hS (lw_ix hn5 hL 2 (by decide)) dL_law_692 ?_
  rw [hx2]
  refine lv_aload_n hx hb dL_law_693 rfl (lv_at hl 1 rfl) ?_
  refine lw_hlp (As := [.ref s.heap.size, .int x1, .int x2, .ref (s.heap.size + 181)]) ⟨hx, hb, hml, hown, hts2⟩ (hL_room l D d s.heap.size (rc_L (s.heap.size + 1)) (rc_L (s.heap.size + 68)) σ (lw_A1 s.heap.size) (lw_B1 s.heap.size) (s.heap.size + 181) cL g (fun z => by have z : (s.heap.size + 1 ≤ s.heap.size ∧ s.heap.size < s.heap.size + 68) ∨ s.heap.size = s.heap.size + 181 := z; omega) (fun q h => Or.inl h) (Or.inr rfl) (fun z => by have z : s.heap.size + 1 ≤ s.heap.size + 181 ∧ s.heap.size + 181 < s.heap.size + 68 := z; omega) hl0 P F R hmr.hs x1 x2) (vx_cwSW 4 hts2 gL_law_L_room rfl rfl rfl (by decide +kernel) ⟨Nat.le_of_ble_eq_true rfl, Nat.le_of_ble_eq_true rfl⟩) hK hKL hXE hN hJ hS rfl hl.1 (Nat.le_of_ble_eq_true rfl) dL_law_694 ⟨by omega, by omega⟩ rfl (fun r1 g' H locs hr1 hg0 hJ hS => ?_)
  subst hr1
  refine lv_istore (lv' := [(5, .int ((cl_room R σ x1 x2).1)), (4, .int (nI (5 * n))), (3, .ref (s.heap.size + 181)), (2, .ref (s.heap.size + 135)), (1, .ref s.heap.size), (0, .ref b)]) hx hb dL_law_697 hl (by decide) rfl (fun ls hl => ?_)
  refine lv_aload_n hx hb dL_law_699 rfl (lv_at hl 3 rfl) ?_
  refine lv_aload_n hx hb dL_law_700 rfl (lv_at hl 5 rfl) ?_
  refine lv_iload hx hb dL_law_701 (lv_at hl 1 rfl) ?_
  refine lv_iconst (v := 1) hx hb dL_law_703 (by decide) ?_
  refine lv_iadd hx hb dL_law_704 ?_
  refine va_sld (i := nI (5 * n) + 1) hx hb hX hbl hbA hS (lw_ix hn5 hL 1 (by decide)) dL_law_705 ?_
  rw [hx1]
  refine lv_aload_n hx hb dL_law_706 rfl (lv_at hl 5 rfl) ?_
  refine lv_iload hx hb dL_law_707 (lv_at hl 1 rfl) ?_
  refine lv_iconst (v := 2) hx hb dL_law_709 (by decide) ?_
  refine lv_iadd hx hb dL_law_710 ?_
  refine va_sld (i := nI (5 * n) + 2) hx hb hX hbl hbA hS (lw_ix hn5 hL 2 (by decide)) dL_law_711 ?_
  rw [hx2]
  refine lw_ref (As := [.int x1, .int x2]) (mc := 0) (ms := 0) ⟨hx, hb, hml, hown, hts2⟩ (kX6_room l D d cB (mL (s.heap.size + 136)) (s.heap.size + 135) th ρ (lw_M s.heap.size H.size) H.size P F R hmr.mh x1 x2) (cwV 2 hts2 gL_law_X6_room rfl rfl rfl (by decide +kernel) ⟨Nat.le_of_ble_eq_true rfl, Nat.le_of_ble_eq_true rfl⟩) hKK hJ hS rfl hl.1 (Nat.le_of_ble_eq_true rfl) dL_law_712 ⟨by omega, by omega⟩ rfl (fun r2 X2 H locs hp hJ hS => ?_)
  refine lv_istore (lv' := [(6, .int r2), (5, .int ((cl_room R σ x1 x2).1)), (4, .int (nI (5 * n))), (3, .ref (s.heap.size + 181)), (2, .ref (s.heap.size + 135)), (1, .ref s.heap.size), (0, .ref b)]) hx hb dL_law_715 hl (by decide) rfl (fun ls hl => ?_)
  refine lv_aload_n hx hb dL_law_717 rfl (lv_at hl 4 rfl) ?_
  refine lw_ref (As := []) ⟨hx, hb, hml, hown, hts2⟩ (kX6_thrown l D d cB (mL (s.heap.size + 136)) (s.heap.size + 135) X2.1 X2.2 (lw_M s.heap.size H.size) H.size) (cwV 0 hts2 gL_law_X6_thrown rfl rfl rfl (by decide +kernel) ⟨Nat.le_of_ble_eq_true rfl, Nat.le_of_ble_eq_true rfl⟩) hKK hJ hS rfl hl.1 (Nat.le_of_ble_eq_true rfl) dL_law_718 ⟨by omega, by omega⟩ rfl (fun r3 X3 H locs hp3 hJ hS => ?_)
  obtain ⟨s1, s2, P', F', R', hR, hmr2⟩ := sim_room hmr hp
  obtain ⟨t3, q3⟩ := X3
  obtain ⟨e1_, e2_, e3_⟩ := hp3
  have e2_ : X2.1 = t3 := e2_
  have e3_ : X2.2 = q3 := e3_
  subst e1_ e2_ e3_
  refine lv_iload hx hb dL_law_721 (lv_at hl 1 rfl) ?_
  refine lv_icmp_eq (tgt := 728) hx hb dL_law_723 (by decide) (fun c_723 => ?_) (fun c_723 => ?_)
  · refine lv_iload hx hb dL_law_728 (lv_at hl 1 rfl) ?_
    refine lv_if_ne (tgt := 745) hx hb dL_law_730 (by decide) (fun c_730 => ?_) (fun c_730 => ?_)
    · refine lv_goto (tgt := 1353) hx hb dL_law_745 (by decide) ?_
      refine W.widen (k := cells + 1426) (n := slots + 11421) (by omega) (by omega) ?_
      exact kk _ _ _ ⟨_, _, _, _, _, _, _, _, hmr2, htr.up hR, hJ⟩ hS (lv_sub hl [2, 3, 4, 5, 6] rfl)
    · refine lv_aload_n hx hb dL_law_733 rfl (lv_at hl 3 rfl) ?_
      refine lv_iconst (v := 0) hx hb dL_law_734 (by decide) ?_
      refine va_lald hx hb hKL hJ.2.2.2.2.1 0 0 rfl rfl (by unfold vp_in; decide) dL_law_735 ?_
      rw [show g' (0 : Int32).toNatClampNeg = r2.toInt64 from by rw [show (0 : Int32).toNatClampNeg = 0 from by decide, hg0 c_730, s2 c_730]]
      refine lv_iload hx hb dL_law_736 (lv_at hl 0 rfl) ?_
      refine lv_i2l hx hb dL_law_738 rfl ?_
      refine W.lcmp hx hb dL_law_739 ?_
      rw [lg_cmp_self]
      refine lv_if_eq (tgt := 745) hx hb dL_law_740 (by decide) (fun c_740 => ?_) (fun c_740 => absurd rfl c_740)
      refine lv_goto (tgt := 1353) hx hb dL_law_745 (by decide) ?_
      refine W.widen (k := cells + 1426) (n := slots + 11421) (by omega) (by omega) ?_
      exact kk _ _ _ ⟨_, _, _, _, _, _, _, _, hmr2, htr.up hR, hJ⟩ hS (lv_sub hl [2, 3, 4, 5, 6] rfl)
  · first | exact absurd s1 c_723 | exact absurd s1.symm c_723
set_option maxHeartbeats 4000000 in
set_option maxRecDepth 100000 in
/-- the law: lamps -/
theorem lw_c13 {p : Program} {l : Launch} {e : Env} {s : State} {m : MethodId} {below : List Frame} {meth : Method} {c : Code} {b L : Nat} {D : va_G} {d : hs_Dm} {cB cL : ClassId} {xs : Nat → Int32} (G : lw_G p l s m meth c b L D d cB cL xs) {n : Nat} (hn5 : 5 * n + 5 ≤ L) {H : Heap} {locs : List Loc} {cells slots : Nat} (hI : lw_I D d cB cL s.heap.size n H) (hS : va_S (rg_A s.heap.size) s.heap H locs) {ls : Array Slot} (hl : lv_has ls 9 [(4, .int (nI (5 * n))), (3, .ref (s.heap.size + 181)), (2, .ref (s.heap.size + 135)), (1, .ref s.heap.size), (0, .ref b)]) (hc : cells + 1426 ≤ room_1.cells ∧ slots + 11421 ≤ room_1.slots) (kk : ∀ (H1 : Heap) (locs1 : List Loc) (ls1 : Array Slot), lw_I D d cB cL s.heap.size (n + 1) H1 → va_S (rg_A s.heap.size) s.heap H1 locs1 → lv_has ls1 9 [(4, .int (nI (5 * n))), (3, .ref (s.heap.size + 181)), (2, .ref (s.heap.size + 135)), (1, .ref s.heap.size), (0, .ref b)] → W p l e room_1 s m #[Value.ref b] below meth c H1 locs1 (cells + 1426) (slots + 11421) (lw_Z below #[Value.ref b] s) (F0 m 1353 ls1 [])) : W p l e room_1 s m #[Value.ref b] below meth c H locs cells slots (lw_Z below #[Value.ref b] s) (F0 m 748 ls []) := by
  obtain ⟨hx, hb, hr, hlocks, hml, hown, hts, hl0, hX, hbl, hK, hKK, hKL, hXE, hN, hL⟩ := id G
  have hts2 : ∀ w ∈ wsL_law, w.before #[Value.ref b] s = true := fun w h => hts w (wsL_law_in w h)
  have hbA : ¬ rg_A s.heap.size b := Nat.not_le.mpr hbl
  have hc1 := hc.1
  have hc2 := hc.2
  obtain ⟨P, F, R, σ, σ2, ρ, th, g, hmr, htr, hJ⟩ := hI
  obtain ⟨x1, hx1⟩ : ∃ x, xs (nI (5 * n) + 1).toNatClampNeg = x := ⟨_, rfl⟩
  obtain ⟨x2, hx2⟩ : ∃ x, xs (nI (5 * n) + 2).toNatClampNeg = x := ⟨_, rfl⟩
  refine lv_aload_n hx hb dL_law_748 rfl (lv_at hl 3 rfl) ?_
  refine lv_aload_n hx hb dL_law_749 rfl (lv_at hl 4 rfl) ?_
  refine lv_iload hx hb dL_law_750 (lv_at hl 0 rfl) ?_
  refine lv_iconst (v := 1) hx hb dL_law_752 (by decide) ?_
  refine lv_iadd hx hb dL_law_753 ?_
  refine va_sld (i := nI (5 * n) + 1) hx hb hX hbl hbA hS (lw_ix hn5 hL 1 (by decide)) dL_law_754 ?_
  rw [hx1]
  refine lv_aload_n hx hb dL_law_755 rfl (lv_at hl 4 rfl) ?_
  refine lv_iload hx hb dL_law_756 (lv_at hl 0 rfl) ?_
  refine lv_iconst (v := 2) hx hb dL_law_758 (by decide) ?_
  refine lv_iadd hx hb dL_law_759 ?_
  refine va_sld (i := nI (5 * n) + 2) hx hb hX hbl hbA hS (lw_ix hn5 hL 2 (by decide)) dL_law_760 ?_
  rw [hx2]
  refine lv_aload_n hx hb dL_law_761 rfl (lv_at hl 1 rfl) ?_
  refine lw_hlp (As := [.ref s.heap.size, .int x1, .int x2, .ref (s.heap.size + 181)]) ⟨hx, hb, hml, hown, hts2⟩ (hL_lamps l D d s.heap.size (rc_L (s.heap.size + 1)) (rc_L (s.heap.size + 68)) σ (lw_A1 s.heap.size) (lw_B1 s.heap.size) (s.heap.size + 181) cL g (fun z => by have z : (s.heap.size + 1 ≤ s.heap.size ∧ s.heap.size < s.heap.size + 68) ∨ s.heap.size = s.heap.size + 181 := z; omega) (fun q h => Or.inl h) (Or.inr rfl) (fun z => by have z : s.heap.size + 1 ≤ s.heap.size + 181 ∧ s.heap.size + 181 < s.heap.size + 68 := z; omega) hl0 P F R hmr.hs x1 x2) (vx_cwSW 4 hts2 gL_law_L_lamps rfl rfl rfl (by decide +kernel) ⟨Nat.le_of_ble_eq_true rfl, Nat.le_of_ble_eq_true rfl⟩) hK hKL hXE hN hJ hS rfl hl.1 (Nat.le_of_ble_eq_true rfl) dL_law_762 ⟨by omega, by omega⟩ rfl (fun r1 g' H locs hr1 hg0 hJ hS => ?_)
  subst hr1
  refine lv_istore (lv' := [(5, .int ((cl_lamps R σ x1 x2).1)), (4, .int (nI (5 * n))), (3, .ref (s.heap.size + 181)), (2, .ref (s.heap.size + 135)), (1, .ref s.heap.size), (0, .ref b)]) hx hb dL_law_765 hl (by decide) rfl (fun ls hl => ?_)
  refine lv_aload_n hx hb dL_law_767 rfl (lv_at hl 3 rfl) ?_
  refine lv_aload_n hx hb dL_law_768 rfl (lv_at hl 5 rfl) ?_
  refine lv_iload hx hb dL_law_769 (lv_at hl 1 rfl) ?_
  refine lv_iconst (v := 1) hx hb dL_law_771 (by decide) ?_
  refine lv_iadd hx hb dL_law_772 ?_
  refine va_sld (i := nI (5 * n) + 1) hx hb hX hbl hbA hS (lw_ix hn5 hL 1 (by decide)) dL_law_773 ?_
  rw [hx1]
  refine lv_aload_n hx hb dL_law_774 rfl (lv_at hl 5 rfl) ?_
  refine lv_iload hx hb dL_law_775 (lv_at hl 1 rfl) ?_
  refine lv_iconst (v := 2) hx hb dL_law_777 (by decide) ?_
  refine lv_iadd hx hb dL_law_778 ?_
  refine va_sld (i := nI (5 * n) + 2) hx hb hX hbl hbA hS (lw_ix hn5 hL 2 (by decide)) dL_law_779 ?_
  rw [hx2]
  refine lw_ref (As := [.int x1, .int x2]) (mc := 0) (ms := 0) ⟨hx, hb, hml, hown, hts2⟩ (kX6_lamps l D d cB (mL (s.heap.size + 136)) (s.heap.size + 135) th ρ (lw_M s.heap.size H.size) H.size P F R hmr.mh x1 x2) (cwV 2 hts2 gL_law_X6_lamps rfl rfl rfl (by decide +kernel) ⟨Nat.le_of_ble_eq_true rfl, Nat.le_of_ble_eq_true rfl⟩) hKK hJ hS rfl hl.1 (Nat.le_of_ble_eq_true rfl) dL_law_780 ⟨by omega, by omega⟩ rfl (fun r2 X2 H locs hp hJ hS => ?_)
  refine lv_istore (lv' := [(6, .int r2), (5, .int ((cl_lamps R σ x1 x2).1)), (4, .int (nI (5 * n))), (3, .ref (s.heap.size + 181)), (2, .ref (s.heap.size + 135)), (1, .ref s.heap.size), (0, .ref b)]) hx hb dL_law_783 hl (by decide) rfl (fun ls hl => ?_)
  refine lv_goto (tgt := 1353) hx hb dL_law_785 (by decide) ?_
  obtain ⟨s1, s2, P', F', R', hR, hmr2⟩ := sim_lamps hmr hp
  refine W.widen (k := cells + 1426) (n := slots + 11421) (by omega) (by omega) ?_
  exact kk _ _ _ ⟨_, _, _, _, _, _, _, _, hmr2, htr.up hR, hJ⟩ hS (lv_sub hl [2, 3, 4, 5, 6] rfl)
set_option maxHeartbeats 4000000 in
set_option maxRecDepth 100000 in
/-- the law: show -/
theorem lw_c14 {p : Program} {l : Launch} {e : Env} {s : State} {m : MethodId} {below : List Frame} {meth : Method} {c : Code} {b L : Nat} {D : va_G} {d : hs_Dm} {cB cL : ClassId} {xs : Nat → Int32} (G : lw_G p l s m meth c b L D d cB cL xs) {n : Nat} (hn5 : 5 * n + 5 ≤ L) {H : Heap} {locs : List Loc} {cells slots : Nat} (hI : lw_I D d cB cL s.heap.size n H) (hS : va_S (rg_A s.heap.size) s.heap H locs) {ls : Array Slot} (hl : lv_has ls 9 [(4, .int (nI (5 * n))), (3, .ref (s.heap.size + 181)), (2, .ref (s.heap.size + 135)), (1, .ref s.heap.size), (0, .ref b)]) (hc : cells + 1426 ≤ room_1.cells ∧ slots + 11421 ≤ room_1.slots) (kk : ∀ (H1 : Heap) (locs1 : List Loc) (ls1 : Array Slot), lw_I D d cB cL s.heap.size (n + 1) H1 → va_S (rg_A s.heap.size) s.heap H1 locs1 → lv_has ls1 9 [(4, .int (nI (5 * n))), (3, .ref (s.heap.size + 181)), (2, .ref (s.heap.size + 135)), (1, .ref s.heap.size), (0, .ref b)] → W p l e room_1 s m #[Value.ref b] below meth c H1 locs1 (cells + 1426) (slots + 11421) (lw_Z below #[Value.ref b] s) (F0 m 1353 ls1 [])) : W p l e room_1 s m #[Value.ref b] below meth c H locs cells slots (lw_Z below #[Value.ref b] s) (F0 m 788 ls []) := by
  obtain ⟨hx, hb, hr, hlocks, hml, hown, hts, hl0, hX, hbl, hK, hKK, hKL, hXE, hN, hL⟩ := id G
  have hts2 : ∀ w ∈ wsL_law, w.before #[Value.ref b] s = true := fun w h => hts w (wsL_law_in w h)
  have hbA : ¬ rg_A s.heap.size b := Nat.not_le.mpr hbl
  have hc1 := hc.1
  have hc2 := hc.2
  obtain ⟨P, F, R, σ, σ2, ρ, th, g, hmr, htr, hJ⟩ := hI
  obtain ⟨x1, hx1⟩ : ∃ x, xs (nI (5 * n) + 1).toNatClampNeg = x := ⟨_, rfl⟩
  obtain ⟨x2, hx2⟩ : ∃ x, xs (nI (5 * n) + 2).toNatClampNeg = x := ⟨_, rfl⟩
  refine lv_aload_n hx hb dL_law_788 rfl (lv_at hl 3 rfl) ?_
  refine lv_aload_n hx hb dL_law_789 rfl (lv_at hl 4 rfl) ?_
  refine lv_iload hx hb dL_law_790 (lv_at hl 0 rfl) ?_
  refine lv_iconst (v := 1) hx hb dL_law_792 (by decide) ?_
  refine lv_iadd hx hb dL_law_793 ?_
  refine va_sld (i := nI (5 * n) + 1) hx hb hX hbl hbA hS (lw_ix hn5 hL 1 (by decide)) dL_law_794 ?_
  rw [hx1]
  refine lv_aload_n hx hb dL_law_795 rfl (lv_at hl 4 rfl) ?_
  refine lv_iload hx hb dL_law_796 (lv_at hl 0 rfl) ?_
  refine lv_iconst (v := 2) hx hb dL_law_798 (by decide) ?_
  refine lv_iadd hx hb dL_law_799 ?_
  refine va_sld (i := nI (5 * n) + 2) hx hb hX hbl hbA hS (lw_ix hn5 hL 2 (by decide)) dL_law_800 ?_
  rw [hx2]
  refine lv_aload_n hx hb dL_law_801 rfl (lv_at hl 1 rfl) ?_
  refine lw_hlp (As := [.ref s.heap.size, .int x1, .int x2, .ref (s.heap.size + 181)]) ⟨hx, hb, hml, hown, hts2⟩ (hL_show l D d s.heap.size (rc_L (s.heap.size + 1)) (rc_L (s.heap.size + 68)) σ (lw_A1 s.heap.size) (lw_B1 s.heap.size) (s.heap.size + 181) cL g (fun z => by have z : (s.heap.size + 1 ≤ s.heap.size ∧ s.heap.size < s.heap.size + 68) ∨ s.heap.size = s.heap.size + 181 := z; omega) (fun q h => Or.inl h) (Or.inr rfl) (fun z => by have z : s.heap.size + 1 ≤ s.heap.size + 181 ∧ s.heap.size + 181 < s.heap.size + 68 := z; omega) hl0 P F R hmr.hs x1 x2) (vx_cwSW 4 hts2 gL_law_L_show rfl rfl rfl (by decide +kernel) ⟨Nat.le_of_ble_eq_true rfl, Nat.le_of_ble_eq_true rfl⟩) hK hKL hXE hN hJ hS rfl hl.1 (Nat.le_of_ble_eq_true rfl) dL_law_802 ⟨by omega, by omega⟩ rfl (fun r1 g' H locs hr1 hg0 hJ hS => ?_)
  subst hr1
  refine lv_istore (lv' := [(5, .int ((cl_show F R σ x1 x2).1)), (4, .int (nI (5 * n))), (3, .ref (s.heap.size + 181)), (2, .ref (s.heap.size + 135)), (1, .ref s.heap.size), (0, .ref b)]) hx hb dL_law_805 hl (by decide) rfl (fun ls hl => ?_)
  refine lv_aload_n hx hb dL_law_807 rfl (lv_at hl 3 rfl) ?_
  refine lv_aload_n hx hb dL_law_808 rfl (lv_at hl 5 rfl) ?_
  refine lv_iload hx hb dL_law_809 (lv_at hl 1 rfl) ?_
  refine lv_iconst (v := 1) hx hb dL_law_811 (by decide) ?_
  refine lv_iadd hx hb dL_law_812 ?_
  refine va_sld (i := nI (5 * n) + 1) hx hb hX hbl hbA hS (lw_ix hn5 hL 1 (by decide)) dL_law_813 ?_
  rw [hx1]
  refine lv_aload_n hx hb dL_law_814 rfl (lv_at hl 5 rfl) ?_
  refine lv_iload hx hb dL_law_815 (lv_at hl 1 rfl) ?_
  refine lv_iconst (v := 2) hx hb dL_law_817 (by decide) ?_
  refine lv_iadd hx hb dL_law_818 ?_
  refine va_sld (i := nI (5 * n) + 2) hx hb hX hbl hbA hS (lw_ix hn5 hL 2 (by decide)) dL_law_819 ?_
  rw [hx2]
  refine lw_ref (As := [.int x1, .int x2]) (mc := 0) (ms := 0) ⟨hx, hb, hml, hown, hts2⟩ (kX6_show l D d cB (mL (s.heap.size + 136)) (s.heap.size + 135) th ρ (lw_M s.heap.size H.size) H.size P F R hmr.mh x1 x2) (cwV 2 hts2 gL_law_X6_show rfl rfl rfl (by decide +kernel) ⟨Nat.le_of_ble_eq_true rfl, Nat.le_of_ble_eq_true rfl⟩) hKK hJ hS rfl hl.1 (Nat.le_of_ble_eq_true rfl) dL_law_820 ⟨by omega, by omega⟩ rfl (fun r2 X2 H locs hp hJ hS => ?_)
  refine lv_istore (lv' := [(6, .int r2), (5, .int ((cl_show F R σ x1 x2).1)), (4, .int (nI (5 * n))), (3, .ref (s.heap.size + 181)), (2, .ref (s.heap.size + 135)), (1, .ref s.heap.size), (0, .ref b)]) hx hb dL_law_823 hl (by decide) rfl (fun ls hl => ?_)
  refine lv_goto (tgt := 1353) hx hb dL_law_825 (by decide) ?_
  obtain ⟨s1, s2, P', F', R', hR, hmr2⟩ := sim_show hmr hp
  refine W.widen (k := cells + 1426) (n := slots + 11421) (by omega) (by omega) ?_
  exact kk _ _ _ ⟨_, _, _, _, _, _, _, _, hmr2, htr.up hR, hJ⟩ hS (lv_sub hl [2, 3, 4, 5, 6] rfl)
set_option maxHeartbeats 4000000 in
set_option maxRecDepth 100000 in
/-- the law: take -/
theorem lw_c15 {p : Program} {l : Launch} {e : Env} {s : State} {m : MethodId} {below : List Frame} {meth : Method} {c : Code} {b L : Nat} {D : va_G} {d : hs_Dm} {cB cL : ClassId} {xs : Nat → Int32} (G : lw_G p l s m meth c b L D d cB cL xs) {n : Nat} (hn5 : 5 * n + 5 ≤ L) {H : Heap} {locs : List Loc} {cells slots : Nat} (hI : lw_I D d cB cL s.heap.size n H) (hS : va_S (rg_A s.heap.size) s.heap H locs) {ls : Array Slot} (hl : lv_has ls 9 [(4, .int (nI (5 * n))), (3, .ref (s.heap.size + 181)), (2, .ref (s.heap.size + 135)), (1, .ref s.heap.size), (0, .ref b)]) (hc : cells + 1426 ≤ room_1.cells ∧ slots + 11421 ≤ room_1.slots) (kk : ∀ (H1 : Heap) (locs1 : List Loc) (ls1 : Array Slot), lw_I D d cB cL s.heap.size (n + 1) H1 → va_S (rg_A s.heap.size) s.heap H1 locs1 → lv_has ls1 9 [(4, .int (nI (5 * n))), (3, .ref (s.heap.size + 181)), (2, .ref (s.heap.size + 135)), (1, .ref s.heap.size), (0, .ref b)] → W p l e room_1 s m #[Value.ref b] below meth c H1 locs1 (cells + 1426) (slots + 11421) (lw_Z below #[Value.ref b] s) (F0 m 1353 ls1 [])) : W p l e room_1 s m #[Value.ref b] below meth c H locs cells slots (lw_Z below #[Value.ref b] s) (F0 m 828 ls []) := by
  obtain ⟨hx, hb, hr, hlocks, hml, hown, hts, hl0, hX, hbl, hK, hKK, hKL, hXE, hN, hL⟩ := id G
  have hts2 : ∀ w ∈ wsL_law, w.before #[Value.ref b] s = true := fun w h => hts w (wsL_law_in w h)
  have hbA : ¬ rg_A s.heap.size b := Nat.not_le.mpr hbl
  have hc1 := hc.1
  have hc2 := hc.2
  obtain ⟨P, F, R, σ, σ2, ρ, th, g, hmr, htr, hJ⟩ := hI
  obtain ⟨x1, hx1⟩ : ∃ x, xs (nI (5 * n) + 1).toNatClampNeg = x := ⟨_, rfl⟩
  refine lv_aload_n hx hb dL_law_828 rfl (lv_at hl 3 rfl) ?_
  refine lv_aload_n hx hb dL_law_829 rfl (lv_at hl 4 rfl) ?_
  refine lv_iload hx hb dL_law_830 (lv_at hl 0 rfl) ?_
  refine lv_iconst (v := 1) hx hb dL_law_832 (by decide) ?_
  refine lv_iadd hx hb dL_law_833 ?_
  refine va_sld (i := nI (5 * n) + 1) hx hb hX hbl hbA hS (lw_ix hn5 hL 1 (by decide)) dL_law_834 ?_
  rw [hx1]
  refine lv_aload_n hx hb dL_law_835 rfl (lv_at hl 1 rfl) ?_
  refine lw_hlp (As := [.ref s.heap.size, .int x1, .ref (s.heap.size + 181)]) ⟨hx, hb, hml, hown, hts2⟩ (hL_take l D d s.heap.size (rc_L (s.heap.size + 1)) (rc_L (s.heap.size + 68)) σ (lw_A1 s.heap.size) (lw_B1 s.heap.size) (s.heap.size + 181) cL g (fun z => by have z : (s.heap.size + 1 ≤ s.heap.size ∧ s.heap.size < s.heap.size + 68) ∨ s.heap.size = s.heap.size + 181 := z; omega) (fun q h => Or.inl h) (Or.inr rfl) (fun z => by have z : s.heap.size + 1 ≤ s.heap.size + 181 ∧ s.heap.size + 181 < s.heap.size + 68 := z; omega) hl0 P F R hmr.hs x1) (vx_cwSW 3 hts2 gL_law_L_take rfl rfl rfl (by decide +kernel) ⟨Nat.le_of_ble_eq_true rfl, Nat.le_of_ble_eq_true rfl⟩) hK hKL hXE hN hJ hS rfl hl.1 (Nat.le_of_ble_eq_true rfl) dL_law_836 ⟨by omega, by omega⟩ rfl (fun r1 g' H locs hr1 hg0 hJ hS => ?_)
  subst hr1
  refine lv_istore (lv' := [(5, .int ((cl_take F σ x1).1)), (4, .int (nI (5 * n))), (3, .ref (s.heap.size + 181)), (2, .ref (s.heap.size + 135)), (1, .ref s.heap.size), (0, .ref b)]) hx hb dL_law_839 hl (by decide) rfl (fun ls hl => ?_)
  refine lv_aload_n hx hb dL_law_841 rfl (lv_at hl 3 rfl) ?_
  refine lv_aload_n hx hb dL_law_842 rfl (lv_at hl 5 rfl) ?_
  refine lv_iload hx hb dL_law_843 (lv_at hl 1 rfl) ?_
  refine lv_iconst (v := 1) hx hb dL_law_845 (by decide) ?_
  refine lv_iadd hx hb dL_law_846 ?_
  refine va_sld (i := nI (5 * n) + 1) hx hb hX hbl hbA hS (lw_ix hn5 hL 1 (by decide)) dL_law_847 ?_
  rw [hx1]
  refine lw_ref (As := [.int x1]) (mc := 0) (ms := 0) ⟨hx, hb, hml, hown, hts2⟩ (kX6_take l D d cB (mL (s.heap.size + 136)) (s.heap.size + 135) th ρ (lw_M s.heap.size H.size) H.size P F R hmr.mh x1) (cwV 1 hts2 gL_law_X6_take rfl rfl rfl (by decide +kernel) ⟨Nat.le_of_ble_eq_true rfl, Nat.le_of_ble_eq_true rfl⟩) hKK hJ hS rfl hl.1 (Nat.le_of_ble_eq_true rfl) dL_law_848 ⟨by omega, by omega⟩ rfl (fun r2 X2 H locs hp hJ hS => ?_)
  refine lv_istore (lv' := [(6, .int r2), (5, .int ((cl_take F σ x1).1)), (4, .int (nI (5 * n))), (3, .ref (s.heap.size + 181)), (2, .ref (s.heap.size + 135)), (1, .ref s.heap.size), (0, .ref b)]) hx hb dL_law_851 hl (by decide) rfl (fun ls hl => ?_)
  refine lv_goto (tgt := 1353) hx hb dL_law_853 (by decide) ?_
  obtain ⟨s1, s2, P', F', R', hR, hmr2⟩ := sim_take hmr hp
  refine W.widen (k := cells + 1426) (n := slots + 11421) (by omega) (by omega) ?_
  exact kk _ _ _ ⟨_, _, _, _, _, _, _, _, hmr2, htr.up hR, hJ⟩ hS (lv_sub hl [2, 3, 4, 5, 6] rfl)
