/-! THE LAW: its calls -/
set_option maxHeartbeats 4000000 in
set_option maxRecDepth 100000 in
/-- the law: clean -/
theorem lw_c16 {p : Program} {l : Launch} {e : Env} {s : State} {m : MethodId} {below : List Frame} {meth : Method} {c : Code} {b L : Nat} {D : va_G} {d : hs_Dm} {cB cL : ClassId} {xs : Nat → Int32} (G : lw_G p l s m meth c b L D d cB cL xs) {n : Nat} (hn5 : 5 * n + 5 ≤ L) {H : Heap} {locs : List Loc} {cells slots : Nat} (hI : lw_I D d cB cL s.heap.size n H) (hS : va_S (rg_A s.heap.size) s.heap H locs) {ls : Array Slot} (hl : lv_has ls 9 [(4, .int (nI (5 * n))), (3, .ref (s.heap.size + 181)), (2, .ref (s.heap.size + 135)), (1, .ref s.heap.size), (0, .ref b)]) (hc : cells + 1426 ≤ room_1.cells ∧ slots + 11421 ≤ room_1.slots) (kk : ∀ (H1 : Heap) (locs1 : List Loc) (ls1 : Array Slot), lw_I D d cB cL s.heap.size (n + 1) H1 → va_S (rg_A s.heap.size) s.heap H1 locs1 → lv_has ls1 9 [(4, .int (nI (5 * n))), (3, .ref (s.heap.size + 181)), (2, .ref (s.heap.size + 135)), (1, .ref s.heap.size), (0, .ref b)] → W p l e room_1 s m #[Value.ref b] below meth c H1 locs1 (cells + 1426) (slots + 11421) (lw_Z below #[Value.ref b] s) (F0 m 1353 ls1 [])) : W p l e room_1 s m #[Value.ref b] below meth c H locs cells slots (lw_Z below #[Value.ref b] s) (F0 m 856 ls []) := by
  obtain ⟨hx, hb, hr, hlocks, hml, hown, hts, hl0, hX, hbl, hK, hKK, hKL, hXE, hN, hL⟩ := id G
  have hts2 : ∀ w ∈ wsL_law, w.before #[Value.ref b] s = true := fun w h => hts w (wsL_law_in w h)
  have hbA : ¬ rg_A s.heap.size b := Nat.not_le.mpr hbl
  have hc1 := hc.1
  have hc2 := hc.2
  obtain ⟨P, F, R, σ, σ2, ρ, th, g, hmr, htr, hJ⟩ := hI
  obtain ⟨x1, hx1⟩ : ∃ x, xs (nI (5 * n) + 1).toNatClampNeg = x := ⟨_, rfl⟩
  refine lv_aload_n hx hb dL_law_856 rfl (lv_at hl 3 rfl) ?_
  refine lv_aload_n hx hb dL_law_857 rfl (lv_at hl 4 rfl) ?_
  refine lv_iload hx hb dL_law_858 (lv_at hl 0 rfl) ?_
  refine lv_iconst (v := 1) hx hb dL_law_860 (by decide) ?_
  refine lv_iadd hx hb dL_law_861 ?_
  refine va_sld (i := nI (5 * n) + 1) hx hb hX hbl hbA hS (lw_ix hn5 hL 1 (by decide)) dL_law_862 ?_
  rw [hx1]
  refine lv_aload_n hx hb dL_law_863 rfl (lv_at hl 1 rfl) ?_
  refine lw_hlp (As := [.ref s.heap.size, .int x1, .ref (s.heap.size + 181)]) ⟨hx, hb, hml, hown, hts2⟩ (hL_clean l D d s.heap.size (rc_L (s.heap.size + 1)) (rc_L (s.heap.size + 68)) σ (lw_A1 s.heap.size) (lw_B1 s.heap.size) (s.heap.size + 181) cL g (fun z => by have z : (s.heap.size + 1 ≤ s.heap.size ∧ s.heap.size < s.heap.size + 68) ∨ s.heap.size = s.heap.size + 181 := z; omega) (fun q h => Or.inl h) (Or.inr rfl) (fun z => by have z : s.heap.size + 1 ≤ s.heap.size + 181 ∧ s.heap.size + 181 < s.heap.size + 68 := z; omega) hl0 P F R hmr.hs x1) (vx_cwSW 3 hts2 gL_law_L_clean rfl rfl rfl (by decide +kernel) ⟨Nat.le_of_ble_eq_true rfl, Nat.le_of_ble_eq_true rfl⟩) hK hKL hXE hN hJ hS rfl hl.1 (Nat.le_of_ble_eq_true rfl) dL_law_864 ⟨by omega, by omega⟩ rfl (fun r1 g' H locs hr1 hg0 hJ hS => ?_)
  subst hr1
  refine lv_istore (lv' := [(5, .int ((cl_clean F R σ x1).1)), (4, .int (nI (5 * n))), (3, .ref (s.heap.size + 181)), (2, .ref (s.heap.size + 135)), (1, .ref s.heap.size), (0, .ref b)]) hx hb dL_law_867 hl (by decide) rfl (fun ls hl => ?_)
  refine lv_aload_n hx hb dL_law_869 rfl (lv_at hl 3 rfl) ?_
  refine lv_aload_n hx hb dL_law_870 rfl (lv_at hl 5 rfl) ?_
  refine lv_iload hx hb dL_law_871 (lv_at hl 1 rfl) ?_
  refine lv_iconst (v := 1) hx hb dL_law_873 (by decide) ?_
  refine lv_iadd hx hb dL_law_874 ?_
  refine va_sld (i := nI (5 * n) + 1) hx hb hX hbl hbA hS (lw_ix hn5 hL 1 (by decide)) dL_law_875 ?_
  rw [hx1]
  refine lw_ref (As := [.int x1]) (mc := 0) (ms := 0) ⟨hx, hb, hml, hown, hts2⟩ (kX6_clean l D d cB (mL (s.heap.size + 136)) (s.heap.size + 135) th ρ (lw_M s.heap.size H.size) H.size P F R hmr.mh x1) (cwV 1 hts2 gL_law_X6_clean rfl rfl rfl (by decide +kernel) ⟨Nat.le_of_ble_eq_true rfl, Nat.le_of_ble_eq_true rfl⟩) hKK hJ hS rfl hl.1 (Nat.le_of_ble_eq_true rfl) dL_law_876 ⟨by omega, by omega⟩ rfl (fun r2 X2 H locs hp hJ hS => ?_)
  refine lv_istore (lv' := [(6, .int r2), (5, .int ((cl_clean F R σ x1).1)), (4, .int (nI (5 * n))), (3, .ref (s.heap.size + 181)), (2, .ref (s.heap.size + 135)), (1, .ref s.heap.size), (0, .ref b)]) hx hb dL_law_879 hl (by decide) rfl (fun ls hl => ?_)
  refine lv_goto (tgt := 1353) hx hb dL_law_881 (by decide) ?_
  obtain ⟨s1, s2, P', F', R', hR, hmr2⟩ := sim_clean hmr hp
  refine W.widen (k := cells + 1426) (n := slots + 11421) (by omega) (by omega) ?_
  exact kk _ _ _ ⟨_, _, _, _, _, _, _, _, hmr2, htr.up hR, hJ⟩ hS (lv_sub hl [2, 3, 4, 5, 6] rfl)
set_option maxHeartbeats 4000000 in
set_option maxRecDepth 100000 in
/-- the law: price -/
theorem lw_c17 {p : Program} {l : Launch} {e : Env} {s : State} {m : MethodId} {below : List Frame} {meth : Method} {c : Code} {b L : Nat} {D : va_G} {d : hs_Dm} {cB cL : ClassId} {xs : Nat → Int32} (G : lw_G p l s m meth c b L D d cB cL xs) {n : Nat} (hn5 : 5 * n + 5 ≤ L) {H : Heap} {locs : List Loc} {cells slots : Nat} (hI : lw_I D d cB cL s.heap.size n H) (hS : va_S (rg_A s.heap.size) s.heap H locs) {ls : Array Slot} (hl : lv_has ls 9 [(4, .int (nI (5 * n))), (3, .ref (s.heap.size + 181)), (2, .ref (s.heap.size + 135)), (1, .ref s.heap.size), (0, .ref b)]) (hc : cells + 1426 ≤ room_1.cells ∧ slots + 11421 ≤ room_1.slots) (kk : ∀ (H1 : Heap) (locs1 : List Loc) (ls1 : Array Slot), lw_I D d cB cL s.heap.size (n + 1) H1 → va_S (rg_A s.heap.size) s.heap H1 locs1 → lv_has ls1 9 [(4, .int (nI (5 * n))), (3, .ref (s.heap.size + 181)), (2, .ref (s.heap.size + 135)), (1, .ref s.heap.size), (0, .ref b)] → W p l e room_1 s m #[Value.ref b] below meth c H1 locs1 (cells + 1426) (slots + 11421) (lw_Z below #[Value.ref b] s) (F0 m 1353 ls1 [])) : W p l e room_1 s m #[Value.ref b] below meth c H locs cells slots (lw_Z below #[Value.ref b] s) (F0 m 884 ls []) := by
  obtain ⟨hx, hb, hr, hlocks, hml, hown, hts, hl0, hX, hbl, hK, hKK, hKL, hXE, hN, hL⟩ := id G
  have hts2 : ∀ w ∈ wsL_law, w.before #[Value.ref b] s = true := fun w h => hts w (wsL_law_in w h)
  have hbA : ¬ rg_A s.heap.size b := Nat.not_le.mpr hbl
  have hc1 := hc.1
  have hc2 := hc.2
  obtain ⟨P, F, R, σ, σ2, ρ, th, g, hmr, htr, hJ⟩ := hI
  obtain ⟨x1, hx1⟩ : ∃ x, xs (nI (5 * n) + 1).toNatClampNeg = x := ⟨_, rfl⟩
  refine lv_aload_n hx hb dL_law_884 rfl (lv_at hl 3 rfl) ?_
  refine lv_aload_n hx hb dL_law_885 rfl (lv_at hl 4 rfl) ?_
  refine lv_iload hx hb dL_law_886 (lv_at hl 0 rfl) ?_
  refine lv_iconst (v := 1) hx hb dL_law_888 (by decide) ?_
  refine lv_iadd hx hb dL_law_889 ?_
  refine va_sld (i := nI (5 * n) + 1) hx hb hX hbl hbA hS (lw_ix hn5 hL 1 (by decide)) dL_law_890 ?_
  rw [hx1]
  refine lv_aload_n hx hb dL_law_891 rfl (lv_at hl 1 rfl) ?_
  refine lw_hlp (As := [.ref s.heap.size, .int x1, .ref (s.heap.size + 181)]) ⟨hx, hb, hml, hown, hts2⟩ (hL_price l D d s.heap.size (rc_L (s.heap.size + 1)) (rc_L (s.heap.size + 68)) σ (lw_A1 s.heap.size) (lw_B1 s.heap.size) (s.heap.size + 181) cL g (fun z => by have z : (s.heap.size + 1 ≤ s.heap.size ∧ s.heap.size < s.heap.size + 68) ∨ s.heap.size = s.heap.size + 181 := z; omega) (fun q h => Or.inl h) (Or.inr rfl) (fun z => by have z : s.heap.size + 1 ≤ s.heap.size + 181 ∧ s.heap.size + 181 < s.heap.size + 68 := z; omega) hl0 P F R hmr.hs x1) (vx_cwSW 3 hts2 gL_law_L_price rfl rfl rfl (by decide +kernel) ⟨Nat.le_of_ble_eq_true rfl, Nat.le_of_ble_eq_true rfl⟩) hK hKL hXE hN hJ hS rfl hl.1 (Nat.le_of_ble_eq_true rfl) dL_law_892 ⟨by omega, by omega⟩ rfl (fun r1 g' H locs hr1 hg0 hJ hS => ?_)
  subst hr1
  refine lv_istore (lv' := [(5, .int ((cl_price σ x1).1)), (4, .int (nI (5 * n))), (3, .ref (s.heap.size + 181)), (2, .ref (s.heap.size + 135)), (1, .ref s.heap.size), (0, .ref b)]) hx hb dL_law_895 hl (by decide) rfl (fun ls hl => ?_)
  refine lv_aload_n hx hb dL_law_897 rfl (lv_at hl 3 rfl) ?_
  refine lv_aload_n hx hb dL_law_898 rfl (lv_at hl 5 rfl) ?_
  refine lv_iload hx hb dL_law_899 (lv_at hl 1 rfl) ?_
  refine lv_iconst (v := 1) hx hb dL_law_901 (by decide) ?_
  refine lv_iadd hx hb dL_law_902 ?_
  refine va_sld (i := nI (5 * n) + 1) hx hb hX hbl hbA hS (lw_ix hn5 hL 1 (by decide)) dL_law_903 ?_
  rw [hx1]
  refine lw_ref (As := [.int x1]) (mc := 0) (ms := 0) ⟨hx, hb, hml, hown, hts2⟩ (kX6_price l D d cB (mL (s.heap.size + 136)) (s.heap.size + 135) th ρ (lw_M s.heap.size H.size) H.size x1) (cwV 1 hts2 gL_law_X6_price rfl rfl rfl (by decide +kernel) ⟨Nat.le_of_ble_eq_true rfl, Nat.le_of_ble_eq_true rfl⟩) hKK hJ hS rfl hl.1 (Nat.le_of_ble_eq_true rfl) dL_law_904 ⟨by omega, by omega⟩ rfl (fun r2 X2 H locs hp hJ hS => ?_)
  refine lv_istore (lv' := [(6, .int r2), (5, .int ((cl_price σ x1).1)), (4, .int (nI (5 * n))), (3, .ref (s.heap.size + 181)), (2, .ref (s.heap.size + 135)), (1, .ref s.heap.size), (0, .ref b)]) hx hb dL_law_907 hl (by decide) rfl (fun ls hl => ?_)
  refine lv_goto (tgt := 1353) hx hb dL_law_909 (by decide) ?_
  obtain ⟨s1, s2, P', F', R', hR, hmr2⟩ := sim_price hmr hp
  refine W.widen (k := cells + 1426) (n := slots + 11421) (by omega) (by omega) ?_
  exact kk _ _ _ ⟨_, _, _, _, _, _, _, _, hmr2, htr.up hR, hJ⟩ hS (lv_sub hl [2, 3, 4, 5, 6] rfl)
set_option maxHeartbeats 4000000 in
set_option maxRecDepth 100000 in
/-- the law: pass -/
theorem lw_c18 {p : Program} {l : Launch} {e : Env} {s : State} {m : MethodId} {below : List Frame} {meth : Method} {c : Code} {b L : Nat} {D : va_G} {d : hs_Dm} {cB cL : ClassId} {xs : Nat → Int32} (G : lw_G p l s m meth c b L D d cB cL xs) {n : Nat} (hn5 : 5 * n + 5 ≤ L) {H : Heap} {locs : List Loc} {cells slots : Nat} (hI : lw_I D d cB cL s.heap.size n H) (hS : va_S (rg_A s.heap.size) s.heap H locs) {ls : Array Slot} (hl : lv_has ls 9 [(4, .int (nI (5 * n))), (3, .ref (s.heap.size + 181)), (2, .ref (s.heap.size + 135)), (1, .ref s.heap.size), (0, .ref b)]) (hc : cells + 1426 ≤ room_1.cells ∧ slots + 11421 ≤ room_1.slots) (kk : ∀ (H1 : Heap) (locs1 : List Loc) (ls1 : Array Slot), lw_I D d cB cL s.heap.size (n + 1) H1 → va_S (rg_A s.heap.size) s.heap H1 locs1 → lv_has ls1 9 [(4, .int (nI (5 * n))), (3, .ref (s.heap.size + 181)), (2, .ref (s.heap.size + 135)), (1, .ref s.heap.size), (0, .ref b)] → W p l e room_1 s m #[Value.ref b] below meth c H1 locs1 (cells + 1426) (slots + 11421) (lw_Z below #[Value.ref b] s) (F0 m 1353 ls1 [])) : W p l e room_1 s m #[Value.ref b] below meth c H locs cells slots (lw_Z below #[Value.ref b] s) (F0 m 912 ls []) := by
  obtain ⟨hx, hb, hr, hlocks, hml, hown, hts, hl0, hX, hbl, hK, hKK, hKL, hXE, hN, hL⟩ := id G
  have hts2 : ∀ w ∈ wsL_law, w.before #[Value.ref b] s = true := fun w h => hts w (wsL_law_in w h)
  have hbA : ¬ rg_A s.heap.size b := Nat.not_le.mpr hbl
  have hc1 := hc.1
  have hc2 := hc.2
  obtain ⟨P, F, R, σ, σ2, ρ, th, g, hmr, htr, hJ⟩ := hI
  obtain ⟨x1, hx1⟩ : ∃ x, xs (nI (5 * n) + 1).toNatClampNeg = x := ⟨_, rfl⟩
  obtain ⟨x2, hx2⟩ : ∃ x, xs (nI (5 * n) + 2).toNatClampNeg = x := ⟨_, rfl⟩
  obtain ⟨x3, hx3⟩ : ∃ x, xs (nI (5 * n) + 3).toNatClampNeg = x := ⟨_, rfl⟩
  refine lv_aload_n hx hb dL_law_912 rfl (lv_at hl 3 rfl) ?_
  refine lv_aload_n hx hb dL_law_913 rfl (lv_at hl 4 rfl) ?_
  refine lv_iload hx hb dL_law_914 (lv_at hl 0 rfl) ?_
  refine lv_iconst (v := 1) hx hb dL_law_916 (by decide) ?_
  refine lv_iadd hx hb dL_law_917 ?_
  refine va_sld (i := nI (5 * n) + 1) hx hb hX hbl hbA hS (lw_ix hn5 hL 1 (by decide)) dL_law_918 ?_
  rw [hx1]
  refine lv_aload_n hx hb dL_law_919 rfl (lv_at hl 4 rfl) ?_
  refine lv_iload hx hb dL_law_920 (lv_at hl 0 rfl) ?_
  refine lv_iconst (v := 2) hx hb dL_law_922 (by decide) ?_
  refine lv_iadd hx hb dL_law_923 ?_
  refine va_sld (i := nI (5 * n) + 2) hx hb hX hbl hbA hS (lw_ix hn5 hL 2 (by decide)) dL_law_924 ?_
  rw [hx2]
  refine lv_aload_n hx hb dL_law_925 rfl (lv_at hl 4 rfl) ?_
  refine lv_iload hx hb dL_law_926 (lv_at hl 0 rfl) ?_
  refine lv_iconst (v := 3) hx hb dL_law_928 (by decide) ?_
  refine lv_iadd hx hb dL_law_929 ?_
  refine va_sld (i := nI (5 * n) + 3) hx hb hX hbl hbA hS (lw_ix hn5 hL 3 (by decide)) dL_law_930 ?_
  rw [hx3]
  refine lv_aload_n hx hb dL_law_931 rfl (lv_at hl 1 rfl) ?_
  refine lw_hlp (As := [.ref s.heap.size, .int x1, .int x2, .int x3, .ref (s.heap.size + 181)]) ⟨hx, hb, hml, hown, hts2⟩ (hL_pass l D d s.heap.size (rc_L (s.heap.size + 1)) (rc_L (s.heap.size + 68)) σ (lw_A1 s.heap.size) (lw_B1 s.heap.size) (s.heap.size + 181) cL g (fun z => by have z : (s.heap.size + 1 ≤ s.heap.size ∧ s.heap.size < s.heap.size + 68) ∨ s.heap.size = s.heap.size + 181 := z; omega) (fun q h => Or.inl h) (Or.inr rfl) (fun z => by have z : s.heap.size + 1 ≤ s.heap.size + 181 ∧ s.heap.size + 181 < s.heap.size + 68 := z; omega) hl0 P F R hmr.hs x1 x2 x3) (vx_cwSW 5 hts2 gL_law_L_pass rfl rfl rfl (by decide +kernel) ⟨Nat.le_of_ble_eq_true rfl, Nat.le_of_ble_eq_true rfl⟩) hK hKL hXE hN hJ hS rfl hl.1 (Nat.le_of_ble_eq_true rfl) dL_law_932 ⟨by omega, by omega⟩ rfl (fun r1 g' H locs hr1 hg0 hJ hS => ?_)
  subst hr1
  refine lv_istore (lv' := [(5, .int ((cl_pass P F σ x1 x2 x3).1)), (4, .int (nI (5 * n))), (3, .ref (s.heap.size + 181)), (2, .ref (s.heap.size + 135)), (1, .ref s.heap.size), (0, .ref b)]) hx hb dL_law_935 hl (by decide) rfl (fun ls hl => ?_)
  refine lv_aload_n hx hb dL_law_937 rfl (lv_at hl 3 rfl) ?_
  refine lv_aload_n hx hb dL_law_938 rfl (lv_at hl 5 rfl) ?_
  refine lv_iload hx hb dL_law_939 (lv_at hl 1 rfl) ?_
  refine lv_iconst (v := 1) hx hb dL_law_941 (by decide) ?_
  refine lv_iadd hx hb dL_law_942 ?_
  refine va_sld (i := nI (5 * n) + 1) hx hb hX hbl hbA hS (lw_ix hn5 hL 1 (by decide)) dL_law_943 ?_
  rw [hx1]
  refine lv_aload_n hx hb dL_law_944 rfl (lv_at hl 5 rfl) ?_
  refine lv_iload hx hb dL_law_945 (lv_at hl 1 rfl) ?_
  refine lv_iconst (v := 2) hx hb dL_law_947 (by decide) ?_
  refine lv_iadd hx hb dL_law_948 ?_
  refine va_sld (i := nI (5 * n) + 2) hx hb hX hbl hbA hS (lw_ix hn5 hL 2 (by decide)) dL_law_949 ?_
  rw [hx2]
  refine lv_aload_n hx hb dL_law_950 rfl (lv_at hl 5 rfl) ?_
  refine lv_iload hx hb dL_law_951 (lv_at hl 1 rfl) ?_
  refine lv_iconst (v := 3) hx hb dL_law_953 (by decide) ?_
  refine lv_iadd hx hb dL_law_954 ?_
  refine va_sld (i := nI (5 * n) + 3) hx hb hX hbl hbA hS (lw_ix hn5 hL 3 (by decide)) dL_law_955 ?_
  rw [hx3]
  refine lw_ref (As := [.int x1, .int x2, .int x3]) (mc := 88) (ms := 656) ⟨hx, hb, hml, hown, hts2⟩ (kX6_pass l D d cB (mL (s.heap.size + 136)) (s.heap.size + 135) th ρ (lw_M s.heap.size H.size) H.size P F R hmr.mh x1 x2 x3 (fun q h => Or.inr h)) (cwV 3 hts2 gL_law_X6_pass rfl rfl rfl (by decide +kernel) ⟨Nat.le_of_ble_eq_true rfl, Nat.le_of_ble_eq_true rfl⟩) hKK hJ hS rfl hl.1 (Nat.le_of_ble_eq_true rfl) dL_law_956 ⟨by omega, by omega⟩ rfl (fun r2 X2 H locs hp hJ hS => ?_)
  refine lv_istore (lv' := [(6, .int r2), (5, .int ((cl_pass P F σ x1 x2 x3).1)), (4, .int (nI (5 * n))), (3, .ref (s.heap.size + 181)), (2, .ref (s.heap.size + 135)), (1, .ref s.heap.size), (0, .ref b)]) hx hb dL_law_959 hl (by decide) rfl (fun ls hl => ?_)
  refine lv_goto (tgt := 1353) hx hb dL_law_961 (by decide) ?_
  obtain ⟨s1, s2, P', F', R', hR, hmr2⟩ := sim_pass hmr hp
  refine W.widen (k := cells + 1426) (n := slots + 11421) (by omega) (by omega) ?_
  exact kk _ _ _ ⟨_, _, _, _, _, _, _, _, hmr2, htr.up hR, hJ⟩ hS (lv_sub hl [2, 3, 4, 5, 6] rfl)
set_option maxHeartbeats 4000000 in
set_option maxRecDepth 100000 in
/-- the law: ofPerson -/
theorem lw_c19 {p : Program} {l : Launch} {e : Env} {s : State} {m : MethodId} {below : List Frame} {meth : Method} {c : Code} {b L : Nat} {D : va_G} {d : hs_Dm} {cB cL : ClassId} {xs : Nat → Int32} (G : lw_G p l s m meth c b L D d cB cL xs) {n : Nat} (hn5 : 5 * n + 5 ≤ L) {H : Heap} {locs : List Loc} {cells slots : Nat} (hI : lw_I D d cB cL s.heap.size n H) (hS : va_S (rg_A s.heap.size) s.heap H locs) {ls : Array Slot} (hl : lv_has ls 9 [(4, .int (nI (5 * n))), (3, .ref (s.heap.size + 181)), (2, .ref (s.heap.size + 135)), (1, .ref s.heap.size), (0, .ref b)]) (hc : cells + 1426 ≤ room_1.cells ∧ slots + 11421 ≤ room_1.slots) (kk : ∀ (H1 : Heap) (locs1 : List Loc) (ls1 : Array Slot), lw_I D d cB cL s.heap.size (n + 1) H1 → va_S (rg_A s.heap.size) s.heap H1 locs1 → lv_has ls1 9 [(4, .int (nI (5 * n))), (3, .ref (s.heap.size + 181)), (2, .ref (s.heap.size + 135)), (1, .ref s.heap.size), (0, .ref b)] → W p l e room_1 s m #[Value.ref b] below meth c H1 locs1 (cells + 1426) (slots + 11421) (lw_Z below #[Value.ref b] s) (F0 m 1353 ls1 [])) : W p l e room_1 s m #[Value.ref b] below meth c H locs cells slots (lw_Z below #[Value.ref b] s) (F0 m 964 ls []) := by
  obtain ⟨hx, hb, hr, hlocks, hml, hown, hts, hl0, hX, hbl, hK, hKK, hKL, hXE, hN, hL⟩ := id G
  have hts2 : ∀ w ∈ wsL_law, w.before #[Value.ref b] s = true := fun w h => hts w (wsL_law_in w h)
  have hbA : ¬ rg_A s.heap.size b := Nat.not_le.mpr hbl
  have hc1 := hc.1
  have hc2 := hc.2
  obtain ⟨P, F, R, σ, σ2, ρ, th, g, hmr, htr, hJ⟩ := hI
  obtain ⟨x1, hx1⟩ : ∃ x, xs (nI (5 * n) + 1).toNatClampNeg = x := ⟨_, rfl⟩
  obtain ⟨x2, hx2⟩ : ∃ x, xs (nI (5 * n) + 2).toNatClampNeg = x := ⟨_, rfl⟩
  refine lv_aload_n hx hb dL_law_964 rfl (lv_at hl 3 rfl) ?_
  refine lv_aload_n hx hb dL_law_965 rfl (lv_at hl 4 rfl) ?_
  refine lv_iload hx hb dL_law_966 (lv_at hl 0 rfl) ?_
  refine lv_iconst (v := 1) hx hb dL_law_968 (by decide) ?_
  refine lv_iadd hx hb dL_law_969 ?_
  refine va_sld (i := nI (5 * n) + 1) hx hb hX hbl hbA hS (lw_ix hn5 hL 1 (by decide)) dL_law_970 ?_
  rw [hx1]
  refine lv_aload_n hx hb dL_law_971 rfl (lv_at hl 4 rfl) ?_
  refine lv_iload hx hb dL_law_972 (lv_at hl 0 rfl) ?_
  refine lv_iconst (v := 2) hx hb dL_law_974 (by decide) ?_
  refine lv_iadd hx hb dL_law_975 ?_
  refine va_sld (i := nI (5 * n) + 2) hx hb hX hbl hbA hS (lw_ix hn5 hL 2 (by decide)) dL_law_976 ?_
  rw [hx2]
  refine lv_aload_n hx hb dL_law_977 rfl (lv_at hl 1 rfl) ?_
  refine lw_hlp (As := [.ref s.heap.size, .int x1, .int x2, .ref (s.heap.size + 181)]) ⟨hx, hb, hml, hown, hts2⟩ (hL_ofPerson l D d s.heap.size (rc_L (s.heap.size + 1)) (rc_L (s.heap.size + 68)) σ (lw_A1 s.heap.size) (lw_B1 s.heap.size) (s.heap.size + 181) cL g (fun z => by have z : (s.heap.size + 1 ≤ s.heap.size ∧ s.heap.size < s.heap.size + 68) ∨ s.heap.size = s.heap.size + 181 := z; omega) (fun q h => Or.inl h) (Or.inr rfl) (fun z => by have z : s.heap.size + 1 ≤ s.heap.size + 181 ∧ s.heap.size + 181 < s.heap.size + 68 := z; omega) hl0 P F R hmr.hs x1 x2) (vx_cwSW 4 hts2 gL_law_L_ofPerson rfl rfl rfl (by decide +kernel) ⟨Nat.le_of_ble_eq_true rfl, Nat.le_of_ble_eq_true rfl⟩) hK hKL hXE hN hJ hS rfl hl.1 (Nat.le_of_ble_eq_true rfl) dL_law_978 ⟨by omega, by omega⟩ rfl (fun r1 g' H locs hr1 hg0 hJ hS => ?_)
  subst hr1
  refine lv_istore (lv' := [(5, .int ((cl_ofPerson P F σ x1 x2).1)), (4, .int (nI (5 * n))), (3, .ref (s.heap.size + 181)), (2, .ref (s.heap.size + 135)), (1, .ref s.heap.size), (0, .ref b)]) hx hb dL_law_981 hl (by decide) rfl (fun ls hl => ?_)
  refine lv_aload_n hx hb dL_law_983 rfl (lv_at hl 3 rfl) ?_
  refine lv_aload_n hx hb dL_law_984 rfl (lv_at hl 5 rfl) ?_
  refine lv_iload hx hb dL_law_985 (lv_at hl 1 rfl) ?_
  refine lv_iconst (v := 1) hx hb dL_law_987 (by decide) ?_
  refine lv_iadd hx hb dL_law_988 ?_
  refine va_sld (i := nI (5 * n) + 1) hx hb hX hbl hbA hS (lw_ix hn5 hL 1 (by decide)) dL_law_989 ?_
  rw [hx1]
  refine lv_aload_n hx hb dL_law_990 rfl (lv_at hl 5 rfl) ?_
  refine lv_iload hx hb dL_law_991 (lv_at hl 1 rfl) ?_
  refine lv_iconst (v := 2) hx hb dL_law_993 (by decide) ?_
  refine lv_iadd hx hb dL_law_994 ?_
  refine va_sld (i := nI (5 * n) + 2) hx hb hX hbl hbA hS (lw_ix hn5 hL 2 (by decide)) dL_law_995 ?_
  rw [hx2]
  refine lw_ref (As := [.int x1, .int x2]) (mc := 0) (ms := 0) ⟨hx, hb, hml, hown, hts2⟩ (kX6_ofPerson l D d cB (mL (s.heap.size + 136)) (s.heap.size + 135) th ρ (lw_M s.heap.size H.size) H.size P F R hmr.mh x1 x2) (cwV 2 hts2 gL_law_X6_ofPerson rfl rfl rfl (by decide +kernel) ⟨Nat.le_of_ble_eq_true rfl, Nat.le_of_ble_eq_true rfl⟩) hKK hJ hS rfl hl.1 (Nat.le_of_ble_eq_true rfl) dL_law_996 ⟨by omega, by omega⟩ rfl (fun r2 X2 H locs hp hJ hS => ?_)
  refine lv_istore (lv' := [(6, .int r2), (5, .int ((cl_ofPerson P F σ x1 x2).1)), (4, .int (nI (5 * n))), (3, .ref (s.heap.size + 181)), (2, .ref (s.heap.size + 135)), (1, .ref s.heap.size), (0, .ref b)]) hx hb dL_law_999 hl (by decide) rfl (fun ls hl => ?_)
  refine lv_goto (tgt := 1353) hx hb dL_law_1001 (by decide) ?_
  obtain ⟨s1, s2, P', F', R', hR, hmr2⟩ := sim_ofPerson hmr hp
  refine W.widen (k := cells + 1426) (n := slots + 11421) (by omega) (by omega) ?_
  exact kk _ _ _ ⟨_, _, _, _, _, _, _, _, hmr2, htr.up hR, hJ⟩ hS (lv_sub hl [2, 3, 4, 5, 6] rfl)
set_option maxHeartbeats 4000000 in
set_option maxRecDepth 100000 in
/-- the law: known -/
theorem lw_c20 {p : Program} {l : Launch} {e : Env} {s : State} {m : MethodId} {below : List Frame} {meth : Method} {c : Code} {b L : Nat} {D : va_G} {d : hs_Dm} {cB cL : ClassId} {xs : Nat → Int32} (G : lw_G p l s m meth c b L D d cB cL xs) {n : Nat} (hn5 : 5 * n + 5 ≤ L) {H : Heap} {locs : List Loc} {cells slots : Nat} (hI : lw_I D d cB cL s.heap.size n H) (hS : va_S (rg_A s.heap.size) s.heap H locs) {ls : Array Slot} (hl : lv_has ls 9 [(4, .int (nI (5 * n))), (3, .ref (s.heap.size + 181)), (2, .ref (s.heap.size + 135)), (1, .ref s.heap.size), (0, .ref b)]) (hc : cells + 1426 ≤ room_1.cells ∧ slots + 11421 ≤ room_1.slots) (kk : ∀ (H1 : Heap) (locs1 : List Loc) (ls1 : Array Slot), lw_I D d cB cL s.heap.size (n + 1) H1 → va_S (rg_A s.heap.size) s.heap H1 locs1 → lv_has ls1 9 [(4, .int (nI (5 * n))), (3, .ref (s.heap.size + 181)), (2, .ref (s.heap.size + 135)), (1, .ref s.heap.size), (0, .ref b)] → W p l e room_1 s m #[Value.ref b] below meth c H1 locs1 (cells + 1426) (slots + 11421) (lw_Z below #[Value.ref b] s) (F0 m 1353 ls1 [])) : W p l e room_1 s m #[Value.ref b] below meth c H locs cells slots (lw_Z below #[Value.ref b] s) (F0 m 1004 ls []) := by
  obtain ⟨hx, hb, hr, hlocks, hml, hown, hts, hl0, hX, hbl, hK, hKK, hKL, hXE, hN, hL⟩ := id G
  have hts2 : ∀ w ∈ wsL_law, w.before #[Value.ref b] s = true := fun w h => hts w (wsL_law_in w h)
  have hbA : ¬ rg_A s.heap.size b := Nat.not_le.mpr hbl
  have hc1 := hc.1
  have hc2 := hc.2
  obtain ⟨P, F, R, σ, σ2, ρ, th, g, hmr, htr, hJ⟩ := hI
  obtain ⟨x1, hx1⟩ : ∃ x, xs (nI (5 * n) + 1).toNatClampNeg = x := ⟨_, rfl⟩
  obtain ⟨x2, hx2⟩ : ∃ x, xs (nI (5 * n) + 2).toNatClampNeg = x := ⟨_, rfl⟩
  obtain ⟨x3, hx3⟩ : ∃ x, xs (nI (5 * n) + 3).toNatClampNeg = x := ⟨_, rfl⟩
  refine lv_aload_n hx hb dL_law_1004 rfl (lv_at hl 3 rfl) ?_
  refine lv_aload_n hx hb dL_law_1005 rfl (lv_at hl 4 rfl) ?_
  refine lv_iload hx hb dL_law_1006 (lv_at hl 0 rfl) ?_
  refine lv_iconst (v := 1) hx hb dL_law_1008 (by decide) ?_
  refine lv_iadd hx hb dL_law_1009 ?_
  refine va_sld (i := nI (5 * n) + 1) hx hb hX hbl hbA hS (lw_ix hn5 hL 1 (by decide)) dL_law_1010 ?_
  rw [hx1]
  refine lv_aload_n hx hb dL_law_1011 rfl (lv_at hl 4 rfl) ?_
  refine lv_iload hx hb dL_law_1012 (lv_at hl 0 rfl) ?_
  refine lv_iconst (v := 2) hx hb dL_law_1014 (by decide) ?_
  refine lv_iadd hx hb dL_law_1015 ?_
  refine va_sld (i := nI (5 * n) + 2) hx hb hX hbl hbA hS (lw_ix hn5 hL 2 (by decide)) dL_law_1016 ?_
  rw [hx2]
  refine lv_aload_n hx hb dL_law_1017 rfl (lv_at hl 4 rfl) ?_
  refine lv_iload hx hb dL_law_1018 (lv_at hl 0 rfl) ?_
  refine lv_iconst (v := 3) hx hb dL_law_1020 (by decide) ?_
  refine lv_iadd hx hb dL_law_1021 ?_
  refine va_sld (i := nI (5 * n) + 3) hx hb hX hbl hbA hS (lw_ix hn5 hL 3 (by decide)) dL_law_1022 ?_
  rw [hx3]
  refine lv_if_eq (tgt := 1030) hx hb dL_law_1023 (by decide) (fun c_1023 => ?_) (fun c_1023 => ?_)
  · refine lv_iconst (v := 0) hx hb dL_law_1030 (by decide) ?_
    refine lv_aload_n hx hb dL_law_1031 rfl (lv_at hl 1 rfl) ?_
    refine lw_hlp (As := [.ref s.heap.size, .int x1, .int x2, .int 0, .ref (s.heap.size + 181)]) ⟨hx, hb, hml, hown, hts2⟩ (hL_known l D d s.heap.size (rc_L (s.heap.size + 1)) (rc_L (s.heap.size + 68)) σ (lw_A1 s.heap.size) (lw_B1 s.heap.size) (s.heap.size + 181) cL g (fun z => by have z : (s.heap.size + 1 ≤ s.heap.size ∧ s.heap.size < s.heap.size + 68) ∨ s.heap.size = s.heap.size + 181 := z; omega) (fun q h => Or.inl h) (Or.inr rfl) (fun z => by have z : s.heap.size + 1 ≤ s.heap.size + 181 ∧ s.heap.size + 181 < s.heap.size + 68 := z; omega) hl0 P F R hmr.hs x1 x2 0 (Or.inl rfl)) (vx_cwSW 5 hts2 gL_law_L_known rfl rfl rfl (by decide +kernel) ⟨Nat.le_of_ble_eq_true rfl, Nat.le_of_ble_eq_true rfl⟩) hK hKL hXE hN hJ hS rfl hl.1 (Nat.le_of_ble_eq_true rfl) dL_law_1032 ⟨by omega, by omega⟩ rfl (fun r1 g' H locs hr1 hg0 hJ hS => ?_)
    subst hr1
    refine lv_istore (lv' := [(5, .int ((cl_known P σ x1 x2 0).1)), (4, .int (nI (5 * n))), (3, .ref (s.heap.size + 181)), (2, .ref (s.heap.size + 135)), (1, .ref s.heap.size), (0, .ref b)]) hx hb dL_law_1035 hl (by decide) rfl (fun ls hl => ?_)
    refine lv_aload_n hx hb dL_law_1037 rfl (lv_at hl 3 rfl) ?_
    refine lv_aload_n hx hb dL_law_1038 rfl (lv_at hl 5 rfl) ?_
    refine lv_iload hx hb dL_law_1039 (lv_at hl 1 rfl) ?_
    refine lv_iconst (v := 1) hx hb dL_law_1041 (by decide) ?_
    refine lv_iadd hx hb dL_law_1042 ?_
    refine va_sld (i := nI (5 * n) + 1) hx hb hX hbl hbA hS (lw_ix hn5 hL 1 (by decide)) dL_law_1043 ?_
    rw [hx1]
    refine lv_aload_n hx hb dL_law_1044 rfl (lv_at hl 5 rfl) ?_
    refine lv_iload hx hb dL_law_1045 (lv_at hl 1 rfl) ?_
    refine lv_iconst (v := 2) hx hb dL_law_1047 (by decide) ?_
    refine lv_iadd hx hb dL_law_1048 ?_
    refine va_sld (i := nI (5 * n) + 2) hx hb hX hbl hbA hS (lw_ix hn5 hL 2 (by decide)) dL_law_1049 ?_
    rw [hx2]
    refine lv_aload_n hx hb dL_law_1050 rfl (lv_at hl 5 rfl) ?_
    refine lv_iload hx hb dL_law_1051 (lv_at hl 1 rfl) ?_
    refine lv_iconst (v := 3) hx hb dL_law_1053 (by decide) ?_
    refine lv_iadd hx hb dL_law_1054 ?_
    refine va_sld (i := nI (5 * n) + 3) hx hb hX hbl hbA hS (lw_ix hn5 hL 3 (by decide)) dL_law_1055 ?_
    rw [hx3]
    refine lv_if_eq (tgt := 1063) hx hb dL_law_1056 (by decide) (fun c_1056 => ?_) (fun c_1056 => ?_)
    · refine lv_iconst (v := 0) hx hb dL_law_1063 (by decide) ?_
      refine lw_ref (As := [.int x1, .int x2, .int 0]) (mc := 0) (ms := 0) ⟨hx, hb, hml, hown, hts2⟩ (kX6_known l D d cB (mL (s.heap.size + 136)) (s.heap.size + 135) th ρ (lw_M s.heap.size H.size) H.size P F R hmr.mh x1 x2 0) (cwV 3 hts2 gL_law_X6_known rfl rfl rfl (by decide +kernel) ⟨Nat.le_of_ble_eq_true rfl, Nat.le_of_ble_eq_true rfl⟩) hKK hJ hS rfl hl.1 (Nat.le_of_ble_eq_true rfl) dL_law_1064 ⟨by omega, by omega⟩ rfl (fun r2 X2 H locs hp hJ hS => ?_)
      refine lv_istore (lv' := [(6, .int r2), (5, .int ((cl_known P σ x1 x2 0).1)), (4, .int (nI (5 * n))), (3, .ref (s.heap.size + 181)), (2, .ref (s.heap.size + 135)), (1, .ref s.heap.size), (0, .ref b)]) hx hb dL_law_1067 hl (by decide) rfl (fun ls hl => ?_)
      refine lv_goto (tgt := 1353) hx hb dL_law_1069 (by decide) ?_
      obtain ⟨s1, s2, P', F', R', hR, hmr2⟩ := sim_known hmr hp
      refine W.widen (k := cells + 1426) (n := slots + 11421) (by omega) (by omega) ?_
      exact kk _ _ _ ⟨_, _, _, _, _, _, _, _, hmr2, htr.up hR, hJ⟩ hS (lv_sub hl [2, 3, 4, 5, 6] rfl)
    · exact absurd c_1023 c_1056
  · refine lv_iconst (v := 1) hx hb dL_law_1026 (by decide) ?_
    refine lv_goto (tgt := 1031) hx hb dL_law_1027 (by decide) ?_
    refine lv_aload_n hx hb dL_law_1031 rfl (lv_at hl 1 rfl) ?_
    refine lw_hlp (As := [.ref s.heap.size, .int x1, .int x2, .int 1, .ref (s.heap.size + 181)]) ⟨hx, hb, hml, hown, hts2⟩ (hL_known l D d s.heap.size (rc_L (s.heap.size + 1)) (rc_L (s.heap.size + 68)) σ (lw_A1 s.heap.size) (lw_B1 s.heap.size) (s.heap.size + 181) cL g (fun z => by have z : (s.heap.size + 1 ≤ s.heap.size ∧ s.heap.size < s.heap.size + 68) ∨ s.heap.size = s.heap.size + 181 := z; omega) (fun q h => Or.inl h) (Or.inr rfl) (fun z => by have z : s.heap.size + 1 ≤ s.heap.size + 181 ∧ s.heap.size + 181 < s.heap.size + 68 := z; omega) hl0 P F R hmr.hs x1 x2 1 (Or.inr rfl)) (vx_cwSW 5 hts2 gL_law_L_known rfl rfl rfl (by decide +kernel) ⟨Nat.le_of_ble_eq_true rfl, Nat.le_of_ble_eq_true rfl⟩) hK hKL hXE hN hJ hS rfl hl.1 (Nat.le_of_ble_eq_true rfl) dL_law_1032 ⟨by omega, by omega⟩ rfl (fun r1 g' H locs hr1 hg0 hJ hS => ?_)
    subst hr1
    refine lv_istore (lv' := [(5, .int ((cl_known P σ x1 x2 1).1)), (4, .int (nI (5 * n))), (3, .ref (s.heap.size + 181)), (2, .ref (s.heap.size + 135)), (1, .ref s.heap.size), (0, .ref b)]) hx hb dL_law_1035 hl (by decide) rfl (fun ls hl => ?_)
    refine lv_aload_n hx hb dL_law_1037 rfl (lv_at hl 3 rfl) ?_
    refine lv_aload_n hx hb dL_law_1038 rfl (lv_at hl 5 rfl) ?_
    refine lv_iload hx hb dL_law_1039 (lv_at hl 1 rfl) ?_
    refine lv_iconst (v := 1) hx hb dL_law_1041 (by decide) ?_
    refine lv_iadd hx hb dL_law_1042 ?_
    refine va_sld (i := nI (5 * n) + 1) hx hb hX hbl hbA hS (lw_ix hn5 hL 1 (by decide)) dL_law_1043 ?_
    rw [hx1]
    refine lv_aload_n hx hb dL_law_1044 rfl (lv_at hl 5 rfl) ?_
    refine lv_iload hx hb dL_law_1045 (lv_at hl 1 rfl) ?_
    refine lv_iconst (v := 2) hx hb dL_law_1047 (by decide) ?_
    refine lv_iadd hx hb dL_law_1048 ?_
    refine va_sld (i := nI (5 * n) + 2) hx hb hX hbl hbA hS (lw_ix hn5 hL 2 (by decide)) dL_law_1049 ?_
    rw [hx2]
    refine lv_aload_n hx hb dL_law_1050 rfl (lv_at hl 5 rfl) ?_
    refine lv_iload hx hb dL_law_1051 (lv_at hl 1 rfl) ?_
    refine lv_iconst (v := 3) hx hb dL_law_1053 (by decide) ?_
    refine lv_iadd hx hb dL_law_1054 ?_
    refine va_sld (i := nI (5 * n) + 3) hx hb hX hbl hbA hS (lw_ix hn5 hL 3 (by decide)) dL_law_1055 ?_
    rw [hx3]
    refine lv_if_eq (tgt := 1063) hx hb dL_law_1056 (by decide) (fun c_1056 => ?_) (fun c_1056 => ?_)
    · exact absurd c_1056 c_1023
    · refine lv_iconst (v := 1) hx hb dL_law_1059 (by decide) ?_
      refine lv_goto (tgt := 1064) hx hb dL_law_1060 (by decide) ?_
      refine lw_ref (As := [.int x1, .int x2, .int 1]) (mc := 0) (ms := 0) ⟨hx, hb, hml, hown, hts2⟩ (kX6_known l D d cB (mL (s.heap.size + 136)) (s.heap.size + 135) th ρ (lw_M s.heap.size H.size) H.size P F R hmr.mh x1 x2 1) (cwV 3 hts2 gL_law_X6_known rfl rfl rfl (by decide +kernel) ⟨Nat.le_of_ble_eq_true rfl, Nat.le_of_ble_eq_true rfl⟩) hKK hJ hS rfl hl.1 (Nat.le_of_ble_eq_true rfl) dL_law_1064 ⟨by omega, by omega⟩ rfl (fun r2 X2 H locs hp hJ hS => ?_)
      refine lv_istore (lv' := [(6, .int r2), (5, .int ((cl_known P σ x1 x2 1).1)), (4, .int (nI (5 * n))), (3, .ref (s.heap.size + 181)), (2, .ref (s.heap.size + 135)), (1, .ref s.heap.size), (0, .ref b)]) hx hb dL_law_1067 hl (by decide) rfl (fun ls hl => ?_)
      refine lv_goto (tgt := 1353) hx hb dL_law_1069 (by decide) ?_
      obtain ⟨s1, s2, P', F', R', hR, hmr2⟩ := sim_known hmr hp
      refine W.widen (k := cells + 1426) (n := slots + 11421) (by omega) (by omega) ?_
      exact kk _ _ _ ⟨_, _, _, _, _, _, _, _, hmr2, htr.up hR, hJ⟩ hS (lv_sub hl [2, 3, 4, 5, 6] rfl)
set_option maxHeartbeats 4000000 in
set_option maxRecDepth 100000 in
/-- the law: ofFigure -/
theorem lw_c21 {p : Program} {l : Launch} {e : Env} {s : State} {m : MethodId} {below : List Frame} {meth : Method} {c : Code} {b L : Nat} {D : va_G} {d : hs_Dm} {cB cL : ClassId} {xs : Nat → Int32} (G : lw_G p l s m meth c b L D d cB cL xs) {n : Nat} (hn5 : 5 * n + 5 ≤ L) {H : Heap} {locs : List Loc} {cells slots : Nat} (hI : lw_I D d cB cL s.heap.size n H) (hS : va_S (rg_A s.heap.size) s.heap H locs) {ls : Array Slot} (hl : lv_has ls 9 [(4, .int (nI (5 * n))), (3, .ref (s.heap.size + 181)), (2, .ref (s.heap.size + 135)), (1, .ref s.heap.size), (0, .ref b)]) (hc : cells + 1426 ≤ room_1.cells ∧ slots + 11421 ≤ room_1.slots) (kk : ∀ (H1 : Heap) (locs1 : List Loc) (ls1 : Array Slot), lw_I D d cB cL s.heap.size (n + 1) H1 → va_S (rg_A s.heap.size) s.heap H1 locs1 → lv_has ls1 9 [(4, .int (nI (5 * n))), (3, .ref (s.heap.size + 181)), (2, .ref (s.heap.size + 135)), (1, .ref s.heap.size), (0, .ref b)] → W p l e room_1 s m #[Value.ref b] below meth c H1 locs1 (cells + 1426) (slots + 11421) (lw_Z below #[Value.ref b] s) (F0 m 1353 ls1 [])) : W p l e room_1 s m #[Value.ref b] below meth c H locs cells slots (lw_Z below #[Value.ref b] s) (F0 m 1072 ls []) := by
  obtain ⟨hx, hb, hr, hlocks, hml, hown, hts, hl0, hX, hbl, hK, hKK, hKL, hXE, hN, hL⟩ := id G
  have hts2 : ∀ w ∈ wsL_law, w.before #[Value.ref b] s = true := fun w h => hts w (wsL_law_in w h)
  have hbA : ¬ rg_A s.heap.size b := Nat.not_le.mpr hbl
  have hc1 := hc.1
  have hc2 := hc.2
  obtain ⟨P, F, R, σ, σ2, ρ, th, g, hmr, htr, hJ⟩ := hI
  obtain ⟨x1, hx1⟩ : ∃ x, xs (nI (5 * n) + 1).toNatClampNeg = x := ⟨_, rfl⟩
  obtain ⟨x2, hx2⟩ : ∃ x, xs (nI (5 * n) + 2).toNatClampNeg = x := ⟨_, rfl⟩
  refine lv_aload_n hx hb dL_law_1072 rfl (lv_at hl 3 rfl) ?_
  refine lv_aload_n hx hb dL_law_1073 rfl (lv_at hl 4 rfl) ?_
  refine lv_iload hx hb dL_law_1074 (lv_at hl 0 rfl) ?_
  refine lv_iconst (v := 1) hx hb dL_law_1076 (by decide) ?_
  refine lv_iadd hx hb dL_law_1077 ?_
  refine va_sld (i := nI (5 * n) + 1) hx hb hX hbl hbA hS (lw_ix hn5 hL 1 (by decide)) dL_law_1078 ?_
  rw [hx1]
  refine lv_aload_n hx hb dL_law_1079 rfl (lv_at hl 4 rfl) ?_
  refine lv_iload hx hb dL_law_1080 (lv_at hl 0 rfl) ?_
  refine lv_iconst (v := 2) hx hb dL_law_1082 (by decide) ?_
  refine lv_iadd hx hb dL_law_1083 ?_
  refine va_sld (i := nI (5 * n) + 2) hx hb hX hbl hbA hS (lw_ix hn5 hL 2 (by decide)) dL_law_1084 ?_
  rw [hx2]
  refine lv_aload_n hx hb dL_law_1085 rfl (lv_at hl 1 rfl) ?_
  refine lw_hlp (As := [.ref s.heap.size, .int x1, .int x2, .ref (s.heap.size + 181)]) ⟨hx, hb, hml, hown, hts2⟩ (hL_ofFigure l D d s.heap.size (rc_L (s.heap.size + 1)) (rc_L (s.heap.size + 68)) σ (lw_A1 s.heap.size) (lw_B1 s.heap.size) (s.heap.size + 181) cL g (fun z => by have z : (s.heap.size + 1 ≤ s.heap.size ∧ s.heap.size < s.heap.size + 68) ∨ s.heap.size = s.heap.size + 181 := z; omega) (fun q h => Or.inl h) (Or.inr rfl) (fun z => by have z : s.heap.size + 1 ≤ s.heap.size + 181 ∧ s.heap.size + 181 < s.heap.size + 68 := z; omega) hl0 P F R hmr.hs x1 x2) (vx_cwSW 4 hts2 gL_law_L_ofFigure rfl rfl rfl (by decide +kernel) ⟨Nat.le_of_ble_eq_true rfl, Nat.le_of_ble_eq_true rfl⟩) hK hKL hXE hN hJ hS rfl hl.1 (Nat.le_of_ble_eq_true rfl) dL_law_1086 ⟨by omega, by omega⟩ rfl (fun r1 g' H locs hr1 hg0 hJ hS => ?_)
  subst hr1
  refine lv_istore (lv' := [(5, .int ((cl_ofFigure F σ x1 x2).1)), (4, .int (nI (5 * n))), (3, .ref (s.heap.size + 181)), (2, .ref (s.heap.size + 135)), (1, .ref s.heap.size), (0, .ref b)]) hx hb dL_law_1089 hl (by decide) rfl (fun ls hl => ?_)
  refine lv_aload_n hx hb dL_law_1091 rfl (lv_at hl 3 rfl) ?_
  refine lv_aload_n hx hb dL_law_1092 rfl (lv_at hl 5 rfl) ?_
  refine lv_iload hx hb dL_law_1093 (lv_at hl 1 rfl) ?_
  refine lv_iconst (v := 1) hx hb dL_law_1095 (by decide) ?_
  refine lv_iadd hx hb dL_law_1096 ?_
  refine va_sld (i := nI (5 * n) + 1) hx hb hX hbl hbA hS (lw_ix hn5 hL 1 (by decide)) dL_law_1097 ?_
  rw [hx1]
  refine lv_aload_n hx hb dL_law_1098 rfl (lv_at hl 5 rfl) ?_
  refine lv_iload hx hb dL_law_1099 (lv_at hl 1 rfl) ?_
  refine lv_iconst (v := 2) hx hb dL_law_1101 (by decide) ?_
  refine lv_iadd hx hb dL_law_1102 ?_
  refine va_sld (i := nI (5 * n) + 2) hx hb hX hbl hbA hS (lw_ix hn5 hL 2 (by decide)) dL_law_1103 ?_
  rw [hx2]
  refine lw_ref (As := [.int x1, .int x2]) (mc := 1) (ms := 12) ⟨hx, hb, hml, hown, hts2⟩ (kX6_ofFigure l D d cB (mL (s.heap.size + 136)) (s.heap.size + 135) th ρ (lw_M s.heap.size H.size) H.size P F R hmr.mh x1 x2 (fun q h => Or.inr h)) (cwV 2 hts2 gL_law_X6_ofFigure rfl rfl rfl (by decide +kernel) ⟨Nat.le_of_ble_eq_true rfl, Nat.le_of_ble_eq_true rfl⟩) hKK hJ hS rfl hl.1 (Nat.le_of_ble_eq_true rfl) dL_law_1104 ⟨by omega, by omega⟩ rfl (fun r2 X2 H locs hp hJ hS => ?_)
  refine lv_istore (lv' := [(6, .int r2), (5, .int ((cl_ofFigure F σ x1 x2).1)), (4, .int (nI (5 * n))), (3, .ref (s.heap.size + 181)), (2, .ref (s.heap.size + 135)), (1, .ref s.heap.size), (0, .ref b)]) hx hb dL_law_1107 hl (by decide) rfl (fun ls hl => ?_)
  refine lv_goto (tgt := 1353) hx hb dL_law_1109 (by decide) ?_
  obtain ⟨s1, s2, P', F', R', hR, hmr2⟩ := sim_ofFigure hmr hp
  refine W.widen (k := cells + 1426) (n := slots + 11421) (by omega) (by omega) ?_
  exact kk _ _ _ ⟨_, _, _, _, _, _, _, _, hmr2, htr.up hR, hJ⟩ hS (lv_sub hl [2, 3, 4, 5, 6] rfl)
set_option maxHeartbeats 4000000 in
set_option maxRecDepth 100000 in
/-- the law: ofRoom -/
theorem lw_c22 {p : Program} {l : Launch} {e : Env} {s : State} {m : MethodId} {below : List Frame} {meth : Method} {c : Code} {b L : Nat} {D : va_G} {d : hs_Dm} {cB cL : ClassId} {xs : Nat → Int32} (G : lw_G p l s m meth c b L D d cB cL xs) {n : Nat} (hn5 : 5 * n + 5 ≤ L) {H : Heap} {locs : List Loc} {cells slots : Nat} (hI : lw_I D d cB cL s.heap.size n H) (hS : va_S (rg_A s.heap.size) s.heap H locs) {ls : Array Slot} (hl : lv_has ls 9 [(4, .int (nI (5 * n))), (3, .ref (s.heap.size + 181)), (2, .ref (s.heap.size + 135)), (1, .ref s.heap.size), (0, .ref b)]) (hc : cells + 1426 ≤ room_1.cells ∧ slots + 11421 ≤ room_1.slots) (kk : ∀ (H1 : Heap) (locs1 : List Loc) (ls1 : Array Slot), lw_I D d cB cL s.heap.size (n + 1) H1 → va_S (rg_A s.heap.size) s.heap H1 locs1 → lv_has ls1 9 [(4, .int (nI (5 * n))), (3, .ref (s.heap.size + 181)), (2, .ref (s.heap.size + 135)), (1, .ref s.heap.size), (0, .ref b)] → W p l e room_1 s m #[Value.ref b] below meth c H1 locs1 (cells + 1426) (slots + 11421) (lw_Z below #[Value.ref b] s) (F0 m 1353 ls1 [])) : W p l e room_1 s m #[Value.ref b] below meth c H locs cells slots (lw_Z below #[Value.ref b] s) (F0 m 1112 ls []) := by
  obtain ⟨hx, hb, hr, hlocks, hml, hown, hts, hl0, hX, hbl, hK, hKK, hKL, hXE, hN, hL⟩ := id G
  have hts2 : ∀ w ∈ wsL_law, w.before #[Value.ref b] s = true := fun w h => hts w (wsL_law_in w h)
  have hbA : ¬ rg_A s.heap.size b := Nat.not_le.mpr hbl
  have hc1 := hc.1
  have hc2 := hc.2
  obtain ⟨P, F, R, σ, σ2, ρ, th, g, hmr, htr, hJ⟩ := hI
  obtain ⟨x1, hx1⟩ : ∃ x, xs (nI (5 * n) + 1).toNatClampNeg = x := ⟨_, rfl⟩
  obtain ⟨x2, hx2⟩ : ∃ x, xs (nI (5 * n) + 2).toNatClampNeg = x := ⟨_, rfl⟩
  refine lv_aload_n hx hb dL_law_1112 rfl (lv_at hl 3 rfl) ?_
  refine lv_aload_n hx hb dL_law_1113 rfl (lv_at hl 4 rfl) ?_
  refine lv_iload hx hb dL_law_1114 (lv_at hl 0 rfl) ?_
  refine lv_iconst (v := 1) hx hb dL_law_1116 (by decide) ?_
  refine lv_iadd hx hb dL_law_1117 ?_
  refine va_sld (i := nI (5 * n) + 1) hx hb hX hbl hbA hS (lw_ix hn5 hL 1 (by decide)) dL_law_1118 ?_
  rw [hx1]
  refine lv_aload_n hx hb dL_law_1119 rfl (lv_at hl 4 rfl) ?_
  refine lv_iload hx hb dL_law_1120 (lv_at hl 0 rfl) ?_
  refine lv_iconst (v := 2) hx hb dL_law_1122 (by decide) ?_
  refine lv_iadd hx hb dL_law_1123 ?_
  refine va_sld (i := nI (5 * n) + 2) hx hb hX hbl hbA hS (lw_ix hn5 hL 2 (by decide)) dL_law_1124 ?_
  rw [hx2]
  refine lv_aload_n hx hb dL_law_1125 rfl (lv_at hl 1 rfl) ?_
  refine lw_hlp (As := [.ref s.heap.size, .int x1, .int x2, .ref (s.heap.size + 181)]) ⟨hx, hb, hml, hown, hts2⟩ (hL_ofRoom l D d s.heap.size (rc_L (s.heap.size + 1)) (rc_L (s.heap.size + 68)) σ (lw_A1 s.heap.size) (lw_B1 s.heap.size) (s.heap.size + 181) cL g (fun z => by have z : (s.heap.size + 1 ≤ s.heap.size ∧ s.heap.size < s.heap.size + 68) ∨ s.heap.size = s.heap.size + 181 := z; omega) (fun q h => Or.inl h) (Or.inr rfl) (fun z => by have z : s.heap.size + 1 ≤ s.heap.size + 181 ∧ s.heap.size + 181 < s.heap.size + 68 := z; omega) hl0 P F R hmr.hs x1 x2) (vx_cwSW 4 hts2 gL_law_L_ofRoom rfl rfl rfl (by decide +kernel) ⟨Nat.le_of_ble_eq_true rfl, Nat.le_of_ble_eq_true rfl⟩) hK hKL hXE hN hJ hS rfl hl.1 (Nat.le_of_ble_eq_true rfl) dL_law_1126 ⟨by omega, by omega⟩ rfl (fun r1 g' H locs hr1 hg0 hJ hS => ?_)
  subst hr1
  refine lv_istore (lv' := [(5, .int ((cl_ofRoom F R σ x1 x2).1)), (4, .int (nI (5 * n))), (3, .ref (s.heap.size + 181)), (2, .ref (s.heap.size + 135)), (1, .ref s.heap.size), (0, .ref b)]) hx hb dL_law_1129 hl (by decide) rfl (fun ls hl => ?_)
  refine lv_aload_n hx hb dL_law_1131 rfl (lv_at hl 3 rfl) ?_
  refine lv_aload_n hx hb dL_law_1132 rfl (lv_at hl 5 rfl) ?_
  refine lv_iload hx hb dL_law_1133 (lv_at hl 1 rfl) ?_
  refine lv_iconst (v := 1) hx hb dL_law_1135 (by decide) ?_
  refine lv_iadd hx hb dL_law_1136 ?_
  refine va_sld (i := nI (5 * n) + 1) hx hb hX hbl hbA hS (lw_ix hn5 hL 1 (by decide)) dL_law_1137 ?_
  rw [hx1]
  refine lv_aload_n hx hb dL_law_1138 rfl (lv_at hl 5 rfl) ?_
  refine lv_iload hx hb dL_law_1139 (lv_at hl 1 rfl) ?_
  refine lv_iconst (v := 2) hx hb dL_law_1141 (by decide) ?_
  refine lv_iadd hx hb dL_law_1142 ?_
  refine va_sld (i := nI (5 * n) + 2) hx hb hX hbl hbA hS (lw_ix hn5 hL 2 (by decide)) dL_law_1143 ?_
  rw [hx2]
  refine lw_ref (As := [.int x1, .int x2]) (mc := 1) (ms := 4) ⟨hx, hb, hml, hown, hts2⟩ (kX6_ofRoom l D d cB (mL (s.heap.size + 136)) (s.heap.size + 135) th ρ (lw_M s.heap.size H.size) H.size P F R hmr.mh x1 x2 (fun q h => Or.inr h)) (cwV 2 hts2 gL_law_X6_ofRoom rfl rfl rfl (by decide +kernel) ⟨Nat.le_of_ble_eq_true rfl, Nat.le_of_ble_eq_true rfl⟩) hKK hJ hS rfl hl.1 (Nat.le_of_ble_eq_true rfl) dL_law_1144 ⟨by omega, by omega⟩ rfl (fun r2 X2 H locs hp hJ hS => ?_)
  refine lv_istore (lv' := [(6, .int r2), (5, .int ((cl_ofRoom F R σ x1 x2).1)), (4, .int (nI (5 * n))), (3, .ref (s.heap.size + 181)), (2, .ref (s.heap.size + 135)), (1, .ref s.heap.size), (0, .ref b)]) hx hb dL_law_1147 hl (by decide) rfl (fun ls hl => ?_)
  refine lv_goto (tgt := 1353) hx hb dL_law_1149 (by decide) ?_
  obtain ⟨s1, s2, P', F', R', hR, hmr2⟩ := sim_ofRoom hmr hp
  refine W.widen (k := cells + 1426) (n := slots + 11421) (by omega) (by omega) ?_
  exact kk _ _ _ ⟨_, _, _, _, _, _, _, _, hmr2, htr.up hR, hJ⟩ hS (lv_sub hl [2, 3, 4, 5, 6] rfl)
set_option maxHeartbeats 4000000 in
set_option maxRecDepth 100000 in
/-- the law: many -/
theorem lw_c23 {p : Program} {l : Launch} {e : Env} {s : State} {m : MethodId} {below : List Frame} {meth : Method} {c : Code} {b L : Nat} {D : va_G} {d : hs_Dm} {cB cL : ClassId} {xs : Nat → Int32} (G : lw_G p l s m meth c b L D d cB cL xs) {n : Nat} (hn5 : 5 * n + 5 ≤ L) {H : Heap} {locs : List Loc} {cells slots : Nat} (hI : lw_I D d cB cL s.heap.size n H) (hS : va_S (rg_A s.heap.size) s.heap H locs) {ls : Array Slot} (hl : lv_has ls 9 [(4, .int (nI (5 * n))), (3, .ref (s.heap.size + 181)), (2, .ref (s.heap.size + 135)), (1, .ref s.heap.size), (0, .ref b)]) (hc : cells + 1426 ≤ room_1.cells ∧ slots + 11421 ≤ room_1.slots) (kk : ∀ (H1 : Heap) (locs1 : List Loc) (ls1 : Array Slot), lw_I D d cB cL s.heap.size (n + 1) H1 → va_S (rg_A s.heap.size) s.heap H1 locs1 → lv_has ls1 9 [(4, .int (nI (5 * n))), (3, .ref (s.heap.size + 181)), (2, .ref (s.heap.size + 135)), (1, .ref s.heap.size), (0, .ref b)] → W p l e room_1 s m #[Value.ref b] below meth c H1 locs1 (cells + 1426) (slots + 11421) (lw_Z below #[Value.ref b] s) (F0 m 1353 ls1 [])) : W p l e room_1 s m #[Value.ref b] below meth c H locs cells slots (lw_Z below #[Value.ref b] s) (F0 m 1152 ls []) := by
  obtain ⟨hx, hb, hr, hlocks, hml, hown, hts, hl0, hX, hbl, hK, hKK, hKL, hXE, hN, hL⟩ := id G
  have hts2 : ∀ w ∈ wsL_law, w.before #[Value.ref b] s = true := fun w h => hts w (wsL_law_in w h)
  have hbA : ¬ rg_A s.heap.size b := Nat.not_le.mpr hbl
  have hc1 := hc.1
  have hc2 := hc.2
  obtain ⟨P, F, R, σ, σ2, ρ, th, g, hmr, htr, hJ⟩ := hI
  obtain ⟨x1, hx1⟩ : ∃ x, xs (nI (5 * n) + 1).toNatClampNeg = x := ⟨_, rfl⟩
  refine lv_aload_n hx hb dL_law_1152 rfl (lv_at hl 3 rfl) ?_
  refine lv_aload_n hx hb dL_law_1153 rfl (lv_at hl 4 rfl) ?_
  refine lv_iload hx hb dL_law_1154 (lv_at hl 0 rfl) ?_
  refine lv_iconst (v := 1) hx hb dL_law_1156 (by decide) ?_
  refine lv_iadd hx hb dL_law_1157 ?_
  refine va_sld (i := nI (5 * n) + 1) hx hb hX hbl hbA hS (lw_ix hn5 hL 1 (by decide)) dL_law_1158 ?_
  rw [hx1]
  refine lv_aload_n hx hb dL_law_1159 rfl (lv_at hl 1 rfl) ?_
  refine lw_hlp (As := [.ref s.heap.size, .int x1, .ref (s.heap.size + 181)]) ⟨hx, hb, hml, hown, hts2⟩ (hL_many l D d s.heap.size (rc_L (s.heap.size + 1)) (rc_L (s.heap.size + 68)) σ (lw_A1 s.heap.size) (lw_B1 s.heap.size) (s.heap.size + 181) cL g (fun z => by have z : (s.heap.size + 1 ≤ s.heap.size ∧ s.heap.size < s.heap.size + 68) ∨ s.heap.size = s.heap.size + 181 := z; omega) (fun q h => Or.inl h) (Or.inr rfl) (fun z => by have z : s.heap.size + 1 ≤ s.heap.size + 181 ∧ s.heap.size + 181 < s.heap.size + 68 := z; omega) hl0 P F R hmr.hs x1) (vx_cwSW 3 hts2 gL_law_L_many rfl rfl rfl (by decide +kernel) ⟨Nat.le_of_ble_eq_true rfl, Nat.le_of_ble_eq_true rfl⟩) hK hKL hXE hN hJ hS rfl hl.1 (Nat.le_of_ble_eq_true rfl) dL_law_1160 ⟨by omega, by omega⟩ rfl (fun r1 g' H locs hr1 hg0 hJ hS => ?_)
  subst hr1
  refine lv_istore (lv' := [(5, .int ((cl_many P F σ x1).1)), (4, .int (nI (5 * n))), (3, .ref (s.heap.size + 181)), (2, .ref (s.heap.size + 135)), (1, .ref s.heap.size), (0, .ref b)]) hx hb dL_law_1163 hl (by decide) rfl (fun ls hl => ?_)
  refine lv_aload_n hx hb dL_law_1165 rfl (lv_at hl 3 rfl) ?_
  refine lv_aload_n hx hb dL_law_1166 rfl (lv_at hl 5 rfl) ?_
  refine lv_iload hx hb dL_law_1167 (lv_at hl 1 rfl) ?_
  refine lv_iconst (v := 1) hx hb dL_law_1169 (by decide) ?_
  refine lv_iadd hx hb dL_law_1170 ?_
  refine va_sld (i := nI (5 * n) + 1) hx hb hX hbl hbA hS (lw_ix hn5 hL 1 (by decide)) dL_law_1171 ?_
  rw [hx1]
  refine lw_ref (As := [.int x1]) (mc := 1) (ms := 15) ⟨hx, hb, hml, hown, hts2⟩ (kX6_many l D d cB (mL (s.heap.size + 136)) (s.heap.size + 135) th ρ (lw_M s.heap.size H.size) H.size P F R hmr.mh x1 (fun q h => Or.inr h)) (cwV 1 hts2 gL_law_X6_many rfl rfl rfl (by decide +kernel) ⟨Nat.le_of_ble_eq_true rfl, Nat.le_of_ble_eq_true rfl⟩) hKK hJ hS rfl hl.1 (Nat.le_of_ble_eq_true rfl) dL_law_1172 ⟨by omega, by omega⟩ rfl (fun r2 X2 H locs hp hJ hS => ?_)
  refine lv_istore (lv' := [(6, .int r2), (5, .int ((cl_many P F σ x1).1)), (4, .int (nI (5 * n))), (3, .ref (s.heap.size + 181)), (2, .ref (s.heap.size + 135)), (1, .ref s.heap.size), (0, .ref b)]) hx hb dL_law_1175 hl (by decide) rfl (fun ls hl => ?_)
  refine lv_goto (tgt := 1353) hx hb dL_law_1177 (by decide) ?_
  obtain ⟨s1, s2, P', F', R', hR, hmr2⟩ := sim_many hmr hp
  refine W.widen (k := cells + 1426) (n := slots + 11421) (by omega) (by omega) ?_
  exact kk _ _ _ ⟨_, _, _, _, _, _, _, _, hmr2, htr.up hR, hJ⟩ hS (lv_sub hl [2, 3, 4, 5, 6] rfl)
