/-! THE LAW: which call, the loop, the start -/
set_option maxHeartbeats 4000000 in
set_option maxRecDepth 100000 in
/-- the law: which call -/
theorem lw_disp {p : Program} {l : Launch} {e : Env} {s : State} {m : MethodId} {below : List Frame} {meth : Method} {c : Code} {b L : Nat} {D : va_G} {d : hs_Dm} {cB cL : ClassId} {xs : Nat → Int32} (G : lw_G p l s m meth c b L D d cB cL xs) {n : Nat} (hn5 : 5 * n + 5 ≤ L) {H : Heap} {locs : List Loc} {cells slots : Nat} (hI : lw_I D d cB cL s.heap.size n H) (hS : va_S (rg_A s.heap.size) s.heap H locs) {ls : Array Slot} (hl : lv_has ls 9 [(4, .int (nI (5 * n))), (3, .ref (s.heap.size + 181)), (2, .ref (s.heap.size + 135)), (1, .ref s.heap.size), (0, .ref b)]) (hc : cells + 1426 ≤ room_1.cells ∧ slots + 11421 ≤ room_1.slots) (kk : ∀ (H1 : Heap) (locs1 : List Loc) (ls1 : Array Slot), lw_I D d cB cL s.heap.size (n + 1) H1 → va_S (rg_A s.heap.size) s.heap H1 locs1 → lv_has ls1 9 [(4, .int (nI (5 * n))), (3, .ref (s.heap.size + 181)), (2, .ref (s.heap.size + 135)), (1, .ref s.heap.size), (0, .ref b)] → W p l e room_1 s m #[Value.ref b] below meth c H1 locs1 (cells + 1426) (slots + 11421) (lw_Z below #[Value.ref b] s) (F0 m 1353 ls1 [])) : ∀ k : Nat, k < 32 → W p l e room_1 s m #[Value.ref b] below meth c H locs cells slots (lw_Z below #[Value.ref b] s) (F0 m 39 ls [.int (nI k)]) := by
  obtain ⟨hx, hb, hr, hlocks, hml, hown, hts, hl0, hX, hbl, hK, hKK, hKL, hXE, hN, hL⟩ := id G
  have hc1 := hc.1
  have hc2 := hc.2
  intro k hk
  match k, hk with
  | 0, _ =>
    refine lv_tableIn (off := 133) (tgt := 172) hx hb dL_law_39 (by decide +kernel) (by decide +kernel) (by decide +kernel) (by decide) ?_
    exact lw_c0 G hn5 hI hS hl hc kk
  | 1, _ =>
    refine lv_tableIn (off := 185) (tgt := 224) hx hb dL_law_39 (by decide +kernel) (by decide +kernel) (by decide +kernel) (by decide) ?_
    exact lw_c1 G hn5 hI hS hl hc kk
  | 2, _ =>
    refine lv_tableIn (off := 237) (tgt := 276) hx hb dL_law_39 (by decide +kernel) (by decide +kernel) (by decide +kernel) (by decide) ?_
    exact lw_c2 G hn5 hI hS hl hc kk
  | 3, _ =>
    refine lv_tableIn (off := 277) (tgt := 316) hx hb dL_law_39 (by decide +kernel) (by decide +kernel) (by decide +kernel) (by decide) ?_
    exact lw_c3 G hn5 hI hS hl hc kk
  | 4, _ =>
    refine lv_tableIn (off := 333) (tgt := 372) hx hb dL_law_39 (by decide +kernel) (by decide +kernel) (by decide +kernel) (by decide) ?_
    exact lw_c4 G hn5 hI hS hl hc kk
  | 5, _ =>
    refine lv_tableIn (off := 397) (tgt := 436) hx hb dL_law_39 (by decide +kernel) (by decide +kernel) (by decide +kernel) (by decide) ?_
    exact lw_c5 G hn5 hI hS hl hc kk
  | 6, _ =>
    refine lv_tableIn (off := 425) (tgt := 464) hx hb dL_law_39 (by decide +kernel) (by decide +kernel) (by decide +kernel) (by decide) ?_
    exact lw_c6 G hn5 hI hS hl hc kk
  | 7, _ =>
    refine lv_tableIn (off := 453) (tgt := 492) hx hb dL_law_39 (by decide +kernel) (by decide +kernel) (by decide +kernel) (by decide) ?_
    exact lw_c7 G hn5 hI hS hl hc kk
  | 8, _ =>
    refine lv_tableIn (off := 493) (tgt := 532) hx hb dL_law_39 (by decide +kernel) (by decide +kernel) (by decide +kernel) (by decide) ?_
    exact lw_c8 G hn5 hI hS hl hc kk
  | 9, _ =>
    refine lv_tableIn (off := 533) (tgt := 572) hx hb dL_law_39 (by decide +kernel) (by decide +kernel) (by decide +kernel) (by decide) ?_
    exact lw_c9 G hn5 hI hS hl hc kk
  | 10, _ =>
    refine lv_tableIn (off := 561) (tgt := 600) hx hb dL_law_39 (by decide +kernel) (by decide +kernel) (by decide +kernel) (by decide) ?_
    exact lw_c10 G hn5 hI hS hl hc kk
  | 11, _ =>
    refine lv_tableIn (off := 589) (tgt := 628) hx hb dL_law_39 (by decide +kernel) (by decide +kernel) (by decide +kernel) (by decide) ?_
    exact lw_c11 G hn5 hI hS hl hc kk
  | 12, _ =>
    refine lv_tableIn (off := 641) (tgt := 680) hx hb dL_law_39 (by decide +kernel) (by decide +kernel) (by decide +kernel) (by decide) ?_
    exact lw_c12 G hn5 hI hS hl hc kk
  | 13, _ =>
    refine lv_tableIn (off := 709) (tgt := 748) hx hb dL_law_39 (by decide +kernel) (by decide +kernel) (by decide +kernel) (by decide) ?_
    exact lw_c13 G hn5 hI hS hl hc kk
  | 14, _ =>
    refine lv_tableIn (off := 749) (tgt := 788) hx hb dL_law_39 (by decide +kernel) (by decide +kernel) (by decide +kernel) (by decide) ?_
    exact lw_c14 G hn5 hI hS hl hc kk
  | 15, _ =>
    refine lv_tableIn (off := 789) (tgt := 828) hx hb dL_law_39 (by decide +kernel) (by decide +kernel) (by decide +kernel) (by decide) ?_
    exact lw_c15 G hn5 hI hS hl hc kk
  | 16, _ =>
    refine lv_tableIn (off := 817) (tgt := 856) hx hb dL_law_39 (by decide +kernel) (by decide +kernel) (by decide +kernel) (by decide) ?_
    exact lw_c16 G hn5 hI hS hl hc kk
  | 17, _ =>
    refine lv_tableIn (off := 845) (tgt := 884) hx hb dL_law_39 (by decide +kernel) (by decide +kernel) (by decide +kernel) (by decide) ?_
    exact lw_c17 G hn5 hI hS hl hc kk
  | 18, _ =>
    refine lv_tableIn (off := 873) (tgt := 912) hx hb dL_law_39 (by decide +kernel) (by decide +kernel) (by decide +kernel) (by decide) ?_
    exact lw_c18 G hn5 hI hS hl hc kk
  | 19, _ =>
    refine lv_tableIn (off := 925) (tgt := 964) hx hb dL_law_39 (by decide +kernel) (by decide +kernel) (by decide +kernel) (by decide) ?_
    exact lw_c19 G hn5 hI hS hl hc kk
  | 20, _ =>
    refine lv_tableIn (off := 965) (tgt := 1004) hx hb dL_law_39 (by decide +kernel) (by decide +kernel) (by decide +kernel) (by decide) ?_
    exact lw_c20 G hn5 hI hS hl hc kk
  | 21, _ =>
    refine lv_tableIn (off := 1033) (tgt := 1072) hx hb dL_law_39 (by decide +kernel) (by decide +kernel) (by decide +kernel) (by decide) ?_
    exact lw_c21 G hn5 hI hS hl hc kk
  | 22, _ =>
    refine lv_tableIn (off := 1073) (tgt := 1112) hx hb dL_law_39 (by decide +kernel) (by decide +kernel) (by decide +kernel) (by decide) ?_
    exact lw_c22 G hn5 hI hS hl hc kk
  | 23, _ =>
    refine lv_tableIn (off := 1113) (tgt := 1152) hx hb dL_law_39 (by decide +kernel) (by decide +kernel) (by decide +kernel) (by decide) ?_
    exact lw_c23 G hn5 hI hS hl hc kk
  | 24, _ =>
    refine lv_tableIn (off := 1141) (tgt := 1180) hx hb dL_law_39 (by decide +kernel) (by decide +kernel) (by decide +kernel) (by decide) ?_
    exact lw_c24 G hn5 hI hS hl hc kk
  | 25, _ =>
    refine lv_tableIn (off := 1156) (tgt := 1195) hx hb dL_law_39 (by decide +kernel) (by decide +kernel) (by decide +kernel) (by decide) ?_
    exact lw_c25 G hn5 hI hS hl hc kk
  | 26, _ =>
    refine lv_tableIn (off := 1208) (tgt := 1247) hx hb dL_law_39 (by decide +kernel) (by decide +kernel) (by decide +kernel) (by decide) ?_
    exact lw_c26 G hn5 hI hS hl hc kk
  | 27, _ =>
    refine lv_tableIn (off := 1236) (tgt := 1275) hx hb dL_law_39 (by decide +kernel) (by decide +kernel) (by decide +kernel) (by decide) ?_
    exact lw_c27 G hn5 hI hS hl hc kk
  | 28, _ =>
    refine lv_tableIn (off := 1288) (tgt := 1327) hx hb dL_law_39 (by decide +kernel) (by decide +kernel) (by decide +kernel) (by decide) ?_
    exact lw_c28 G hn5 hI hS hl hc kk
  | 29, _ =>
    refine lv_tableIn (off := 1301) (tgt := 1340) hx hb dL_law_39 (by decide +kernel) (by decide +kernel) (by decide +kernel) (by decide) ?_
    exact lw_c29 G hn5 hI hS hl hc kk
  | 30, _ =>
    refine lv_tableOut (tgt := 1353) hx hb dL_law_39 (by decide +kernel) (by decide) ?_
    obtain ⟨P, F, R, σ, σ2, ρ, th, g, hmr, htr, hJ⟩ := hI
    refine W.widen (k := cells + 1426) (n := slots + 11421) (by omega) (by omega) ?_
    exact kk _ _ _ ⟨P, F, R, σ, σ2, ρ, th, g, hmr.up (Nat.le_succ n), htr, hJ⟩ hS hl
  | 31, _ =>
    refine lv_tableOut (tgt := 1353) hx hb dL_law_39 (by decide +kernel) (by decide) ?_
    obtain ⟨P, F, R, σ, σ2, ρ, th, g, hmr, htr, hJ⟩ := hI
    refine W.widen (k := cells + 1426) (n := slots + 11421) (by omega) (by omega) ?_
    exact kk _ _ _ ⟨P, F, R, σ, σ2, ρ, th, g, hmr.up (Nat.le_succ n), htr, hJ⟩ hS hl
  | k + 32, h => exact absurd h (by omega)
set_option maxHeartbeats 4000000 in
set_option maxRecDepth 100000 in
/-- the law: call after call -/
theorem lw_loop {p : Program} {l : Launch} {e : Env} {s : State} {m : MethodId} {below : List Frame} {meth : Method} {c : Code} {b L : Nat} {D : va_G} {d : hs_Dm} {cB cL : ClassId} {xs : Nat → Int32} (G : lw_G p l s m meth c b L D d cB cL xs) : ∀ (k n : Nat), n + k = L / 5 → ∀ {H : Heap} {locs : List Loc} {ls : Array Slot}, lw_I D d cB cL s.heap.size n H → va_S (rg_A s.heap.size) s.heap H locs → lv_has ls 9 [(4, .int (nI (5 * n))), (3, .ref (s.heap.size + 181)), (2, .ref (s.heap.size + 135)), (1, .ref s.heap.size), (0, .ref b)] → W p l e room_1 s m #[Value.ref b] below meth c H locs (182 + 1426 * n) (1149 + 11421 * n) (lw_Z below #[Value.ref b] s) (F0 m 23 ls []) := by
  obtain ⟨hx, hb, hr, hlocks, hml, hown, hts, hl0, hX, hbl, hK, hKK, hKL, hXE, hN, hL⟩ := id G
  have hbA : ¬ rg_A s.heap.size b := Nat.not_le.mpr hbl
  have eL : (Int32.ofNat L - 5).toInt = (L : Int) - 5 := by
    have e5 : (5 : Int32).toInt = 5 := rfl
    rw [tI_sub (by rw [e5, show (Int32.ofNat L).toInt = (L : Int) from nI_toInt (by omega)]; omega) (by rw [e5, show (Int32.ofNat L).toInt = (L : Int) from nI_toInt (by omega)]; omega), e5, show (Int32.ofNat L).toInt = (L : Int) from nI_toInt (by omega)]
  have hk0 : ∀ k n : Nat, n + k = L / 5 → n ≤ 512 := fun k n e => by omega
  intro k
  induction k with
  | zero =>
    intro n hnk H locs ls hI hS hl
    have hn := hk0 _ n hnk
    refine lv_iload hx hb dL_law_23 (lv_at hl 0 rfl) ?_
    refine lv_aload_n hx hb dL_law_25 rfl (lv_at hl 4 rfl) ?_
    refine va_slen hx hb hX hbl hbA hS dL_law_26 ?_
    refine lv_iconst (v := 5) hx hb dL_law_27 (by decide) ?_
    refine lv_isub hx hb dL_law_28 ?_
    refine lv_icmp_gt (tgt := 1359) hx hb dL_law_29 (by decide) (fun c_29 => ?_) (fun c_29 => ?_)
    · refine lv_iconst (v := 1) hx hb dL_law_1359 (by decide) ?_
      refine va_forget (fun q hq => hS.2.2 q hq) ?_
      refine W.widen (k := 841708) (n := 6570980) (by omega) (by omega) ?_
      exact lw_ret (Drawn.sameBut.refl s.drawn lw_cs) hx hb hr hlocks dL_law_1360
    · exfalso
      rw [tI_lt, eL, nI_toInt (by omega)] at c_29
      omega
  | succ k ih =>
    intro n hnk H locs ls hI hS hl
    have hn := hk0 _ n hnk
    refine lv_iload hx hb dL_law_23 (lv_at hl 0 rfl) ?_
    refine lv_aload_n hx hb dL_law_25 rfl (lv_at hl 4 rfl) ?_
    refine va_slen hx hb hX hbl hbA hS dL_law_26 ?_
    refine lv_iconst (v := 5) hx hb dL_law_27 (by decide) ?_
    refine lv_isub hx hb dL_law_28 ?_
    refine lv_icmp_gt (tgt := 1359) hx hb dL_law_29 (by decide) (fun c_29 => ?_) (fun c_29 => ?_)
    · exfalso
      rw [tI_lt, eL, nI_toInt (by omega)] at c_29
      omega
    · have hn5 : 5 * n + 5 ≤ L := by omega
      refine lv_aload_n hx hb dL_law_32 rfl (lv_at hl 4 rfl) ?_
      refine lv_iload hx hb dL_law_33 (lv_at hl 0 rfl) ?_
      refine va_sld (i := nI (5 * n)) hx hb hX hbl hbA hS (lw_ix0 hn5 hL) dL_law_35 ?_
      refine lv_bipush (v := 31) hx hb dL_law_36 (by decide) ?_
      refine lv_iand hx hb dL_law_38 ?_
      obtain ⟨k9, hk9, en⟩ := lw_and (xs (nI (5 * n)).toNatClampNeg)
      rw [en]
      have er1 : room_1.cells = 841708 := rfl
      have er2 : room_1.slots = 6570980 := rfl
      refine lw_disp G hn5 hI hS hl ⟨by rw [er1]; omega, by rw [er2]; omega⟩ (fun H1 locs1 ls1 hI1 hS1 hl1 => ?_) k9 hk9
      refine lv_iinc (v := nI (5 * (n + 1))) (lv' := [(4, .int (nI (5 * (n + 1)))), (3, .ref (s.heap.size + 181)), (2, .ref (s.heap.size + 135)), (1, .ref s.heap.size), (0, .ref b)]) hx hb dL_law_1353 hl1 (k := 0) rfl ?_ (by decide) rfl (fun ls hl => ?_)
      · show nI (5 * n) + nI 5 = nI (5 * (n + 1))
        exact tI_eq (by rw [tI_add (by rw [nI_toInt (by omega), nI_toInt (by omega)]; omega) (by rw [nI_toInt (by omega), nI_toInt (by omega)]; omega), nI_toInt (by omega), nI_toInt (by omega), nI_toInt (by omega)]; omega)
      refine lv_goto (tgt := 23) hx hb dL_law_1356 (by decide) ?_
      have h9 := ih (n + 1) (by omega) hI1 hS1 hl
      rw [show 182 + 1426 * (n + 1) = 182 + 1426 * n + 1426 by omega, show 1149 + 11421 * (n + 1) = 1149 + 11421 * n + 11421 by omega] at h9
      exact h9
set_option maxHeartbeats 8000000 in
set_option maxRecDepth 100000 in
/-- THE LAW, from its entry -/
theorem whole_start {p : Program} {e : Env} {s : State} {m : MethodId} {below : List Frame} {meth : Method} {c : Code} (l : Launch) (hflags : l.flags = flags0) {b L : Nat} {xs : Nat → Int32} (hL : L ≤ 2560) (C0 : lw_At p s m meth c b L xs) : W p l e room_1 s m #[Value.ref b] below meth c s.heap [] 0 0 (lw_Z below #[Value.ref b] s) (entryFrame m ([Value.ref b] : List Value).toArray 9) := by
  obtain ⟨hx, hb, hr, hml, hown, hts, hX, hbl, hlocks, hgv⟩ := id C0
  have hb : c.code = cL_law := hb
  have hown : s.vm.findClass RL = some m.cls := hown
  have hts2 : ∀ w ∈ wsL_law, w.before #[Value.ref b] s = true := fun w h => hts w (wsL_law_in w h)
  have hl0 : l.stackTraces = false := by
    show (!l.flags.contains noTraceFlag) = false
    rw [hflags]
    decide +kernel
  obtain ⟨D, d, cB, cL, hK, hK2, hKB, hKL, hXE, hAO, hAA, hNw⟩ := st_world hts hgv
  have hN := st_N hts hgv
  have hKK := st_M hts hK hK2 hAA hNw
  have hS : va_S (rg_A s.heap.size) s.heap s.heap [] := va_S.rf
  have hl := lv_entry ([.ref b]) (n := 9) (Nat.le_of_ble_eq_true rfl)
  rw [lg_entry_eq]
  generalize (lg_sl ([.ref b]) ++ List.replicate (9 - (lg_sl ([.ref b])).length) Slot.unset).toArray = ls at hl ⊢
  have hl : lv_has ls 9 [(0, .ref b)] := hl
  have hg : rg D (rc_1 (.inr (cWx, [.null, .null]))) s.heap.size 0 s.heap := fun j hj => absurd hj (Nat.not_lt_zero _)
  have hz : s.heap.size = s.heap.size + 0 := rfl
  refine rg_new (ci := cWx) (fs := [.null, .null]) (C := RX4) (T := TX4) (N := 2) (mm := 0) hx hb hts2 inlX4 tyX4 tyX4_ok hown (hts (.classLink RL 8 RX4) (by decide +kernel)) (hts (.instantiable RX4 2) (by decide +kernel)) (hts (.initialized RX4) (by decide +kernel)) hK hg hz hS rfl (fun j hj => by rcases (show j = 0 ∨ j = 1 by omega) with rfl | rfl <;> rfl) (Nat.le_of_ble_eq_true rfl) (Nat.le_of_ble_eq_true rfl) dL_law_0 (fun H hg hz hS _ => ?_)
  refine lv_dup hx hb dL_law_3 rfl ?_
  refine rg_callIE (As := []) (C0 := rc_1 (.inr (cWx, [.null, .null]))) (C2 := rc_X d s.heap.size) (mm := 0) ⟨hx, hb, hml, hown, hts2⟩ (kX4_init l D d s.heap.size) (cwI 0 hts2 gL_law_X4_init rfl rfl rfl (hts (.initialized RX4) (by decide +kernel)) (hts (.methodLink RL 102 yX4_init) (by decide +kernel)) (hts (.instanceMethod yX4_init) (by decide +kernel)) rfl (by decide +kernel) ⟨Nat.le_of_ble_eq_true rfl, Nat.le_of_ble_eq_true rfl⟩) hK hXE.1 hAO hg rfl hz hS rfl hl.1 (Nat.le_of_ble_eq_true rfl) dL_law_4 ⟨Nat.le_of_ble_eq_true rfl, Nat.le_of_ble_eq_true rfl⟩ rfl (fun H locs hg hz hS => ?_)
  have hz : H.size = s.heap.size + 135 := by omega
  have hg : rg D (rc_X d s.heap.size) s.heap.size 135 H := fun j hj => by
    have h := hg j (by omega)
    simp only [Nat.not_lt_zero, if_false, Nat.sub_zero] at h
    exact h
  refine lv_astore_n (lv' := [(1, .ref s.heap.size), (0, .ref b)]) hx hb dL_law_7 rfl hl (by decide) rfl (fun ls hl => ?_)
  refine rg_new (ci := cRm) (fs := [.int 0, .null]) (C := RX6) (T := TX6) (N := 2) (mm := 135) hx hb hts2 inlX6 tyX6 tyX6_ok hown (hts (.classLink RL 103 RX6) (by decide +kernel)) (hts (.instantiable RX6 2) (by decide +kernel)) (hts (.initialized RX6) (by decide +kernel)) hK hg hz hS rfl (fun j hj => by rcases (show j = 0 ∨ j = 1 by omega) with rfl | rfl <;> rfl) (Nat.le_of_ble_eq_true rfl) (Nat.le_of_ble_eq_true rfl) dL_law_8 (fun H hg hz hS _ => ?_)
  refine lv_dup hx hb dL_law_11 rfl ?_
  refine rf_callI (As := []) (C0 := rc_1 (.inr (cRm, [.int 0, .null]))) (C2 := rf_X d cB (s.heap.size + 135)) (mm := 135) ⟨hx, hb, hml, hown, hts2⟩ (kX6_init l D d cB (s.heap.size + 135)) (cwI 0 hts2 gL_law_X6_init rfl rfl rfl (hts (.initialized RX6) (by decide +kernel)) (hts (.methodLink RL 105 yX6_init) (by decide +kernel)) (hts (.instanceMethod yX6_init) (by decide +kernel)) rfl (by decide +kernel) ⟨Nat.le_of_ble_eq_true rfl, Nat.le_of_ble_eq_true rfl⟩) hK hKB hAA hNw hg rfl hz hS rfl hl.1 (Nat.le_of_ble_eq_true rfl) dL_law_12 ⟨Nat.le_of_ble_eq_true rfl, Nat.le_of_ble_eq_true rfl⟩ rfl (fun H locs hg hz hS _ => ?_)
  have hz : H.size = s.heap.size + 181 := by omega
  refine lv_astore_n (lv' := [(2, .ref (s.heap.size + 135)), (1, .ref s.heap.size), (0, .ref b)]) hx hb dL_law_15 rfl hl (by decide) rfl (fun ls hl => ?_)
  refine lv_iconst (v := 1) hx hb dL_law_16 (by decide) ?_
  refine rg_newl (mm := 181) hx hb (hts (.arrayClass .long) (by decide +kernel)) hKL hg hz hS (Nat.le_of_ble_eq_true rfl) (Nat.le_of_ble_eq_true rfl) dL_law_17 (fun H hg hz hS => ?_)
  have hg : rg D (lw_X d cB cL s.heap.size) s.heap.size 182 H := hg.congr (fun j hj => by
    unfold lw_X
    by_cases h : j = 181
    · subst h
      rw [rc_up1, if_neg (by omega), if_neg (by omega)]
    · rw [rc_upn _ _ _ _ h]
      by_cases h2 : j < 135
      · rw [if_pos h2]
        simp only [if_pos h2]
        rw [rc_upn _ _ _ _ (by omega)]
      · rw [if_neg h2, if_pos (by omega)]
        simp only [if_neg h2])
  have hz : H.size = s.heap.size + 182 := by omega
  refine lv_astore_n (lv' := [(3, .ref (s.heap.size + 181)), (2, .ref (s.heap.size + 135)), (1, .ref s.heap.size), (0, .ref b)]) hx hb dL_law_19 rfl hl (by decide) rfl (fun ls hl => ?_)
  refine lv_iconst (v := 0) hx hb dL_law_20 (by decide) ?_
  refine lv_istore (lv' := [(4, .int 0), (3, .ref (s.heap.size + 181)), (2, .ref (s.heap.size + 135)), (1, .ref s.heap.size), (0, .ref b)]) hx hb dL_law_21 hl (by decide) rfl (fun ls hl => ?_)
  refine W.widen (k := 182 + 1426 * 0) (n := 1149 + 11421 * 0) (Nat.le_of_ble_eq_true rfl) (Nat.le_of_ble_eq_true rfl) ?_
  have G : lw_G p l s m meth c b L D d cB cL xs := ⟨hx, hb, hr, hlocks, hml, hown, hts, hl0, hX, hbl, hK, hKK, hKL, hXE, hN, hL⟩
  exact lw_loop G (L / 5) 0 (Nat.zero_add _) ⟨0, 0, 0, rc_s, rc_s, mp_born, 0, (fun _ => 0), mr_born, ⟨0, 0, 0, rc_s_ok, Nat.le_refl _⟩, lw_house hg, lw_trial hg, lw_wax hg, lw_born hg, lw_out hg, by omega⟩ hS hl
