/-! WAXROW'S CALLS THAT THROW behind an index that is within -/
set_option maxHeartbeats 4000000 in
set_option maxRecDepth 100000 in
/-- uX4_trend_1 throws -/
theorem uX4_trend_1 (l : Launch) (D : va_G) (d : hs_Dm) (L : hs_Lo) (σ : hs_St) (A : Nat → Prop) (w : Nat) (L2 : hs_Lo) (hwA : ¬ A w) (hl0 : l.stackTraces = false) (P F R : Nat) (hok : hs_ok P F R σ) (q : Nat) (hq : q < P) (y z : Int32) (h0 : y < 0 ∨ ¬ y < 3) : wx_T l yX4_trend wsX4_trend ({ frames := 8, cells := 1, slots := 6, locals := 150 }) D d w L L2 σ A [.ref w, .int (nI q), .int y, .int z] "java/lang/IndexOutOfBoundsException" := by
  refine vx_ofW (cc := cX4_trend) (maxL := 6) (ret := (some .int)) (by decide) rfl ?_
  intro p e s m args below meth c s₁ B hml htb hv
  obtain ⟨rfl, ⟨⟨hW, hK⟩, hX⟩, hV⟩ := hv
  have hE := hX.1
  have hx := B.exec
  have hb := B.bytes
  have hr := B.returns
  have hts := atoms_spec (ws := wsX4_trend) B.pre
  have hown : s.vm.findClass RX4 = some m.cls := findClass_of_methodNamed B.named
  have hlocks := B.notSynchronized
  have hS : va_S A s.heap s.heap [] := va_S.rf
  have hW : hs_W D d L σ A s.heap := hW
  have hl := lv_entry ([.ref w, .int (nI q), .int y, .int z]) (n := 6) (Nat.le_of_ble_eq_true rfl)
  rw [lg_entry_eq]
  generalize (lg_sl ([.ref w, .int (nI q), .int y, .int z]) ++ List.replicate (6 - (lg_sl ([.ref w, .int (nI q), .int y, .int z])).length) Slot.unset).toArray = ls at hl ⊢
  have hl : lv_has ls 6 [(0, .ref w), (1, .int (nI q)), (2, .int y), (3, .int z)] := hl
  have h10 := hok.1
  have h8 := hok.2.1
  have h5 := hok.2.2.1
  have hd_ := hok.hd
  refine lv_aload_n hx hb dX4_trend_0 rfl (lv_at hl 0 rfl) ?_
  refine va_get (D := D) (ci := cWx) (C := RX4) (T := TX4) (N := 2) (ws := [(w, .inr (cWx, [.ref (L 0 0), .ref (L2 0 0)]))]) (v := .ref (L 0 0)) hx hb hts (by decide +kernel) hown hK (wx_one hV hS hwA) 0 rfl rfl 0 (by decide) (hts (.fieldLink RX4 10 "Waxrow" "house" "LWaxrow$House;") (by decide +kernel)) (fun _ h9 => h9) rfl dX4_trend_1 ?_
  refine lv_iload_n hx hb dX4_trend_4 rfl (lv_at hl 1 rfl) ?_
  refine hs_callr (As := [.int (nI q)]) ⟨hx, hb, hml, hown, hts⟩ (kX1_personAt l D d L σ A q P hok.hP hq hok.1) (cwV 1 hts gX4_trend_X1_personAt rfl rfl rfl (by decide +kernel) ⟨Nat.le_of_ble_eq_true rfl, Nat.le_of_ble_eq_true rfl⟩) hK hE hW hS hs_ix0 (ci := cHo) (r := (RX1, TX1, 11)) rfl rfl rfl rfl hl.1 (Nat.le_of_ble_eq_true rfl) dX4_trend_5 ⟨Nat.zero_le _, Nat.zero_le _⟩ rfl (fun H locs hW hS => ?_)
  refine lv_astore (lv' := [(4, .ref (L 4 q)), (0, .ref w), (1, .int (nI q)), (2, .int y), (3, .int z)]) hx hb dX4_trend_8 hl (by decide) rfl (fun ls hl => ?_)
  refine lv_iload_n hx hb dX4_trend_10 rfl (lv_at hl 3 rfl) ?_
  refine lv_iconst (v := 3) hx hb dX4_trend_11 (by decide) ?_
  exact hx_runT (As := [.int y, .int 3]) ⟨hx, hb, hml, hown, hts⟩ (tX4_checkIndex l D d L σ A hl0 y 3 h0) (va_cwS 2 hts gX4_trend_X4_checkIndex rfl rfl rfl (by decide +kernel) ⟨Nat.le_of_ble_eq_true rfl, Nat.le_of_ble_eq_true rfl⟩) hK hX hW hS rfl hl.1 (Nat.le_of_ble_eq_true rfl) dX4_trend_12 ⟨Nat.le_of_ble_eq_true rfl, Nat.le_of_ble_eq_true rfl⟩ rfl (fun ce q9 H1 locs1 hW hS hce hcv hcl => hx_out htb hlocks hK hW hS hce hcv hcl (by decide) (by decide))
set_option maxHeartbeats 4000000 in
set_option maxRecDepth 100000 in
/-- uX4_trend_2 throws -/
theorem uX4_trend_2 (l : Launch) (D : va_G) (d : hs_Dm) (L : hs_Lo) (σ : hs_St) (A : Nat → Prop) (w : Nat) (L2 : hs_Lo) (hwA : ¬ A w) (hl0 : l.stackTraces = false) (P F R : Nat) (hok : hs_ok P F R σ) (q : Nat) (hq : q < P) (j : Nat) (hj : j < 3) (z : Int32) (h0 : z < -40 ∨ ¬ z ≤ 40) : wx_T l yX4_trend wsX4_trend ({ frames := 8, cells := 1, slots := 6, locals := 150 }) D d w L L2 σ A [.ref w, .int (nI q), .int (nI j), .int z] "java/lang/IllegalArgumentException" := by
  refine vx_ofW (cc := cX4_trend) (maxL := 6) (ret := (some .int)) (by decide) rfl ?_
  intro p e s m args below meth c s₁ B hml htb hv
  obtain ⟨rfl, ⟨⟨hW, hK⟩, hX⟩, hV⟩ := hv
  have hE := hX.1
  have hx := B.exec
  have hb := B.bytes
  have hr := B.returns
  have hts := atoms_spec (ws := wsX4_trend) B.pre
  have hown : s.vm.findClass RX4 = some m.cls := findClass_of_methodNamed B.named
  have hlocks := B.notSynchronized
  have hS : va_S A s.heap s.heap [] := va_S.rf
  have hW : hs_W D d L σ A s.heap := hW
  have hl := lv_entry ([.ref w, .int (nI q), .int (nI j), .int z]) (n := 6) (Nat.le_of_ble_eq_true rfl)
  rw [lg_entry_eq]
  generalize (lg_sl ([.ref w, .int (nI q), .int (nI j), .int z]) ++ List.replicate (6 - (lg_sl ([.ref w, .int (nI q), .int (nI j), .int z])).length) Slot.unset).toArray = ls at hl ⊢
  have hl : lv_has ls 6 [(0, .ref w), (1, .int (nI q)), (2, .int (nI j)), (3, .int z)] := hl
  have h10 := hok.1
  have h8 := hok.2.1
  have h5 := hok.2.2.1
  have hd_ := hok.hd
  refine lv_aload_n hx hb dX4_trend_0 rfl (lv_at hl 0 rfl) ?_
  refine va_get (D := D) (ci := cWx) (C := RX4) (T := TX4) (N := 2) (ws := [(w, .inr (cWx, [.ref (L 0 0), .ref (L2 0 0)]))]) (v := .ref (L 0 0)) hx hb hts (by decide +kernel) hown hK (wx_one hV hS hwA) 0 rfl rfl 0 (by decide) (hts (.fieldLink RX4 10 "Waxrow" "house" "LWaxrow$House;") (by decide +kernel)) (fun _ h9 => h9) rfl dX4_trend_1 ?_
  refine lv_iload_n hx hb dX4_trend_4 rfl (lv_at hl 1 rfl) ?_
  refine hs_callr (As := [.int (nI q)]) ⟨hx, hb, hml, hown, hts⟩ (kX1_personAt l D d L σ A q P hok.hP hq hok.1) (cwV 1 hts gX4_trend_X1_personAt rfl rfl rfl (by decide +kernel) ⟨Nat.le_of_ble_eq_true rfl, Nat.le_of_ble_eq_true rfl⟩) hK hE hW hS hs_ix0 (ci := cHo) (r := (RX1, TX1, 11)) rfl rfl rfl rfl hl.1 (Nat.le_of_ble_eq_true rfl) dX4_trend_5 ⟨Nat.zero_le _, Nat.zero_le _⟩ rfl (fun H locs hW hS => ?_)
  refine lv_astore (lv' := [(4, .ref (L 4 q)), (0, .ref w), (1, .int (nI q)), (2, .int (nI j)), (3, .int z)]) hx hb dX4_trend_8 hl (by decide) rfl (fun ls hl => ?_)
  refine lv_iload_n hx hb dX4_trend_10 rfl (lv_at hl 3 rfl) ?_
  refine lv_iconst (v := 3) hx hb dX4_trend_11 (by decide) ?_
  refine hs_runv (As := [.int (nI j), .int 3]) ⟨hx, hb, hml, hown, hts⟩ (kX4_checkIndex l D d L σ A (nI j) 3 (nI_pos (by omega)) (by rw [sp_three]; exact nI_lt hj (by decide))) (va_cwS 2 hts gX4_trend_X4_checkIndex rfl rfl rfl (by decide +kernel) ⟨Nat.le_of_ble_eq_true rfl, Nat.le_of_ble_eq_true rfl⟩) hK hE hW hS rfl hl.1 (Nat.le_of_ble_eq_true rfl) dX4_trend_12 ⟨Nat.zero_le _, Nat.zero_le _⟩ rfl (fun τ_ H locs hp hW hS => ?_)
  obtain rfl := hp
  refine lv_iload_n hx hb dX4_trend_15 rfl (lv_at hl 4 rfl) ?_
  refine lv_bipush (v := (-40)) hx hb dX4_trend_16 (by decide) ?_
  refine lv_bipush (v := 40) hx hb dX4_trend_18 (by decide) ?_
  exact hx_runT (As := [.int z, .int (-40), .int 40]) ⟨hx, hb, hml, hown, hts⟩ (tX4_checkArgument l D d L σ A hl0 z (-40) 40 h0) (va_cwS 3 hts gX4_trend_X4_checkArgument rfl rfl rfl (by decide +kernel) ⟨Nat.le_of_ble_eq_true rfl, Nat.le_of_ble_eq_true rfl⟩) hK hX hW hS rfl hl.1 (Nat.le_of_ble_eq_true rfl) dX4_trend_20 ⟨Nat.le_of_ble_eq_true rfl, Nat.le_of_ble_eq_true rfl⟩ rfl (fun ce q9 H1 locs1 hW hS hce hcv hcl => hx_out htb hlocks hK hW hS hce hcv hcl (by decide) (by decide))
set_option maxHeartbeats 4000000 in
set_option maxRecDepth 100000 in
/-- uX4_news_1 throws -/
theorem uX4_news_1 (l : Launch) (D : va_G) (d : hs_Dm) (L : hs_Lo) (σ : hs_St) (A : Nat → Prop) (w : Nat) (L2 : hs_Lo) (hwA : ¬ A w) (hl0 : l.stackTraces = false) (P F R : Nat) (hok : hs_ok P F R σ) (q : Nat) (hq : q < P) (y : Int32) (h0 : y < -500 ∨ ¬ y ≤ 500) : wx_T l yX4_news wsX4_news ({ frames := 8, cells := 1, slots := 6, locals := 150 }) D d w L L2 σ A [.ref w, .int (nI q), .int y] "java/lang/IllegalArgumentException" := by
  refine vx_ofW (cc := cX4_news) (maxL := 4) (ret := (some .int)) (by decide) rfl ?_
  intro p e s m args below meth c s₁ B hml htb hv
  obtain ⟨rfl, ⟨⟨hW, hK⟩, hX⟩, hV⟩ := hv
  have hE := hX.1
  have hx := B.exec
  have hb := B.bytes
  have hr := B.returns
  have hts := atoms_spec (ws := wsX4_news) B.pre
  have hown : s.vm.findClass RX4 = some m.cls := findClass_of_methodNamed B.named
  have hlocks := B.notSynchronized
  have hS : va_S A s.heap s.heap [] := va_S.rf
  have hW : hs_W D d L σ A s.heap := hW
  have hl := lv_entry ([.ref w, .int (nI q), .int y]) (n := 4) (Nat.le_of_ble_eq_true rfl)
  rw [lg_entry_eq]
  generalize (lg_sl ([.ref w, .int (nI q), .int y]) ++ List.replicate (4 - (lg_sl ([.ref w, .int (nI q), .int y])).length) Slot.unset).toArray = ls at hl ⊢
  have hl : lv_has ls 4 [(0, .ref w), (1, .int (nI q)), (2, .int y)] := hl
  have h10 := hok.1
  have h8 := hok.2.1
  have h5 := hok.2.2.1
  have hd_ := hok.hd
  refine lv_aload_n hx hb dX4_news_0 rfl (lv_at hl 0 rfl) ?_
  refine va_get (D := D) (ci := cWx) (C := RX4) (T := TX4) (N := 2) (ws := [(w, .inr (cWx, [.ref (L 0 0), .ref (L2 0 0)]))]) (v := .ref (L 0 0)) hx hb hts (by decide +kernel) hown hK (wx_one hV hS hwA) 0 rfl rfl 0 (by decide) (hts (.fieldLink RX4 10 "Waxrow" "house" "LWaxrow$House;") (by decide +kernel)) (fun _ h9 => h9) rfl dX4_news_1 ?_
  refine lv_iload_n hx hb dX4_news_4 rfl (lv_at hl 1 rfl) ?_
  refine hs_callr (As := [.int (nI q)]) ⟨hx, hb, hml, hown, hts⟩ (kX1_personAt l D d L σ A q P hok.hP hq hok.1) (cwV 1 hts gX4_news_X1_personAt rfl rfl rfl (by decide +kernel) ⟨Nat.le_of_ble_eq_true rfl, Nat.le_of_ble_eq_true rfl⟩) hK hE hW hS hs_ix0 (ci := cHo) (r := (RX1, TX1, 11)) rfl rfl rfl rfl hl.1 (Nat.le_of_ble_eq_true rfl) dX4_news_5 ⟨Nat.zero_le _, Nat.zero_le _⟩ rfl (fun H locs hW hS => ?_)
  refine lv_astore_n (lv' := [(3, .ref (L 4 q)), (0, .ref w), (1, .int (nI q)), (2, .int y)]) hx hb dX4_news_8 rfl hl (by decide) rfl (fun ls hl => ?_)
  refine lv_iload_n hx hb dX4_news_9 rfl (lv_at hl 3 rfl) ?_
  refine lv_sipush (v := (-500)) hx hb dX4_news_10 (by decide) ?_
  refine lv_sipush (v := 500) hx hb dX4_news_13 (by decide) ?_
  exact hx_runT (As := [.int y, .int (-500), .int 500]) ⟨hx, hb, hml, hown, hts⟩ (tX4_checkArgument l D d L σ A hl0 y (-500) 500 h0) (va_cwS 3 hts gX4_news_X4_checkArgument rfl rfl rfl (by decide +kernel) ⟨Nat.le_of_ble_eq_true rfl, Nat.le_of_ble_eq_true rfl⟩) hK hX hW hS rfl hl.1 (Nat.le_of_ble_eq_true rfl) dX4_news_16 ⟨Nat.le_of_ble_eq_true rfl, Nat.le_of_ble_eq_true rfl⟩ rfl (fun ce q9 H1 locs1 hW hS hce hcv hcl => hx_out htb hlocks hK hW hS hce hcv hcl (by decide) (by decide))
set_option maxHeartbeats 4000000 in
set_option maxRecDepth 100000 in
/-- uX4_measure_1 throws -/
theorem uX4_measure_1 (l : Launch) (D : va_G) (d : hs_Dm) (L : hs_Lo) (σ : hs_St) (A : Nat → Prop) (w : Nat) (L2 : hs_Lo) (hwA : ¬ A w) (hl0 : l.stackTraces = false) (P F R : Nat) (hok : hs_ok P F R σ) (q : Nat) (hq : q < P) (y v er : Int32) (h0 : y < 0 ∨ ¬ y < 6) : wx_T l yX4_measure wsX4_measure ({ frames := 8, cells := 1, slots := 6, locals := 150 }) D d w L L2 σ A [.ref w, .int (nI q), .int y, .int v, .int er] "java/lang/IndexOutOfBoundsException" := by
  refine vx_ofW (cc := cX4_measure) (maxL := 6) (ret := (some .int)) (by decide) rfl ?_
  intro p e s m args below meth c s₁ B hml htb hv
  obtain ⟨rfl, ⟨⟨hW, hK⟩, hX⟩, hV⟩ := hv
  have hE := hX.1
  have hx := B.exec
  have hb := B.bytes
  have hr := B.returns
  have hts := atoms_spec (ws := wsX4_measure) B.pre
  have hown : s.vm.findClass RX4 = some m.cls := findClass_of_methodNamed B.named
  have hlocks := B.notSynchronized
  have hS : va_S A s.heap s.heap [] := va_S.rf
  have hW : hs_W D d L σ A s.heap := hW
  have hl := lv_entry ([.ref w, .int (nI q), .int y, .int v, .int er]) (n := 6) (Nat.le_of_ble_eq_true rfl)
  rw [lg_entry_eq]
  generalize (lg_sl ([.ref w, .int (nI q), .int y, .int v, .int er]) ++ List.replicate (6 - (lg_sl ([.ref w, .int (nI q), .int y, .int v, .int er])).length) Slot.unset).toArray = ls at hl ⊢
  have hl : lv_has ls 6 [(0, .ref w), (1, .int (nI q)), (2, .int y), (3, .int v), (4, .int er)] := hl
  have h10 := hok.1
  have h8 := hok.2.1
  have h5 := hok.2.2.1
  have hd_ := hok.hd
  refine lv_aload_n hx hb dX4_measure_0 rfl (lv_at hl 0 rfl) ?_
  refine va_get (D := D) (ci := cWx) (C := RX4) (T := TX4) (N := 2) (ws := [(w, .inr (cWx, [.ref (L 0 0), .ref (L2 0 0)]))]) (v := .ref (L 0 0)) hx hb hts (by decide +kernel) hown hK (wx_one hV hS hwA) 0 rfl rfl 0 (by decide) (hts (.fieldLink RX4 10 "Waxrow" "house" "LWaxrow$House;") (by decide +kernel)) (fun _ h9 => h9) rfl dX4_measure_1 ?_
  refine lv_iload_n hx hb dX4_measure_4 rfl (lv_at hl 1 rfl) ?_
  refine hs_callr (As := [.int (nI q)]) ⟨hx, hb, hml, hown, hts⟩ (kX1_personAt l D d L σ A q P hok.hP hq hok.1) (cwV 1 hts gX4_measure_X1_personAt rfl rfl rfl (by decide +kernel) ⟨Nat.le_of_ble_eq_true rfl, Nat.le_of_ble_eq_true rfl⟩) hK hE hW hS hs_ix0 (ci := cHo) (r := (RX1, TX1, 11)) rfl rfl rfl rfl hl.1 (Nat.le_of_ble_eq_true rfl) dX4_measure_5 ⟨Nat.zero_le _, Nat.zero_le _⟩ rfl (fun H locs hW hS => ?_)
  refine lv_astore (lv' := [(5, .ref (L 4 q)), (0, .ref w), (1, .int (nI q)), (2, .int y), (3, .int v), (4, .int er)]) hx hb dX4_measure_8 hl (by decide) rfl (fun ls hl => ?_)
  refine lv_iload_n hx hb dX4_measure_10 rfl (lv_at hl 3 rfl) ?_
  refine lv_bipush (v := 6) hx hb dX4_measure_11 (by decide) ?_
  exact hx_runT (As := [.int y, .int 6]) ⟨hx, hb, hml, hown, hts⟩ (tX4_checkIndex l D d L σ A hl0 y 6 h0) (va_cwS 2 hts gX4_measure_X4_checkIndex rfl rfl rfl (by decide +kernel) ⟨Nat.le_of_ble_eq_true rfl, Nat.le_of_ble_eq_true rfl⟩) hK hX hW hS rfl hl.1 (Nat.le_of_ble_eq_true rfl) dX4_measure_13 ⟨Nat.le_of_ble_eq_true rfl, Nat.le_of_ble_eq_true rfl⟩ rfl (fun ce q9 H1 locs1 hW hS hce hcv hcl => hx_out htb hlocks hK hW hS hce hcv hcl (by decide) (by decide))
set_option maxHeartbeats 4000000 in
set_option maxRecDepth 100000 in
/-- uX4_measure_2 throws -/
theorem uX4_measure_2 (l : Launch) (D : va_G) (d : hs_Dm) (L : hs_Lo) (σ : hs_St) (A : Nat → Prop) (w : Nat) (L2 : hs_Lo) (hwA : ¬ A w) (hl0 : l.stackTraces = false) (P F R : Nat) (hok : hs_ok P F R σ) (q : Nat) (hq : q < P) (j : Nat) (hj : j < 6) (v er : Int32) (h0 : v < 0 ∨ ¬ v ≤ 99) : wx_T l yX4_measure wsX4_measure ({ frames := 8, cells := 1, slots := 6, locals := 150 }) D d w L L2 σ A [.ref w, .int (nI q), .int (nI j), .int v, .int er] "java/lang/IllegalArgumentException" := by
  refine vx_ofW (cc := cX4_measure) (maxL := 6) (ret := (some .int)) (by decide) rfl ?_
  intro p e s m args below meth c s₁ B hml htb hv
  obtain ⟨rfl, ⟨⟨hW, hK⟩, hX⟩, hV⟩ := hv
  have hE := hX.1
  have hx := B.exec
  have hb := B.bytes
  have hr := B.returns
  have hts := atoms_spec (ws := wsX4_measure) B.pre
  have hown : s.vm.findClass RX4 = some m.cls := findClass_of_methodNamed B.named
  have hlocks := B.notSynchronized
  have hS : va_S A s.heap s.heap [] := va_S.rf
  have hW : hs_W D d L σ A s.heap := hW
  have hl := lv_entry ([.ref w, .int (nI q), .int (nI j), .int v, .int er]) (n := 6) (Nat.le_of_ble_eq_true rfl)
  rw [lg_entry_eq]
  generalize (lg_sl ([.ref w, .int (nI q), .int (nI j), .int v, .int er]) ++ List.replicate (6 - (lg_sl ([.ref w, .int (nI q), .int (nI j), .int v, .int er])).length) Slot.unset).toArray = ls at hl ⊢
  have hl : lv_has ls 6 [(0, .ref w), (1, .int (nI q)), (2, .int (nI j)), (3, .int v), (4, .int er)] := hl
  have h10 := hok.1
  have h8 := hok.2.1
  have h5 := hok.2.2.1
  have hd_ := hok.hd
  refine lv_aload_n hx hb dX4_measure_0 rfl (lv_at hl 0 rfl) ?_
  refine va_get (D := D) (ci := cWx) (C := RX4) (T := TX4) (N := 2) (ws := [(w, .inr (cWx, [.ref (L 0 0), .ref (L2 0 0)]))]) (v := .ref (L 0 0)) hx hb hts (by decide +kernel) hown hK (wx_one hV hS hwA) 0 rfl rfl 0 (by decide) (hts (.fieldLink RX4 10 "Waxrow" "house" "LWaxrow$House;") (by decide +kernel)) (fun _ h9 => h9) rfl dX4_measure_1 ?_
  refine lv_iload_n hx hb dX4_measure_4 rfl (lv_at hl 1 rfl) ?_
  refine hs_callr (As := [.int (nI q)]) ⟨hx, hb, hml, hown, hts⟩ (kX1_personAt l D d L σ A q P hok.hP hq hok.1) (cwV 1 hts gX4_measure_X1_personAt rfl rfl rfl (by decide +kernel) ⟨Nat.le_of_ble_eq_true rfl, Nat.le_of_ble_eq_true rfl⟩) hK hE hW hS hs_ix0 (ci := cHo) (r := (RX1, TX1, 11)) rfl rfl rfl rfl hl.1 (Nat.le_of_ble_eq_true rfl) dX4_measure_5 ⟨Nat.zero_le _, Nat.zero_le _⟩ rfl (fun H locs hW hS => ?_)
  refine lv_astore (lv' := [(5, .ref (L 4 q)), (0, .ref w), (1, .int (nI q)), (2, .int (nI j)), (3, .int v), (4, .int er)]) hx hb dX4_measure_8 hl (by decide) rfl (fun ls hl => ?_)
  refine lv_iload_n hx hb dX4_measure_10 rfl (lv_at hl 3 rfl) ?_
  refine lv_bipush (v := 6) hx hb dX4_measure_11 (by decide) ?_
  refine hs_runv (As := [.int (nI j), .int 6]) ⟨hx, hb, hml, hown, hts⟩ (kX4_checkIndex l D d L σ A (nI j) 6 (nI_pos (by omega)) (by rw [sp_six]; exact nI_lt hj (by decide))) (va_cwS 2 hts gX4_measure_X4_checkIndex rfl rfl rfl (by decide +kernel) ⟨Nat.le_of_ble_eq_true rfl, Nat.le_of_ble_eq_true rfl⟩) hK hE hW hS rfl hl.1 (Nat.le_of_ble_eq_true rfl) dX4_measure_13 ⟨Nat.zero_le _, Nat.zero_le _⟩ rfl (fun τ_ H locs hp hW hS => ?_)
  obtain rfl := hp
  refine lv_iload_n hx hb dX4_measure_16 rfl (lv_at hl 4 rfl) ?_
  refine lv_iconst (v := 0) hx hb dX4_measure_17 (by decide) ?_
  refine lv_bipush (v := 99) hx hb dX4_measure_18 (by decide) ?_
  exact hx_runT (As := [.int v, .int 0, .int 99]) ⟨hx, hb, hml, hown, hts⟩ (tX4_checkArgument l D d L σ A hl0 v 0 99 h0) (va_cwS 3 hts gX4_measure_X4_checkArgument rfl rfl rfl (by decide +kernel) ⟨Nat.le_of_ble_eq_true rfl, Nat.le_of_ble_eq_true rfl⟩) hK hX hW hS rfl hl.1 (Nat.le_of_ble_eq_true rfl) dX4_measure_20 ⟨Nat.le_of_ble_eq_true rfl, Nat.le_of_ble_eq_true rfl⟩ rfl (fun ce q9 H1 locs1 hW hS hce hcv hcl => hx_out htb hlocks hK hW hS hce hcv hcl (by decide) (by decide))
set_option maxHeartbeats 4000000 in
set_option maxRecDepth 100000 in
/-- uX4_measure_3 throws -/
theorem uX4_measure_3 (l : Launch) (D : va_G) (d : hs_Dm) (L : hs_Lo) (σ : hs_St) (A : Nat → Prop) (w : Nat) (L2 : hs_Lo) (hwA : ¬ A w) (hl0 : l.stackTraces = false) (P F R : Nat) (hok : hs_ok P F R σ) (q : Nat) (hq : q < P) (j : Nat) (hj : j < 6) (v er : Int32) (hv0 : ¬ v < 0) (hv9 : v ≤ 99) (h0 : er < 0 ∨ ¬ er ≤ 20) : wx_T l yX4_measure wsX4_measure ({ frames := 8, cells := 1, slots := 6, locals := 150 }) D d w L L2 σ A [.ref w, .int (nI q), .int (nI j), .int v, .int er] "java/lang/IllegalArgumentException" := by
  refine vx_ofW (cc := cX4_measure) (maxL := 6) (ret := (some .int)) (by decide) rfl ?_
  intro p e s m args below meth c s₁ B hml htb hv
  obtain ⟨rfl, ⟨⟨hW, hK⟩, hX⟩, hV⟩ := hv
  have hE := hX.1
  have hx := B.exec
  have hb := B.bytes
  have hr := B.returns
  have hts := atoms_spec (ws := wsX4_measure) B.pre
  have hown : s.vm.findClass RX4 = some m.cls := findClass_of_methodNamed B.named
  have hlocks := B.notSynchronized
  have hS : va_S A s.heap s.heap [] := va_S.rf
  have hW : hs_W D d L σ A s.heap := hW
  have hl := lv_entry ([.ref w, .int (nI q), .int (nI j), .int v, .int er]) (n := 6) (Nat.le_of_ble_eq_true rfl)
  rw [lg_entry_eq]
  generalize (lg_sl ([.ref w, .int (nI q), .int (nI j), .int v, .int er]) ++ List.replicate (6 - (lg_sl ([.ref w, .int (nI q), .int (nI j), .int v, .int er])).length) Slot.unset).toArray = ls at hl ⊢
  have hl : lv_has ls 6 [(0, .ref w), (1, .int (nI q)), (2, .int (nI j)), (3, .int v), (4, .int er)] := hl
  have h10 := hok.1
  have h8 := hok.2.1
  have h5 := hok.2.2.1
  have hd_ := hok.hd
  refine lv_aload_n hx hb dX4_measure_0 rfl (lv_at hl 0 rfl) ?_
  refine va_get (D := D) (ci := cWx) (C := RX4) (T := TX4) (N := 2) (ws := [(w, .inr (cWx, [.ref (L 0 0), .ref (L2 0 0)]))]) (v := .ref (L 0 0)) hx hb hts (by decide +kernel) hown hK (wx_one hV hS hwA) 0 rfl rfl 0 (by decide) (hts (.fieldLink RX4 10 "Waxrow" "house" "LWaxrow$House;") (by decide +kernel)) (fun _ h9 => h9) rfl dX4_measure_1 ?_
  refine lv_iload_n hx hb dX4_measure_4 rfl (lv_at hl 1 rfl) ?_
  refine hs_callr (As := [.int (nI q)]) ⟨hx, hb, hml, hown, hts⟩ (kX1_personAt l D d L σ A q P hok.hP hq hok.1) (cwV 1 hts gX4_measure_X1_personAt rfl rfl rfl (by decide +kernel) ⟨Nat.le_of_ble_eq_true rfl, Nat.le_of_ble_eq_true rfl⟩) hK hE hW hS hs_ix0 (ci := cHo) (r := (RX1, TX1, 11)) rfl rfl rfl rfl hl.1 (Nat.le_of_ble_eq_true rfl) dX4_measure_5 ⟨Nat.zero_le _, Nat.zero_le _⟩ rfl (fun H locs hW hS => ?_)
  refine lv_astore (lv' := [(5, .ref (L 4 q)), (0, .ref w), (1, .int (nI q)), (2, .int (nI j)), (3, .int v), (4, .int er)]) hx hb dX4_measure_8 hl (by decide) rfl (fun ls hl => ?_)
  refine lv_iload_n hx hb dX4_measure_10 rfl (lv_at hl 3 rfl) ?_
  refine lv_bipush (v := 6) hx hb dX4_measure_11 (by decide) ?_
  refine hs_runv (As := [.int (nI j), .int 6]) ⟨hx, hb, hml, hown, hts⟩ (kX4_checkIndex l D d L σ A (nI j) 6 (nI_pos (by omega)) (by rw [sp_six]; exact nI_lt hj (by decide))) (va_cwS 2 hts gX4_measure_X4_checkIndex rfl rfl rfl (by decide +kernel) ⟨Nat.le_of_ble_eq_true rfl, Nat.le_of_ble_eq_true rfl⟩) hK hE hW hS rfl hl.1 (Nat.le_of_ble_eq_true rfl) dX4_measure_13 ⟨Nat.zero_le _, Nat.zero_le _⟩ rfl (fun τ_ H locs hp hW hS => ?_)
  obtain rfl := hp
  refine lv_iload_n hx hb dX4_measure_16 rfl (lv_at hl 4 rfl) ?_
  refine lv_iconst (v := 0) hx hb dX4_measure_17 (by decide) ?_
  refine lv_bipush (v := 99) hx hb dX4_measure_18 (by decide) ?_
  refine hs_runv (As := [.int v, .int 0, .int 99]) ⟨hx, hb, hml, hown, hts⟩ (kX4_checkArgument l D d L σ A v 0 99 hv0 hv9) (va_cwS 3 hts gX4_measure_X4_checkArgument rfl rfl rfl (by decide +kernel) ⟨Nat.le_of_ble_eq_true rfl, Nat.le_of_ble_eq_true rfl⟩) hK hE hW hS rfl hl.1 (Nat.le_of_ble_eq_true rfl) dX4_measure_20 ⟨Nat.zero_le _, Nat.zero_le _⟩ rfl (fun τ_ H locs hp hW hS => ?_)
  obtain rfl := hp
  refine lv_iload hx hb dX4_measure_23 (lv_at hl 5 rfl) ?_
  refine lv_iconst (v := 0) hx hb dX4_measure_25 (by decide) ?_
  refine lv_bipush (v := 20) hx hb dX4_measure_26 (by decide) ?_
  exact hx_runT (As := [.int er, .int 0, .int 20]) ⟨hx, hb, hml, hown, hts⟩ (tX4_checkArgument l D d L σ A hl0 er 0 20 h0) (va_cwS 3 hts gX4_measure_X4_checkArgument rfl rfl rfl (by decide +kernel) ⟨Nat.le_of_ble_eq_true rfl, Nat.le_of_ble_eq_true rfl⟩) hK hX hW hS rfl hl.1 (Nat.le_of_ble_eq_true rfl) dX4_measure_28 ⟨Nat.le_of_ble_eq_true rfl, Nat.le_of_ble_eq_true rfl⟩ rfl (fun ce q9 H1 locs1 hW hS hce hcv hcl => hx_out htb hlocks hK hW hS hce hcv hcl (by decide) (by decide))
set_option maxHeartbeats 4000000 in
set_option maxRecDepth 100000 in
/-- uX4_person_1 throws -/
theorem uX4_person_1 (l : Launch) (D : va_G) (d : hs_Dm) (L : hs_Lo) (σ : hs_St) (A : Nat → Prop) (w : Nat) (L2 : hs_Lo) (hwA : ¬ A w) (hl0 : l.stackTraces = false) (P F R : Nat) (hok : hs_ok P F R σ) (hP9 : P = 10) (x y z : Int32) (hx0 : ¬ x < 0) (hx9 : x ≤ 999) (hy0 : ¬ y < 0) (hy9 : y ≤ 999) (hz0 : ¬ z < 0) (hz9 : z ≤ 999) : wx_T l yX4_person wsX4_person ({ frames := 8, cells := 1, slots := 6, locals := 150 }) D d w L L2 σ A [.ref w, .int x, .int y, .int z] "java/lang/IllegalStateException" := by
  refine vx_ofW (cc := cX4_person) (maxL := 4) (ret := (some .int)) (by decide) rfl ?_
  intro p e s m args below meth c s₁ B hml htb hv
  obtain ⟨rfl, ⟨⟨hW, hK⟩, hX⟩, hV⟩ := hv
  have hE := hX.1
  have hx := B.exec
  have hb := B.bytes
  have hr := B.returns
  have hts := atoms_spec (ws := wsX4_person) B.pre
  have hown : s.vm.findClass RX4 = some m.cls := findClass_of_methodNamed B.named
  have hlocks := B.notSynchronized
  have hS : va_S A s.heap s.heap [] := va_S.rf
  have hW : hs_W D d L σ A s.heap := hW
  have hl := lv_entry ([.ref w, .int x, .int y, .int z]) (n := 4) (Nat.le_of_ble_eq_true rfl)
  rw [lg_entry_eq]
  generalize (lg_sl ([.ref w, .int x, .int y, .int z]) ++ List.replicate (4 - (lg_sl ([.ref w, .int x, .int y, .int z])).length) Slot.unset).toArray = ls at hl ⊢
  have hl : lv_has ls 4 [(0, .ref w), (1, .int x), (2, .int y), (3, .int z)] := hl
  have h10 := hok.1
  have h8 := hok.2.1
  have h5 := hok.2.2.1
  have hd_ := hok.hd
  refine lv_iload_n hx hb dX4_person_0 rfl (lv_at hl 1 rfl) ?_
  refine lv_iconst (v := 0) hx hb dX4_person_1 (by decide) ?_
  refine lv_sipush (v := 999) hx hb dX4_person_2 (by decide) ?_
  refine hs_runv (As := [.int x, .int 0, .int 999]) ⟨hx, hb, hml, hown, hts⟩ (kX4_checkArgument l D d L σ A x 0 999 hx0 hx9) (va_cwS 3 hts gX4_person_X4_checkArgument rfl rfl rfl (by decide +kernel) ⟨Nat.le_of_ble_eq_true rfl, Nat.le_of_ble_eq_true rfl⟩) hK hE hW hS rfl hl.1 (Nat.le_of_ble_eq_true rfl) dX4_person_5 ⟨Nat.zero_le _, Nat.zero_le _⟩ rfl (fun τ_ H locs hp hW hS => ?_)
  obtain rfl := hp
  refine lv_iload_n hx hb dX4_person_8 rfl (lv_at hl 2 rfl) ?_
  refine lv_iconst (v := 0) hx hb dX4_person_9 (by decide) ?_
  refine lv_sipush (v := 999) hx hb dX4_person_10 (by decide) ?_
  refine hs_runv (As := [.int y, .int 0, .int 999]) ⟨hx, hb, hml, hown, hts⟩ (kX4_checkArgument l D d L σ A y 0 999 hy0 hy9) (va_cwS 3 hts gX4_person_X4_checkArgument rfl rfl rfl (by decide +kernel) ⟨Nat.le_of_ble_eq_true rfl, Nat.le_of_ble_eq_true rfl⟩) hK hE hW hS rfl hl.1 (Nat.le_of_ble_eq_true rfl) dX4_person_13 ⟨Nat.zero_le _, Nat.zero_le _⟩ rfl (fun τ_ H locs hp hW hS => ?_)
  obtain rfl := hp
  refine lv_iload_n hx hb dX4_person_16 rfl (lv_at hl 3 rfl) ?_
  refine lv_iconst (v := 0) hx hb dX4_person_17 (by decide) ?_
  refine lv_sipush (v := 999) hx hb dX4_person_18 (by decide) ?_
  refine hs_runv (As := [.int z, .int 0, .int 999]) ⟨hx, hb, hml, hown, hts⟩ (kX4_checkArgument l D d L σ A z 0 999 hz0 hz9) (va_cwS 3 hts gX4_person_X4_checkArgument rfl rfl rfl (by decide +kernel) ⟨Nat.le_of_ble_eq_true rfl, Nat.le_of_ble_eq_true rfl⟩) hK hE hW hS rfl hl.1 (Nat.le_of_ble_eq_true rfl) dX4_person_21 ⟨Nat.zero_le _, Nat.zero_le _⟩ rfl (fun τ_ H locs hp hW hS => ?_)
  obtain rfl := hp
  refine lv_aload_n hx hb dX4_person_24 rfl (lv_at hl 0 rfl) ?_
  refine va_get (D := D) (ci := cWx) (C := RX4) (T := TX4) (N := 2) (ws := [(w, .inr (cWx, [.ref (L 0 0), .ref (L2 0 0)]))]) (v := .ref (L 0 0)) hx hb hts (by decide +kernel) hown hK (wx_one hV hS hwA) 0 rfl rfl 0 (by decide) (hts (.fieldLink RX4 10 "Waxrow" "house" "LWaxrow$House;") (by decide +kernel)) (fun _ h9 => h9) rfl dX4_person_25 ?_
  refine va_get (D := D) (ci := cHo) (C := RX1) (T := TX1) (N := 11) (ws := [(L 0 0, hs_ct d L σ 0 0)]) (v := .int (σ 0 0 3)) hx hb hts (by decide +kernel) hown hK (hW.one hs_ix0) 0 rfl rfl 3 (by decide) (hts (.fieldLink RX4 23 "Waxrow$House" "personCount" "I") (by decide +kernel)) (fun _ h9 => h9) rfl dX4_person_28 ?_
  refine lv_bipush (v := 10) hx hb dX4_person_31 (by decide) ?_
  refine lv_icmp_ge (tgt := 40) hx hb dX4_person_33 (by decide) (fun c_33 => ?_) (fun c_33 => ?_)
  · refine lv_iconst (v := 0) hx hb dX4_person_40 (by decide) ?_
    exact hx_runT (As := [.int 0]) ⟨hx, hb, hml, hown, hts⟩ (tX4_checkState l D d L σ A hl0 0 rfl) (va_cwS 1 hts gX4_person_X4_checkState rfl rfl rfl (by decide +kernel) ⟨Nat.le_of_ble_eq_true rfl, Nat.le_of_ble_eq_true rfl⟩) hK hX hW hS rfl hl.1 (Nat.le_of_ble_eq_true rfl) dX4_person_41 ⟨Nat.le_of_ble_eq_true rfl, Nat.le_of_ble_eq_true rfl⟩ rfl (fun ce q9 H1 locs1 hW hS hce hcv hcl => hx_out htb hlocks hK hW hS hce hcv hcl (by decide) (by decide))
  · refine lv_iconst (v := 1) hx hb dX4_person_36 (by decide) ?_
    refine lv_goto (tgt := 41) hx hb dX4_person_37 (by decide) ?_
    exact absurd (show (10 : Int32) ≤ σ 0 0 3 by rw [hok.hP]; exact nI_le (a := 10) (b := P) (by omega) (by omega)) c_33
set_option maxHeartbeats 4000000 in
set_option maxRecDepth 100000 in
/-- uX4_figure_1 throws -/
theorem uX4_figure_1 (l : Launch) (D : va_G) (d : hs_Dm) (L : hs_Lo) (σ : hs_St) (A : Nat → Prop) (w : Nat) (L2 : hs_Lo) (hwA : ¬ A w) (hl0 : l.stackTraces = false) (P F R : Nat) (hok : hs_ok P F R σ) (hF7 : F = 8) (q : Nat) (hq : q < P)  : wx_T l yX4_figure wsX4_figure ({ frames := 8, cells := 1, slots := 6, locals := 150 }) D d w L L2 σ A [.ref w, .int (nI q)] "java/lang/IllegalStateException" := by
  refine vx_ofW (cc := cX4_figure) (maxL := 3) (ret := (some .int)) (by decide) rfl ?_
  intro p e s m args below meth c s₁ B hml htb hv
  obtain ⟨rfl, ⟨⟨hW, hK⟩, hX⟩, hV⟩ := hv
  have hE := hX.1
  have hx := B.exec
  have hb := B.bytes
  have hr := B.returns
  have hts := atoms_spec (ws := wsX4_figure) B.pre
  have hown : s.vm.findClass RX4 = some m.cls := findClass_of_methodNamed B.named
  have hlocks := B.notSynchronized
  have hS : va_S A s.heap s.heap [] := va_S.rf
  have hW : hs_W D d L σ A s.heap := hW
  have hl := lv_entry ([.ref w, .int (nI q)]) (n := 3) (Nat.le_of_ble_eq_true rfl)
  rw [lg_entry_eq]
  generalize (lg_sl ([.ref w, .int (nI q)]) ++ List.replicate (3 - (lg_sl ([.ref w, .int (nI q)])).length) Slot.unset).toArray = ls at hl ⊢
  have hl : lv_has ls 3 [(0, .ref w), (1, .int (nI q))] := hl
  have h10 := hok.1
  have h8 := hok.2.1
  have h5 := hok.2.2.1
  have hd_ := hok.hd
  refine lv_aload_n hx hb dX4_figure_0 rfl (lv_at hl 0 rfl) ?_
  refine va_get (D := D) (ci := cWx) (C := RX4) (T := TX4) (N := 2) (ws := [(w, .inr (cWx, [.ref (L 0 0), .ref (L2 0 0)]))]) (v := .ref (L 0 0)) hx hb hts (by decide +kernel) hown hK (wx_one hV hS hwA) 0 rfl rfl 0 (by decide) (hts (.fieldLink RX4 10 "Waxrow" "house" "LWaxrow$House;") (by decide +kernel)) (fun _ h9 => h9) rfl dX4_figure_1 ?_
  refine lv_iload_n hx hb dX4_figure_4 rfl (lv_at hl 1 rfl) ?_
  refine hs_callr (As := [.int (nI q)]) ⟨hx, hb, hml, hown, hts⟩ (kX1_personAt l D d L σ A q P hok.hP hq hok.1) (cwV 1 hts gX4_figure_X1_personAt rfl rfl rfl (by decide +kernel) ⟨Nat.le_of_ble_eq_true rfl, Nat.le_of_ble_eq_true rfl⟩) hK hE hW hS hs_ix0 (ci := cHo) (r := (RX1, TX1, 11)) rfl rfl rfl rfl hl.1 (Nat.le_of_ble_eq_true rfl) dX4_figure_5 ⟨Nat.zero_le _, Nat.zero_le _⟩ rfl (fun H locs hW hS => ?_)
  refine lv_astore_n (lv' := [(2, .ref (L 4 q)), (0, .ref w), (1, .int (nI q))]) hx hb dX4_figure_8 rfl hl (by decide) rfl (fun ls hl => ?_)
  refine lv_aload_n hx hb dX4_figure_9 rfl (lv_at hl 1 rfl) ?_
  refine va_get (D := D) (ci := cWx) (C := RX4) (T := TX4) (N := 2) (ws := [(w, .inr (cWx, [.ref (L 0 0), .ref (L2 0 0)]))]) (v := .ref (L 0 0)) hx hb hts (by decide +kernel) hown hK (wx_one hV hS hwA) 0 rfl rfl 0 (by decide) (hts (.fieldLink RX4 10 "Waxrow" "house" "LWaxrow$House;") (by decide +kernel)) (fun _ h9 => h9) rfl dX4_figure_10 ?_
  refine va_get (D := D) (ci := cHo) (C := RX1) (T := TX1) (N := 11) (ws := [(L 0 0, hs_ct d L σ 0 0)]) (v := .int (σ 0 0 4)) hx hb hts (by decide +kernel) hown hK (hW.one hs_ix0) 0 rfl rfl 4 (by decide) (hts (.fieldLink RX4 88 "Waxrow$House" "figureCount" "I") (by decide +kernel)) (fun _ h9 => h9) rfl dX4_figure_13 ?_
  refine lv_bipush (v := 8) hx hb dX4_figure_16 (by decide) ?_
  refine lv_icmp_ge (tgt := 25) hx hb dX4_figure_18 (by decide) (fun c_18 => ?_) (fun c_18 => ?_)
  · refine lv_iconst (v := 0) hx hb dX4_figure_25 (by decide) ?_
    exact hx_runT (As := [.int 0]) ⟨hx, hb, hml, hown, hts⟩ (tX4_checkState l D d L σ A hl0 0 rfl) (va_cwS 1 hts gX4_figure_X4_checkState rfl rfl rfl (by decide +kernel) ⟨Nat.le_of_ble_eq_true rfl, Nat.le_of_ble_eq_true rfl⟩) hK hX hW hS rfl hl.1 (Nat.le_of_ble_eq_true rfl) dX4_figure_26 ⟨Nat.le_of_ble_eq_true rfl, Nat.le_of_ble_eq_true rfl⟩ rfl (fun ce q9 H1 locs1 hW hS hce hcv hcl => hx_out htb hlocks hK hW hS hce hcv hcl (by decide) (by decide))
  · refine lv_iconst (v := 1) hx hb dX4_figure_21 (by decide) ?_
    refine lv_goto (tgt := 26) hx hb dX4_figure_22 (by decide) ?_
    exact absurd (show (8 : Int32) ≤ σ 0 0 4 by rw [hok.hF]; exact nI_le (a := 8) (b := F) (by omega) (by omega)) c_18
set_option maxHeartbeats 4000000 in
set_option maxRecDepth 100000 in
/-- uX4_room_1 throws -/
theorem uX4_room_1 (l : Launch) (D : va_G) (d : hs_Dm) (L : hs_Lo) (σ : hs_St) (A : Nat → Prop) (w : Nat) (L2 : hs_Lo) (hwA : ¬ A w) (hl0 : l.stackTraces = false) (P F R : Nat) (hok : hs_ok P F R σ) (hR4 : R = 5) (x y : Int32) (hx0 : ¬ x < 0) (hx9 : x ≤ 9) (hy0 : ¬ y < 1) (hy9 : y ≤ 4) : wx_T l yX4_room wsX4_room ({ frames := 8, cells := 1, slots := 6, locals := 150 }) D d w L L2 σ A [.ref w, .int x, .int y] "java/lang/IllegalStateException" := by
  refine vx_ofW (cc := cX4_room) (maxL := 3) (ret := (some .int)) (by decide) rfl ?_
  intro p e s m args below meth c s₁ B hml htb hv
  obtain ⟨rfl, ⟨⟨hW, hK⟩, hX⟩, hV⟩ := hv
  have hE := hX.1
  have hx := B.exec
  have hb := B.bytes
  have hr := B.returns
  have hts := atoms_spec (ws := wsX4_room) B.pre
  have hown : s.vm.findClass RX4 = some m.cls := findClass_of_methodNamed B.named
  have hlocks := B.notSynchronized
  have hS : va_S A s.heap s.heap [] := va_S.rf
  have hW : hs_W D d L σ A s.heap := hW
  have hl := lv_entry ([.ref w, .int x, .int y]) (n := 3) (Nat.le_of_ble_eq_true rfl)
  rw [lg_entry_eq]
  generalize (lg_sl ([.ref w, .int x, .int y]) ++ List.replicate (3 - (lg_sl ([.ref w, .int x, .int y])).length) Slot.unset).toArray = ls at hl ⊢
  have hl : lv_has ls 3 [(0, .ref w), (1, .int x), (2, .int y)] := hl
  have h10 := hok.1
  have h8 := hok.2.1
  have h5 := hok.2.2.1
  have hd_ := hok.hd
  refine lv_iload_n hx hb dX4_room_0 rfl (lv_at hl 1 rfl) ?_
  refine lv_iconst (v := 0) hx hb dX4_room_1 (by decide) ?_
  refine lv_bipush (v := 9) hx hb dX4_room_2 (by decide) ?_
  refine hs_runv (As := [.int x, .int 0, .int 9]) ⟨hx, hb, hml, hown, hts⟩ (kX4_checkArgument l D d L σ A x 0 9 hx0 hx9) (va_cwS 3 hts gX4_room_X4_checkArgument rfl rfl rfl (by decide +kernel) ⟨Nat.le_of_ble_eq_true rfl, Nat.le_of_ble_eq_true rfl⟩) hK hE hW hS rfl hl.1 (Nat.le_of_ble_eq_true rfl) dX4_room_4 ⟨Nat.zero_le _, Nat.zero_le _⟩ rfl (fun τ_ H locs hp hW hS => ?_)
  obtain rfl := hp
  refine lv_iload_n hx hb dX4_room_7 rfl (lv_at hl 2 rfl) ?_
  refine lv_iconst (v := 1) hx hb dX4_room_8 (by decide) ?_
  refine lv_iconst (v := 4) hx hb dX4_room_9 (by decide) ?_
  refine hs_runv (As := [.int y, .int 1, .int 4]) ⟨hx, hb, hml, hown, hts⟩ (kX4_checkArgument l D d L σ A y 1 4 hy0 hy9) (va_cwS 3 hts gX4_room_X4_checkArgument rfl rfl rfl (by decide +kernel) ⟨Nat.le_of_ble_eq_true rfl, Nat.le_of_ble_eq_true rfl⟩) hK hE hW hS rfl hl.1 (Nat.le_of_ble_eq_true rfl) dX4_room_10 ⟨Nat.zero_le _, Nat.zero_le _⟩ rfl (fun τ_ H locs hp hW hS => ?_)
  obtain rfl := hp
  refine lv_aload_n hx hb dX4_room_13 rfl (lv_at hl 0 rfl) ?_
  refine va_get (D := D) (ci := cWx) (C := RX4) (T := TX4) (N := 2) (ws := [(w, .inr (cWx, [.ref (L 0 0), .ref (L2 0 0)]))]) (v := .ref (L 0 0)) hx hb hts (by decide +kernel) hown hK (wx_one hV hS hwA) 0 rfl rfl 0 (by decide) (hts (.fieldLink RX4 10 "Waxrow" "house" "LWaxrow$House;") (by decide +kernel)) (fun _ h9 => h9) rfl dX4_room_14 ?_
  refine va_get (D := D) (ci := cHo) (C := RX1) (T := TX1) (N := 11) (ws := [(L 0 0, hs_ct d L σ 0 0)]) (v := .int (σ 0 0 5)) hx hb hts (by decide +kernel) hown hK (hW.one hs_ix0) 0 rfl rfl 5 (by decide) (hts (.fieldLink RX4 150 "Waxrow$House" "roomCount" "I") (by decide +kernel)) (fun _ h9 => h9) rfl dX4_room_17 ?_
  refine lv_iconst (v := 5) hx hb dX4_room_20 (by decide) ?_
  refine lv_icmp_ge (tgt := 28) hx hb dX4_room_21 (by decide) (fun c_21 => ?_) (fun c_21 => ?_)
  · refine lv_iconst (v := 0) hx hb dX4_room_28 (by decide) ?_
    exact hx_runT (As := [.int 0]) ⟨hx, hb, hml, hown, hts⟩ (tX4_checkState l D d L σ A hl0 0 rfl) (va_cwS 1 hts gX4_room_X4_checkState rfl rfl rfl (by decide +kernel) ⟨Nat.le_of_ble_eq_true rfl, Nat.le_of_ble_eq_true rfl⟩) hK hX hW hS rfl hl.1 (Nat.le_of_ble_eq_true rfl) dX4_room_29 ⟨Nat.le_of_ble_eq_true rfl, Nat.le_of_ble_eq_true rfl⟩ rfl (fun ce q9 H1 locs1 hW hS hce hcv hcl => hx_out htb hlocks hK hW hS hce hcv hcl (by decide) (by decide))
  · refine lv_iconst (v := 1) hx hb dX4_room_24 (by decide) ?_
    refine lv_goto (tgt := 29) hx hb dX4_room_25 (by decide) ?_
    exact absurd (show (5 : Int32) ≤ σ 0 0 5 by rw [hok.hR]; exact nI_le (a := 5) (b := R) (by omega) (by omega)) c_21
set_option maxHeartbeats 4000000 in
set_option maxRecDepth 100000 in
/-- uX4_work_1 throws -/
theorem uX4_work_1 (l : Launch) (D : va_G) (d : hs_Dm) (L : hs_Lo) (σ : hs_St) (A : Nat → Prop) (w : Nat) (L2 : hs_Lo) (hwA : ¬ A w) (hl0 : l.stackTraces = false) (P F R : Nat) (hok : hs_ok P F R σ) (f : Nat) (hf : f < F) (x : Int32) (h0 : x < 0 ∨ ¬ x ≤ 9) : wx_T l yX4_work wsX4_work ({ frames := 8, cells := 1, slots := 6, locals := 150 }) D d w L L2 σ A [.ref w, .int (nI f), .int x] "java/lang/IllegalArgumentException" := by
  refine vx_ofW (cc := cX4_work) (maxL := 5) (ret := (some .int)) (by decide) rfl ?_
  intro p e s m args below meth c s₁ B hml htb hv
  obtain ⟨rfl, ⟨⟨hW, hK⟩, hX⟩, hV⟩ := hv
  have hE := hX.1
  have hx := B.exec
  have hb := B.bytes
  have hr := B.returns
  have hts := atoms_spec (ws := wsX4_work) B.pre
  have hown : s.vm.findClass RX4 = some m.cls := findClass_of_methodNamed B.named
  have hlocks := B.notSynchronized
  have hS : va_S A s.heap s.heap [] := va_S.rf
  have hW : hs_W D d L σ A s.heap := hW
  have hl := lv_entry ([.ref w, .int (nI f), .int x]) (n := 5) (Nat.le_of_ble_eq_true rfl)
  rw [lg_entry_eq]
  generalize (lg_sl ([.ref w, .int (nI f), .int x]) ++ List.replicate (5 - (lg_sl ([.ref w, .int (nI f), .int x])).length) Slot.unset).toArray = ls at hl ⊢
  have hl : lv_has ls 5 [(0, .ref w), (1, .int (nI f)), (2, .int x)] := hl
  have h10 := hok.1
  have h8 := hok.2.1
  have h5 := hok.2.2.1
  have hd_ := hok.hd
  refine lv_aload_n hx hb dX4_work_0 rfl (lv_at hl 0 rfl) ?_
  refine va_get (D := D) (ci := cWx) (C := RX4) (T := TX4) (N := 2) (ws := [(w, .inr (cWx, [.ref (L 0 0), .ref (L2 0 0)]))]) (v := .ref (L 0 0)) hx hb hts (by decide +kernel) hown hK (wx_one hV hS hwA) 0 rfl rfl 0 (by decide) (hts (.fieldLink RX4 10 "Waxrow" "house" "LWaxrow$House;") (by decide +kernel)) (fun _ h9 => h9) rfl dX4_work_1 ?_
  refine lv_iload_n hx hb dX4_work_4 rfl (lv_at hl 1 rfl) ?_
  refine hs_callr (As := [.int (nI f)]) ⟨hx, hb, hml, hown, hts⟩ (kX1_figureAt l D d L σ A f F hok.hF hf hok.2.1) (cwV 1 hts gX4_work_X1_figureAt rfl rfl rfl (by decide +kernel) ⟨Nat.le_of_ble_eq_true rfl, Nat.le_of_ble_eq_true rfl⟩) hK hE hW hS hs_ix0 (ci := cHo) (r := (RX1, TX1, 11)) rfl rfl rfl rfl hl.1 (Nat.le_of_ble_eq_true rfl) dX4_work_5 ⟨Nat.zero_le _, Nat.zero_le _⟩ rfl (fun H locs hW hS => ?_)
  refine lv_astore_n (lv' := [(3, .ref (L 9 f)), (0, .ref w), (1, .int (nI f)), (2, .int x)]) hx hb dX4_work_8 rfl hl (by decide) rfl (fun ls hl => ?_)
  refine lv_iload_n hx hb dX4_work_9 rfl (lv_at hl 3 rfl) ?_
  refine lv_iconst (v := 0) hx hb dX4_work_10 (by decide) ?_
  refine lv_bipush (v := 9) hx hb dX4_work_11 (by decide) ?_
  exact hx_runT (As := [.int x, .int 0, .int 9]) ⟨hx, hb, hml, hown, hts⟩ (tX4_checkArgument l D d L σ A hl0 x 0 9 h0) (va_cwS 3 hts gX4_work_X4_checkArgument rfl rfl rfl (by decide +kernel) ⟨Nat.le_of_ble_eq_true rfl, Nat.le_of_ble_eq_true rfl⟩) hK hX hW hS rfl hl.1 (Nat.le_of_ble_eq_true rfl) dX4_work_13 ⟨Nat.le_of_ble_eq_true rfl, Nat.le_of_ble_eq_true rfl⟩ rfl (fun ce q9 H1 locs1 hW hS hce hcv hcl => hx_out htb hlocks hK hW hS hce hcv hcl (by decide) (by decide))
set_option maxHeartbeats 4000000 in
set_option maxRecDepth 100000 in
/-- uX4_work_2 throws -/
theorem uX4_work_2 (l : Launch) (D : va_G) (d : hs_Dm) (L : hs_Lo) (σ : hs_St) (A : Nat → Prop) (w : Nat) (L2 : hs_Lo) (hwA : ¬ A w) (hl0 : l.stackTraces = false) (P F R : Nat) (hok : hs_ok P F R σ) (f : Nat) (hf : f < F) (x : Int32) (hx0 : ¬ x < 0) (hx9 : x ≤ 9) (h0 : 6 ≤ σ 9 f 2 ∨ σ 9 f 7 = 7 ∨ 12 < sp_hands σ F - σ 9 f 4 + x) : wx_T l yX4_work wsX4_work ({ frames := 8, cells := 1, slots := 6, locals := 150 }) D d w L L2 σ A [.ref w, .int (nI f), .int x] "java/lang/IllegalStateException" := by
  refine vx_ofW (cc := cX4_work) (maxL := 5) (ret := (some .int)) (by decide) rfl ?_
  intro p e s m args below meth c s₁ B hml htb hv
  obtain ⟨rfl, ⟨⟨hW, hK⟩, hX⟩, hV⟩ := hv
  have hE := hX.1
  have hx := B.exec
  have hb := B.bytes
  have hr := B.returns
  have hts := atoms_spec (ws := wsX4_work) B.pre
  have hown : s.vm.findClass RX4 = some m.cls := findClass_of_methodNamed B.named
  have hlocks := B.notSynchronized
  have hS : va_S A s.heap s.heap [] := va_S.rf
  have hW : hs_W D d L σ A s.heap := hW
  have hl := lv_entry ([.ref w, .int (nI f), .int x]) (n := 5) (Nat.le_of_ble_eq_true rfl)
  rw [lg_entry_eq]
  generalize (lg_sl ([.ref w, .int (nI f), .int x]) ++ List.replicate (5 - (lg_sl ([.ref w, .int (nI f), .int x])).length) Slot.unset).toArray = ls at hl ⊢
  have hl : lv_has ls 5 [(0, .ref w), (1, .int (nI f)), (2, .int x)] := hl
  have h10 := hok.1
  have h8 := hok.2.1
  have h5 := hok.2.2.1
  have hd_ := hok.hd
  refine lv_aload_n hx hb dX4_work_0 rfl (lv_at hl 0 rfl) ?_
  refine va_get (D := D) (ci := cWx) (C := RX4) (T := TX4) (N := 2) (ws := [(w, .inr (cWx, [.ref (L 0 0), .ref (L2 0 0)]))]) (v := .ref (L 0 0)) hx hb hts (by decide +kernel) hown hK (wx_one hV hS hwA) 0 rfl rfl 0 (by decide) (hts (.fieldLink RX4 10 "Waxrow" "house" "LWaxrow$House;") (by decide +kernel)) (fun _ h9 => h9) rfl dX4_work_1 ?_
  refine lv_iload_n hx hb dX4_work_4 rfl (lv_at hl 1 rfl) ?_
  refine hs_callr (As := [.int (nI f)]) ⟨hx, hb, hml, hown, hts⟩ (kX1_figureAt l D d L σ A f F hok.hF hf hok.2.1) (cwV 1 hts gX4_work_X1_figureAt rfl rfl rfl (by decide +kernel) ⟨Nat.le_of_ble_eq_true rfl, Nat.le_of_ble_eq_true rfl⟩) hK hE hW hS hs_ix0 (ci := cHo) (r := (RX1, TX1, 11)) rfl rfl rfl rfl hl.1 (Nat.le_of_ble_eq_true rfl) dX4_work_5 ⟨Nat.zero_le _, Nat.zero_le _⟩ rfl (fun H locs hW hS => ?_)
  refine lv_astore_n (lv' := [(3, .ref (L 9 f)), (0, .ref w), (1, .int (nI f)), (2, .int x)]) hx hb dX4_work_8 rfl hl (by decide) rfl (fun ls hl => ?_)
  refine lv_iload_n hx hb dX4_work_9 rfl (lv_at hl 3 rfl) ?_
  refine lv_iconst (v := 0) hx hb dX4_work_10 (by decide) ?_
  refine lv_bipush (v := 9) hx hb dX4_work_11 (by decide) ?_
  refine hs_runv (As := [.int x, .int 0, .int 9]) ⟨hx, hb, hml, hown, hts⟩ (kX4_checkArgument l D d L σ A x 0 9 hx0 hx9) (va_cwS 3 hts gX4_work_X4_checkArgument rfl rfl rfl (by decide +kernel) ⟨Nat.le_of_ble_eq_true rfl, Nat.le_of_ble_eq_true rfl⟩) hK hE hW hS rfl hl.1 (Nat.le_of_ble_eq_true rfl) dX4_work_13 ⟨Nat.zero_le _, Nat.zero_le _⟩ rfl (fun τ_ H locs hp hW hS => ?_)
  obtain rfl := hp
  refine lv_aload_n hx hb dX4_work_16 rfl (lv_at hl 1 rfl) ?_
  refine va_get (D := D) (ci := cWx) (C := RX4) (T := TX4) (N := 2) (ws := [(w, .inr (cWx, [.ref (L 0 0), .ref (L2 0 0)]))]) (v := .ref (L 0 0)) hx hb hts (by decide +kernel) hown hK (wx_one hV hS hwA) 0 rfl rfl 0 (by decide) (hts (.fieldLink RX4 10 "Waxrow" "house" "LWaxrow$House;") (by decide +kernel)) (fun _ h9 => h9) rfl dX4_work_17 ?_
  refine hs_calli (As := []) ⟨hx, hb, hml, hown, hts⟩ (kX1_allHands l D d L σ A F hok.hF hok.2.1 ) (cwV 0 hts gX4_work_X1_allHands rfl rfl rfl (by decide +kernel) ⟨Nat.le_of_ble_eq_true rfl, Nat.le_of_ble_eq_true rfl⟩) hK hE hW hS hs_ix0 (ci := cHo) (r := (RX1, TX1, 11)) rfl rfl rfl rfl hl.1 (Nat.le_of_ble_eq_true rfl) dX4_work_20 ⟨Nat.zero_le _, Nat.zero_le _⟩ rfl (fun r_ τ_ H locs hp hW hS => ?_)
  obtain ⟨rfl, rfl⟩ := hp
  refine lv_aload_n hx hb dX4_work_23 rfl (lv_at hl 0 rfl) ?_
  refine va_get (D := D) (ci := cFi) (C := RX0) (T := TX0) (N := 11) (ws := [(L 9 f, hs_ct d L σ 9 f)]) (v := .int (σ 9 f 4)) hx hb hts (by decide +kernel) hown hK (hW.one (hs_ix9 (show f < 8 by omega))) 0 rfl rfl 4 (by decide) (hts (.fieldLink RX4 102 "Waxrow$Figure" "hands" "I") (by decide +kernel)) (fun _ h9 => h9) rfl dX4_work_24 ?_
  refine lv_isub hx hb dX4_work_27 ?_
  refine lv_iload_n hx hb dX4_work_28 rfl (lv_at hl 3 rfl) ?_
  refine lv_iadd hx hb dX4_work_29 ?_
  refine lv_istore (lv' := [(4, .int (((sp_hands σ F) - (σ 9 f 4)) + x)), (3, .ref (L 9 f)), (0, .ref w), (1, .int (nI f)), (2, .int x)]) hx hb dX4_work_30 hl (by decide) rfl (fun ls hl => ?_)
  refine lv_aload_n hx hb dX4_work_32 rfl (lv_at hl 1 rfl) ?_
  refine va_get (D := D) (ci := cFi) (C := RX0) (T := TX0) (N := 11) (ws := [(L 9 f, hs_ct d L σ 9 f)]) (v := .int (σ 9 f 2)) hx hb hts (by decide +kernel) hown hK (hW.one (hs_ix9 (show f < 8 by omega))) 0 rfl rfl 2 (by decide) (hts (.fieldLink RX4 107 "Waxrow$Figure" "step" "I") (by decide +kernel)) (fun _ h9 => h9) rfl dX4_work_33 ?_
  refine lv_bipush (v := 6) hx hb dX4_work_36 (by decide) ?_
  refine lv_icmp_ge (tgt := 61) hx hb dX4_work_38 (by decide) (fun c_38 => ?_) (fun c_38 => ?_)
  · refine lv_iconst (v := 0) hx hb dX4_work_61 (by decide) ?_
    exact hx_runT (As := [.int 0]) ⟨hx, hb, hml, hown, hts⟩ (tX4_checkState l D d L σ A hl0 0 rfl) (va_cwS 1 hts gX4_work_X4_checkState rfl rfl rfl (by decide +kernel) ⟨Nat.le_of_ble_eq_true rfl, Nat.le_of_ble_eq_true rfl⟩) hK hX hW hS rfl hl.1 (Nat.le_of_ble_eq_true rfl) dX4_work_62 ⟨Nat.le_of_ble_eq_true rfl, Nat.le_of_ble_eq_true rfl⟩ rfl (fun ce q9 H1 locs1 hW hS hce hcv hcl => hx_out htb hlocks hK hW hS hce hcv hcl (by decide) (by decide))
  · refine lv_aload_n hx hb dX4_work_41 rfl (lv_at hl 1 rfl) ?_
    refine va_get (D := D) (ci := cFi) (C := RX0) (T := TX0) (N := 11) (ws := [(L 9 f, hs_ct d L σ 9 f)]) (v := .int (σ 9 f 7)) hx hb hts (by decide +kernel) hown hK (hW.one (hs_ix9 (show f < 8 by omega))) 0 rfl rfl 7 (by decide) (hts (.fieldLink RX4 110 "Waxrow$Figure" "place" "I") (by decide +kernel)) (fun _ h9 => h9) rfl dX4_work_42 ?_
    refine lv_bipush (v := 7) hx hb dX4_work_45 (by decide) ?_
    refine lv_icmp_eq (tgt := 61) hx hb dX4_work_47 (by decide) (fun c_47 => ?_) (fun c_47 => ?_)
    · refine lv_iconst (v := 0) hx hb dX4_work_61 (by decide) ?_
      exact hx_runT (As := [.int 0]) ⟨hx, hb, hml, hown, hts⟩ (tX4_checkState l D d L σ A hl0 0 rfl) (va_cwS 1 hts gX4_work_X4_checkState rfl rfl rfl (by decide +kernel) ⟨Nat.le_of_ble_eq_true rfl, Nat.le_of_ble_eq_true rfl⟩) hK hX hW hS rfl hl.1 (Nat.le_of_ble_eq_true rfl) dX4_work_62 ⟨Nat.le_of_ble_eq_true rfl, Nat.le_of_ble_eq_true rfl⟩ rfl (fun ce q9 H1 locs1 hW hS hce hcv hcl => hx_out htb hlocks hK hW hS hce hcv hcl (by decide) (by decide))
    · refine lv_iload hx hb dX4_work_50 (lv_at hl 0 rfl) ?_
      refine lv_bipush (v := 12) hx hb dX4_work_52 (by decide) ?_
      refine lv_icmp_gt (tgt := 61) hx hb dX4_work_54 (by decide) (fun c_54 => ?_) (fun c_54 => ?_)
      · refine lv_iconst (v := 0) hx hb dX4_work_61 (by decide) ?_
        exact hx_runT (As := [.int 0]) ⟨hx, hb, hml, hown, hts⟩ (tX4_checkState l D d L σ A hl0 0 rfl) (va_cwS 1 hts gX4_work_X4_checkState rfl rfl rfl (by decide +kernel) ⟨Nat.le_of_ble_eq_true rfl, Nat.le_of_ble_eq_true rfl⟩) hK hX hW hS rfl hl.1 (Nat.le_of_ble_eq_true rfl) dX4_work_62 ⟨Nat.le_of_ble_eq_true rfl, Nat.le_of_ble_eq_true rfl⟩ rfl (fun ce q9 H1 locs1 hW hS hce hcv hcl => hx_out htb hlocks hK hW hS hce hcv hcl (by decide) (by decide))
      · refine lv_iconst (v := 1) hx hb dX4_work_57 (by decide) ?_
        refine lv_goto (tgt := 62) hx hb dX4_work_58 (by decide) ?_
        exact (h0.elim c_38 (fun z => z.elim c_47 c_54)).elim
set_option maxHeartbeats 4000000 in
set_option maxRecDepth 100000 in
/-- uX4_swap_1 throws -/
theorem uX4_swap_1 (l : Launch) (D : va_G) (d : hs_Dm) (L : hs_Lo) (σ : hs_St) (A : Nat → Prop) (w : Nat) (L2 : hs_Lo) (hwA : ¬ A w) (hl0 : l.stackTraces = false) (P F R : Nat) (hok : hs_ok P F R σ) (f : Nat) (hf : f < F) (y : Int32) (h0 : y < 0 ∨ ¬ y < σ 0 0 4) : wx_T l yX4_swap wsX4_swap ({ frames := 8, cells := 1, slots := 6, locals := 150 }) D d w L L2 σ A [.ref w, .int (nI f), .int y] "java/lang/IndexOutOfBoundsException" := by
  refine vx_ofW (cc := cX4_swap) (maxL := 5) (ret := (some .int)) (by decide) rfl ?_
  intro p e s m args below meth c s₁ B hml htb hv
  obtain ⟨rfl, ⟨⟨hW, hK⟩, hX⟩, hV⟩ := hv
  have hE := hX.1
  have hx := B.exec
  have hb := B.bytes
  have hr := B.returns
  have hts := atoms_spec (ws := wsX4_swap) B.pre
  have hown : s.vm.findClass RX4 = some m.cls := findClass_of_methodNamed B.named
  have hlocks := B.notSynchronized
  have hS : va_S A s.heap s.heap [] := va_S.rf
  have hW : hs_W D d L σ A s.heap := hW
  have hl := lv_entry ([.ref w, .int (nI f), .int y]) (n := 5) (Nat.le_of_ble_eq_true rfl)
  rw [lg_entry_eq]
  generalize (lg_sl ([.ref w, .int (nI f), .int y]) ++ List.replicate (5 - (lg_sl ([.ref w, .int (nI f), .int y])).length) Slot.unset).toArray = ls at hl ⊢
  have hl : lv_has ls 5 [(0, .ref w), (1, .int (nI f)), (2, .int y)] := hl
  have h10 := hok.1
  have h8 := hok.2.1
  have h5 := hok.2.2.1
  have hd_ := hok.hd
  refine lv_aload_n hx hb dX4_swap_0 rfl (lv_at hl 0 rfl) ?_
  refine va_get (D := D) (ci := cWx) (C := RX4) (T := TX4) (N := 2) (ws := [(w, .inr (cWx, [.ref (L 0 0), .ref (L2 0 0)]))]) (v := .ref (L 0 0)) hx hb hts (by decide +kernel) hown hK (wx_one hV hS hwA) 0 rfl rfl 0 (by decide) (hts (.fieldLink RX4 10 "Waxrow" "house" "LWaxrow$House;") (by decide +kernel)) (fun _ h9 => h9) rfl dX4_swap_1 ?_
  refine lv_iload_n hx hb dX4_swap_4 rfl (lv_at hl 1 rfl) ?_
  refine hs_callr (As := [.int (nI f)]) ⟨hx, hb, hml, hown, hts⟩ (kX1_figureAt l D d L σ A f F hok.hF hf hok.2.1) (cwV 1 hts gX4_swap_X1_figureAt rfl rfl rfl (by decide +kernel) ⟨Nat.le_of_ble_eq_true rfl, Nat.le_of_ble_eq_true rfl⟩) hK hE hW hS hs_ix0 (ci := cHo) (r := (RX1, TX1, 11)) rfl rfl rfl rfl hl.1 (Nat.le_of_ble_eq_true rfl) dX4_swap_5 ⟨Nat.zero_le _, Nat.zero_le _⟩ rfl (fun H locs hW hS => ?_)
  refine lv_astore_n (lv' := [(3, .ref (L 9 f)), (0, .ref w), (1, .int (nI f)), (2, .int y)]) hx hb dX4_swap_8 rfl hl (by decide) rfl (fun ls hl => ?_)
  refine lv_aload_n hx hb dX4_swap_9 rfl (lv_at hl 1 rfl) ?_
  refine va_get (D := D) (ci := cWx) (C := RX4) (T := TX4) (N := 2) (ws := [(w, .inr (cWx, [.ref (L 0 0), .ref (L2 0 0)]))]) (v := .ref (L 0 0)) hx hb hts (by decide +kernel) hown hK (wx_one hV hS hwA) 0 rfl rfl 0 (by decide) (hts (.fieldLink RX4 10 "Waxrow" "house" "LWaxrow$House;") (by decide +kernel)) (fun _ h9 => h9) rfl dX4_swap_10 ?_
  refine lv_iload_n hx hb dX4_swap_13 rfl (lv_at hl 3 rfl) ?_
  exact hx_callT (As := [.int y]) ⟨hx, hb, hml, hown, hts⟩ (tX1_figureAt l D d L σ A hl0 y h0) (cwV 1 hts gX4_swap_X1_figureAt rfl rfl rfl (by decide +kernel) ⟨Nat.le_of_ble_eq_true rfl, Nat.le_of_ble_eq_true rfl⟩) hK hX hW hS hs_ix0 (ci := cHo) (r := (RX1, TX1, 11)) rfl rfl rfl rfl hl.1 (Nat.le_of_ble_eq_true rfl) dX4_swap_14 ⟨Nat.le_of_ble_eq_true rfl, Nat.le_of_ble_eq_true rfl⟩ rfl (fun ce q9 H1 locs1 hW hS hce hcv hcl => hx_out htb hlocks hK hW hS hce hcv hcl (by decide) (by decide))
def wx_Cs (D : va_G) (d : hs_Dm) (w : Nat) (L L2 : hs_Lo) (σ : hs_St) (A : Nat → Prop) (U : State) : Prop := wx_C D d w L L2 σ A U ∧ ∃ sa, vk_R RX4 115 "a figure cannot swap heads with itself" sa U
theorem wx_blinds {D : va_G} {d : hs_Dm} {w : Nat} {L L2 : hs_Lo} {σ : hs_St} {A : Nat → Prop} {av : List Value} : FrameBlind (va_Pc av (wx_Cs D d w L L2 σ A)) := fun a U g mk q => by
  obtain ⟨q0, q1, a1, g1⟩ := q
  exact ⟨q0, (wx_blind (av := av) a U g mk ⟨q0, q1⟩).2, a1, vk_R.same (u := U) (U := U.calling g mk a) rfl g1⟩
abbrev wx_Ts (l : Launch) (y : MethodName) (ws : List Cond) (rm : Room) (D : va_G) (d : hs_Dm) (w : Nat) (L L2 : hs_Lo) (σ : hs_St) (A : Nat → Prop) (av : List Value) (X : String) : Prop := vx_Met l y ws rm (va_Pc av (wx_Cs D d w L L2 σ A)) (fun _ _ _ _ => False) (vx_X (fun _ : Unit => True) (fun E _ t => E = X ∧ hs_B D d L σ A t) A) 1 6 A
set_option maxHeartbeats 4000000 in
set_option maxRecDepth 100000 in
/-- uX4_swap_2 throws -/
theorem uX4_swap_2 (l : Launch) (D : va_G) (d : hs_Dm) (L : hs_Lo) (σ : hs_St) (A : Nat → Prop) (w : Nat) (L2 : hs_Lo) (hwA : ¬ A w) (hl0 : l.stackTraces = false) (P F R : Nat) (hok : hs_ok P F R σ) (f : Nat) (hf : f < F)  : wx_Ts l yX4_swap wsX4_swap ({ frames := 8, cells := 1, slots := 6, locals := 150 }) D d w L L2 σ A [.ref w, .int (nI f), .int (nI f)] "java/lang/IllegalArgumentException" := by
  refine vx_ofW (cc := cX4_swap) (maxL := 5) (ret := (some .int)) (by decide) rfl ?_
  intro p e s m args below meth c s₁ B hml htb hv
  obtain ⟨rfl, ⟨⟨⟨hW, hK⟩, hX⟩, hV⟩, sa, hsa⟩ := hv
  have hE := hX.1
  have hx := B.exec
  have hb := B.bytes
  have hr := B.returns
  have hts := atoms_spec (ws := wsX4_swap) B.pre
  have hown : s.vm.findClass RX4 = some m.cls := findClass_of_methodNamed B.named
  have hlocks := B.notSynchronized
  have hS : va_S A s.heap s.heap [] := va_S.rf
  have hW : hs_W D d L σ A s.heap := hW
  have hl := lv_entry ([.ref w, .int (nI f), .int (nI f)]) (n := 5) (Nat.le_of_ble_eq_true rfl)
  rw [lg_entry_eq]
  generalize (lg_sl ([.ref w, .int (nI f), .int (nI f)]) ++ List.replicate (5 - (lg_sl ([.ref w, .int (nI f), .int (nI f)])).length) Slot.unset).toArray = ls at hl ⊢
  have hl : lv_has ls 5 [(0, .ref w), (1, .int (nI f)), (2, .int (nI f))] := hl
  have h10 := hok.1
  have h8 := hok.2.1
  have h5 := hok.2.2.1
  have hd_ := hok.hd
  refine lv_aload_n hx hb dX4_swap_0 rfl (lv_at hl 0 rfl) ?_
  refine va_get (D := D) (ci := cWx) (C := RX4) (T := TX4) (N := 2) (ws := [(w, .inr (cWx, [.ref (L 0 0), .ref (L2 0 0)]))]) (v := .ref (L 0 0)) hx hb hts (by decide +kernel) hown hK (wx_one hV hS hwA) 0 rfl rfl 0 (by decide) (hts (.fieldLink RX4 10 "Waxrow" "house" "LWaxrow$House;") (by decide +kernel)) (fun _ h9 => h9) rfl dX4_swap_1 ?_
  refine lv_iload_n hx hb dX4_swap_4 rfl (lv_at hl 1 rfl) ?_
  refine hs_callr (As := [.int (nI f)]) ⟨hx, hb, hml, hown, hts⟩ (kX1_figureAt l D d L σ A f F hok.hF hf hok.2.1) (cwV 1 hts gX4_swap_X1_figureAt rfl rfl rfl (by decide +kernel) ⟨Nat.le_of_ble_eq_true rfl, Nat.le_of_ble_eq_true rfl⟩) hK hE hW hS hs_ix0 (ci := cHo) (r := (RX1, TX1, 11)) rfl rfl rfl rfl hl.1 (Nat.le_of_ble_eq_true rfl) dX4_swap_5 ⟨Nat.zero_le _, Nat.zero_le _⟩ rfl (fun H locs hW hS => ?_)
  refine lv_astore_n (lv' := [(3, .ref (L 9 f)), (0, .ref w), (1, .int (nI f)), (2, .int (nI f))]) hx hb dX4_swap_8 rfl hl (by decide) rfl (fun ls hl => ?_)
  refine lv_aload_n hx hb dX4_swap_9 rfl (lv_at hl 1 rfl) ?_
  refine va_get (D := D) (ci := cWx) (C := RX4) (T := TX4) (N := 2) (ws := [(w, .inr (cWx, [.ref (L 0 0), .ref (L2 0 0)]))]) (v := .ref (L 0 0)) hx hb hts (by decide +kernel) hown hK (wx_one hV hS hwA) 0 rfl rfl 0 (by decide) (hts (.fieldLink RX4 10 "Waxrow" "house" "LWaxrow$House;") (by decide +kernel)) (fun _ h9 => h9) rfl dX4_swap_10 ?_
  refine lv_iload_n hx hb dX4_swap_13 rfl (lv_at hl 3 rfl) ?_
  refine hs_callr (As := [.int (nI f)]) ⟨hx, hb, hml, hown, hts⟩ (kX1_figureAt l D d L σ A f F hok.hF hf hok.2.1) (cwV 1 hts gX4_swap_X1_figureAt rfl rfl rfl (by decide +kernel) ⟨Nat.le_of_ble_eq_true rfl, Nat.le_of_ble_eq_true rfl⟩) hK hE hW hS hs_ix0 (ci := cHo) (r := (RX1, TX1, 11)) rfl rfl rfl rfl hl.1 (Nat.le_of_ble_eq_true rfl) dX4_swap_14 ⟨Nat.zero_le _, Nat.zero_le _⟩ rfl (fun H locs hW hS => ?_)
  refine lv_astore (lv' := [(4, .ref (L 9 f)), (3, .ref (L 9 f)), (0, .ref w), (1, .int (nI f)), (2, .int (nI f))]) hx hb dX4_swap_17 hl (by decide) rfl (fun ls hl => ?_)
  refine lv_iload_n hx hb dX4_swap_19 rfl (lv_at hl 3 rfl) ?_
  refine lv_iload_n hx hb dX4_swap_20 rfl (lv_at hl 4 rfl) ?_
  refine lv_icmp_ne (tgt := 34) hx hb dX4_swap_21 (by decide) (fun c_21 => ?_) (fun c_21 => ?_)
  · exact absurd rfl c_21
  · have hb0 : ∀ x ∈ c.exceptionTable.toList, covers x 33 = false := fun x hx => absurd hx (fun h => htb x h)
    have hat : ∀ w ∈ vx_atS RX4 117 "java/lang/IllegalArgumentException" ["java/lang/RuntimeException", "java/lang/Exception"], w.before _ s = true := vx_hat (B := [.castable "java/lang/IllegalArgumentException" "java/lang/IllegalArgumentException", .declares ⟨"java/lang/RuntimeException", "<init>", "(Ljava/lang/String;)V"⟩, .declares ⟨"java/lang/Exception", "<init>", "(Ljava/lang/String;)V"⟩, .declares ⟨"java/lang/Throwable", "<init>", "(Ljava/lang/String;)V"⟩]) (fun w hw => hts w (List.mem_cons_of_mem _ (List.mem_append_left _ (List.mem_append_left _ (List.mem_append_right _ hw))))) (by decide +kernel) (vx_c (va_Nw.use rfl hX.2.2.2.1.2.1) (vx_c (va_Nw.use rfl hX.2.2.1.1) (vx_c (va_Nw.use rfl hX.2.2.1.2.1) (vx_c (va_Nw.use rfl hX.2.2.1.2.2) vx_n))))
    exact vx_throwS hx hb hl0 (own := RX4) (names := ["java/lang/RuntimeException", "java/lang/Exception"]) (mc := 1) (ms := 6) hown (by decide +kernel) (by decide +kernel) (hts (.classLink RX4 113 "java/lang/IllegalArgumentException") (by decide +kernel)) (hts (.initialized "java/lang/IllegalArgumentException") (by decide +kernel)) hsa hat (by decide +kernel) hX.2.1.1 hX.2.1.2 hS (hl.1.trans hml.symm) dX4_swap_24 dX4_swap_27 dX4_swap_28 dX4_swap_30 dX4_swap_33 hb0 (by decide) (by decide) (by decide) (by decide) hlocks (fun t hv hz hq => ⟨(), trivial, ⟨rfl, hs_W.kept hW (fun q h1 _ => hq q h1), va_K.moved hv hK⟩, Nat.le_trans hS.1 hz, fun q h1 h2 => (hq q (Nat.lt_of_lt_of_le h1 hS.1)).trans (hS.2.1 q h1 h2)⟩) hS.2.2 (by decide) (by decide)
set_option maxHeartbeats 4000000 in
set_option maxRecDepth 100000 in
/-- uX4_swap_3 throws -/
theorem uX4_swap_3 (l : Launch) (D : va_G) (d : hs_Dm) (L : hs_Lo) (σ : hs_St) (A : Nat → Prop) (w : Nat) (L2 : hs_Lo) (hwA : ¬ A w) (hl0 : l.stackTraces = false) (P F R : Nat) (hok : hs_ok P F R σ) (f : Nat) (hf : f < F) (g : Nat) (hg : g < F) (hgf : ¬ g = f) (h0 : sp_isReady σ f = 0 ∨ sp_isReady σ g = 0) : wx_T l yX4_swap wsX4_swap ({ frames := 8, cells := 1, slots := 6, locals := 150 }) D d w L L2 σ A [.ref w, .int (nI f), .int (nI g)] "java/lang/IllegalStateException" := by
  refine vx_ofW (cc := cX4_swap) (maxL := 5) (ret := (some .int)) (by decide) rfl ?_
  intro p e s m args below meth c s₁ B hml htb hv
  obtain ⟨rfl, ⟨⟨hW, hK⟩, hX⟩, hV⟩ := hv
  have hE := hX.1
  have hx := B.exec
  have hb := B.bytes
  have hr := B.returns
  have hts := atoms_spec (ws := wsX4_swap) B.pre
  have hown : s.vm.findClass RX4 = some m.cls := findClass_of_methodNamed B.named
  have hlocks := B.notSynchronized
  have hS : va_S A s.heap s.heap [] := va_S.rf
  have hW : hs_W D d L σ A s.heap := hW
  have hl := lv_entry ([.ref w, .int (nI f), .int (nI g)]) (n := 5) (Nat.le_of_ble_eq_true rfl)
  rw [lg_entry_eq]
  generalize (lg_sl ([.ref w, .int (nI f), .int (nI g)]) ++ List.replicate (5 - (lg_sl ([.ref w, .int (nI f), .int (nI g)])).length) Slot.unset).toArray = ls at hl ⊢
  have hl : lv_has ls 5 [(0, .ref w), (1, .int (nI f)), (2, .int (nI g))] := hl
  have h10 := hok.1
  have h8 := hok.2.1
  have h5 := hok.2.2.1
  have hd_ := hok.hd
  refine lv_aload_n hx hb dX4_swap_0 rfl (lv_at hl 0 rfl) ?_
  refine va_get (D := D) (ci := cWx) (C := RX4) (T := TX4) (N := 2) (ws := [(w, .inr (cWx, [.ref (L 0 0), .ref (L2 0 0)]))]) (v := .ref (L 0 0)) hx hb hts (by decide +kernel) hown hK (wx_one hV hS hwA) 0 rfl rfl 0 (by decide) (hts (.fieldLink RX4 10 "Waxrow" "house" "LWaxrow$House;") (by decide +kernel)) (fun _ h9 => h9) rfl dX4_swap_1 ?_
  refine lv_iload_n hx hb dX4_swap_4 rfl (lv_at hl 1 rfl) ?_
  refine hs_callr (As := [.int (nI f)]) ⟨hx, hb, hml, hown, hts⟩ (kX1_figureAt l D d L σ A f F hok.hF hf hok.2.1) (cwV 1 hts gX4_swap_X1_figureAt rfl rfl rfl (by decide +kernel) ⟨Nat.le_of_ble_eq_true rfl, Nat.le_of_ble_eq_true rfl⟩) hK hE hW hS hs_ix0 (ci := cHo) (r := (RX1, TX1, 11)) rfl rfl rfl rfl hl.1 (Nat.le_of_ble_eq_true rfl) dX4_swap_5 ⟨Nat.zero_le _, Nat.zero_le _⟩ rfl (fun H locs hW hS => ?_)
  refine lv_astore_n (lv' := [(3, .ref (L 9 f)), (0, .ref w), (1, .int (nI f)), (2, .int (nI g))]) hx hb dX4_swap_8 rfl hl (by decide) rfl (fun ls hl => ?_)
  refine lv_aload_n hx hb dX4_swap_9 rfl (lv_at hl 1 rfl) ?_
  refine va_get (D := D) (ci := cWx) (C := RX4) (T := TX4) (N := 2) (ws := [(w, .inr (cWx, [.ref (L 0 0), .ref (L2 0 0)]))]) (v := .ref (L 0 0)) hx hb hts (by decide +kernel) hown hK (wx_one hV hS hwA) 0 rfl rfl 0 (by decide) (hts (.fieldLink RX4 10 "Waxrow" "house" "LWaxrow$House;") (by decide +kernel)) (fun _ h9 => h9) rfl dX4_swap_10 ?_
  refine lv_iload_n hx hb dX4_swap_13 rfl (lv_at hl 3 rfl) ?_
  refine hs_callr (As := [.int (nI g)]) ⟨hx, hb, hml, hown, hts⟩ (kX1_figureAt l D d L σ A g F hok.hF hg hok.2.1) (cwV 1 hts gX4_swap_X1_figureAt rfl rfl rfl (by decide +kernel) ⟨Nat.le_of_ble_eq_true rfl, Nat.le_of_ble_eq_true rfl⟩) hK hE hW hS hs_ix0 (ci := cHo) (r := (RX1, TX1, 11)) rfl rfl rfl rfl hl.1 (Nat.le_of_ble_eq_true rfl) dX4_swap_14 ⟨Nat.zero_le _, Nat.zero_le _⟩ rfl (fun H locs hW hS => ?_)
  refine lv_astore (lv' := [(4, .ref (L 9 g)), (3, .ref (L 9 f)), (0, .ref w), (1, .int (nI f)), (2, .int (nI g))]) hx hb dX4_swap_17 hl (by decide) rfl (fun ls hl => ?_)
  refine lv_iload_n hx hb dX4_swap_19 rfl (lv_at hl 3 rfl) ?_
  refine lv_iload_n hx hb dX4_swap_20 rfl (lv_at hl 4 rfl) ?_
  refine lv_icmp_ne (tgt := 34) hx hb dX4_swap_21 (by decide) (fun c_21 => ?_) (fun c_21 => ?_)
  · refine lv_aload_n hx hb dX4_swap_34 rfl (lv_at hl 1 rfl) ?_
    refine hs_calli (As := []) ⟨hx, hb, hml, hown, hts⟩ (kX0_isReadyInStore l D d L σ A f (show f < 8 by omega)) (cwV 0 hts gX4_swap_X0_isReadyInStore rfl rfl rfl (by decide +kernel) ⟨Nat.le_of_ble_eq_true rfl, Nat.le_of_ble_eq_true rfl⟩) hK hE hW hS (hs_ix9 (show f < 8 by omega)) (ci := cFi) (r := (RX0, TX0, 11)) rfl rfl rfl rfl hl.1 (Nat.le_of_ble_eq_true rfl) dX4_swap_35 ⟨Nat.zero_le _, Nat.zero_le _⟩ rfl (fun r_ τ_ H locs hp hW hS => ?_)
    obtain ⟨rfl, rfl⟩ := hp
    refine lv_if_eq (tgt := 53) hx hb dX4_swap_38 (by decide) (fun c_38 => ?_) (fun c_38 => ?_)
    · refine lv_iconst (v := 0) hx hb dX4_swap_53 (by decide) ?_
      exact hx_runT (As := [.int 0]) ⟨hx, hb, hml, hown, hts⟩ (tX4_checkState l D d L σ A hl0 0 rfl) (va_cwS 1 hts gX4_swap_X4_checkState rfl rfl rfl (by decide +kernel) ⟨Nat.le_of_ble_eq_true rfl, Nat.le_of_ble_eq_true rfl⟩) hK hX hW hS rfl hl.1 (Nat.le_of_ble_eq_true rfl) dX4_swap_54 ⟨Nat.le_of_ble_eq_true rfl, Nat.le_of_ble_eq_true rfl⟩ rfl (fun ce q9 H1 locs1 hW hS hce hcv hcl => hx_out htb hlocks hK hW hS hce hcv hcl (by decide) (by decide))
    · refine lv_aload hx hb dX4_swap_41 (lv_at hl 0 rfl) ?_
      refine hs_calli (As := []) ⟨hx, hb, hml, hown, hts⟩ (kX0_isReadyInStore l D d L σ A g (show g < 8 by omega)) (cwV 0 hts gX4_swap_X0_isReadyInStore rfl rfl rfl (by decide +kernel) ⟨Nat.le_of_ble_eq_true rfl, Nat.le_of_ble_eq_true rfl⟩) hK hE hW hS (hs_ix9 (show g < 8 by omega)) (ci := cFi) (r := (RX0, TX0, 11)) rfl rfl rfl rfl hl.1 (Nat.le_of_ble_eq_true rfl) dX4_swap_43 ⟨Nat.zero_le _, Nat.zero_le _⟩ rfl (fun r_ τ_ H locs hp hW hS => ?_)
      obtain ⟨rfl, rfl⟩ := hp
      refine lv_if_eq (tgt := 53) hx hb dX4_swap_46 (by decide) (fun c_46 => ?_) (fun c_46 => ?_)
      · refine lv_iconst (v := 0) hx hb dX4_swap_53 (by decide) ?_
        exact hx_runT (As := [.int 0]) ⟨hx, hb, hml, hown, hts⟩ (tX4_checkState l D d L σ A hl0 0 rfl) (va_cwS 1 hts gX4_swap_X4_checkState rfl rfl rfl (by decide +kernel) ⟨Nat.le_of_ble_eq_true rfl, Nat.le_of_ble_eq_true rfl⟩) hK hX hW hS rfl hl.1 (Nat.le_of_ble_eq_true rfl) dX4_swap_54 ⟨Nat.le_of_ble_eq_true rfl, Nat.le_of_ble_eq_true rfl⟩ rfl (fun ce q9 H1 locs1 hW hS hce hcv hcl => hx_out htb hlocks hK hW hS hce hcv hcl (by decide) (by decide))
      · refine lv_iconst (v := 1) hx hb dX4_swap_49 (by decide) ?_
        refine lv_goto (tgt := 54) hx hb dX4_swap_50 (by decide) ?_
        exact (h0.elim c_38 c_46).elim
  · exact absurd (nI_inj (by omega) (by omega) c_21).symm hgf
set_option maxHeartbeats 4000000 in
set_option maxRecDepth 100000 in
/-- uX4_mend_1 throws -/
theorem uX4_mend_1 (l : Launch) (D : va_G) (d : hs_Dm) (L : hs_Lo) (σ : hs_St) (A : Nat → Prop) (w : Nat) (L2 : hs_Lo) (hwA : ¬ A w) (hl0 : l.stackTraces = false) (P F R : Nat) (hok : hs_ok P F R σ) (f : Nat) (hf : f < F) (h0 : sp_isReady σ f = 0) : wx_T l yX4_mend wsX4_mend ({ frames := 8, cells := 1, slots := 6, locals := 150 }) D d w L L2 σ A [.ref w, .int (nI f)] "java/lang/IllegalStateException" := by
  refine vx_ofW (cc := cX4_mend) (maxL := 4) (ret := (some .int)) (by decide) rfl ?_
  intro p e s m args below meth c s₁ B hml htb hv
  obtain ⟨rfl, ⟨⟨hW, hK⟩, hX⟩, hV⟩ := hv
  have hE := hX.1
  have hx := B.exec
  have hb := B.bytes
  have hr := B.returns
  have hts := atoms_spec (ws := wsX4_mend) B.pre
  have hown : s.vm.findClass RX4 = some m.cls := findClass_of_methodNamed B.named
  have hlocks := B.notSynchronized
  have hS : va_S A s.heap s.heap [] := va_S.rf
  have hW : hs_W D d L σ A s.heap := hW
  have hl := lv_entry ([.ref w, .int (nI f)]) (n := 4) (Nat.le_of_ble_eq_true rfl)
  rw [lg_entry_eq]
  generalize (lg_sl ([.ref w, .int (nI f)]) ++ List.replicate (4 - (lg_sl ([.ref w, .int (nI f)])).length) Slot.unset).toArray = ls at hl ⊢
  have hl : lv_has ls 4 [(0, .ref w), (1, .int (nI f))] := hl
  have h10 := hok.1
  have h8 := hok.2.1
  have h5 := hok.2.2.1
  have hd_ := hok.hd
  refine lv_aload_n hx hb dX4_mend_0 rfl (lv_at hl 0 rfl) ?_
  refine va_get (D := D) (ci := cWx) (C := RX4) (T := TX4) (N := 2) (ws := [(w, .inr (cWx, [.ref (L 0 0), .ref (L2 0 0)]))]) (v := .ref (L 0 0)) hx hb hts (by decide +kernel) hown hK (wx_one hV hS hwA) 0 rfl rfl 0 (by decide) (hts (.fieldLink RX4 10 "Waxrow" "house" "LWaxrow$House;") (by decide +kernel)) (fun _ h9 => h9) rfl dX4_mend_1 ?_
  refine lv_iload_n hx hb dX4_mend_4 rfl (lv_at hl 1 rfl) ?_
  refine hs_callr (As := [.int (nI f)]) ⟨hx, hb, hml, hown, hts⟩ (kX1_figureAt l D d L σ A f F hok.hF hf hok.2.1) (cwV 1 hts gX4_mend_X1_figureAt rfl rfl rfl (by decide +kernel) ⟨Nat.le_of_ble_eq_true rfl, Nat.le_of_ble_eq_true rfl⟩) hK hE hW hS hs_ix0 (ci := cHo) (r := (RX1, TX1, 11)) rfl rfl rfl rfl hl.1 (Nat.le_of_ble_eq_true rfl) dX4_mend_5 ⟨Nat.zero_le _, Nat.zero_le _⟩ rfl (fun H locs hW hS => ?_)
  refine lv_astore_n (lv' := [(2, .ref (L 9 f)), (0, .ref w), (1, .int (nI f))]) hx hb dX4_mend_8 rfl hl (by decide) rfl (fun ls hl => ?_)
  refine lv_aload_n hx hb dX4_mend_9 rfl (lv_at hl 0 rfl) ?_
  refine hs_calli (As := []) ⟨hx, hb, hml, hown, hts⟩ (kX0_isReadyInStore l D d L σ A f (show f < 8 by omega)) (cwV 0 hts gX4_mend_X0_isReadyInStore rfl rfl rfl (by decide +kernel) ⟨Nat.le_of_ble_eq_true rfl, Nat.le_of_ble_eq_true rfl⟩) hK hE hW hS (hs_ix9 (show f < 8 by omega)) (ci := cFi) (r := (RX0, TX0, 11)) rfl rfl rfl rfl hl.1 (Nat.le_of_ble_eq_true rfl) dX4_mend_10 ⟨Nat.zero_le _, Nat.zero_le _⟩ rfl (fun r_ τ_ H locs hp hW hS => ?_)
  obtain ⟨rfl, rfl⟩ := hp
  exact hx_runT (As := [.int (sp_isReady σ f)]) ⟨hx, hb, hml, hown, hts⟩ (tX4_checkState l D d L σ A hl0 (sp_isReady σ f) h0) (va_cwS 1 hts gX4_mend_X4_checkState rfl rfl rfl (by decide +kernel) ⟨Nat.le_of_ble_eq_true rfl, Nat.le_of_ble_eq_true rfl⟩) hK hX hW hS rfl hl.1 (Nat.le_of_ble_eq_true rfl) dX4_mend_13 ⟨Nat.le_of_ble_eq_true rfl, Nat.le_of_ble_eq_true rfl⟩ rfl (fun ce q9 H1 locs1 hW hS hce hcv hcl => hx_out htb hlocks hK hW hS hce hcv hcl (by decide) (by decide))
set_option maxHeartbeats 4000000 in
set_option maxRecDepth 100000 in
/-- uX4_melt_1 throws -/
theorem uX4_melt_1 (l : Launch) (D : va_G) (d : hs_Dm) (L : hs_Lo) (σ : hs_St) (A : Nat → Prop) (w : Nat) (L2 : hs_Lo) (hwA : ¬ A w) (hl0 : l.stackTraces = false) (P F R : Nat) (hok : hs_ok P F R σ) (f : Nat) (hf : f < F) (h0 : ¬ σ 9 f 7 = 5) : wx_T l yX4_melt wsX4_melt ({ frames := 8, cells := 1, slots := 6, locals := 150 }) D d w L L2 σ A [.ref w, .int (nI f)] "java/lang/IllegalStateException" := by
  refine vx_ofW (cc := cX4_melt) (maxL := 3) (ret := (some .int)) (by decide) rfl ?_
  intro p e s m args below meth c s₁ B hml htb hv
  obtain ⟨rfl, ⟨⟨hW, hK⟩, hX⟩, hV⟩ := hv
  have hE := hX.1
  have hx := B.exec
  have hb := B.bytes
  have hr := B.returns
  have hts := atoms_spec (ws := wsX4_melt) B.pre
  have hown : s.vm.findClass RX4 = some m.cls := findClass_of_methodNamed B.named
  have hlocks := B.notSynchronized
  have hS : va_S A s.heap s.heap [] := va_S.rf
  have hW : hs_W D d L σ A s.heap := hW
  have hl := lv_entry ([.ref w, .int (nI f)]) (n := 3) (Nat.le_of_ble_eq_true rfl)
  rw [lg_entry_eq]
  generalize (lg_sl ([.ref w, .int (nI f)]) ++ List.replicate (3 - (lg_sl ([.ref w, .int (nI f)])).length) Slot.unset).toArray = ls at hl ⊢
  have hl : lv_has ls 3 [(0, .ref w), (1, .int (nI f))] := hl
  have h10 := hok.1
  have h8 := hok.2.1
  have h5 := hok.2.2.1
  have hd_ := hok.hd
  refine lv_aload_n hx hb dX4_melt_0 rfl (lv_at hl 0 rfl) ?_
  refine va_get (D := D) (ci := cWx) (C := RX4) (T := TX4) (N := 2) (ws := [(w, .inr (cWx, [.ref (L 0 0), .ref (L2 0 0)]))]) (v := .ref (L 0 0)) hx hb hts (by decide +kernel) hown hK (wx_one hV hS hwA) 0 rfl rfl 0 (by decide) (hts (.fieldLink RX4 10 "Waxrow" "house" "LWaxrow$House;") (by decide +kernel)) (fun _ h9 => h9) rfl dX4_melt_1 ?_
  refine lv_iload_n hx hb dX4_melt_4 rfl (lv_at hl 1 rfl) ?_
  refine hs_callr (As := [.int (nI f)]) ⟨hx, hb, hml, hown, hts⟩ (kX1_figureAt l D d L σ A f F hok.hF hf hok.2.1) (cwV 1 hts gX4_melt_X1_figureAt rfl rfl rfl (by decide +kernel) ⟨Nat.le_of_ble_eq_true rfl, Nat.le_of_ble_eq_true rfl⟩) hK hE hW hS hs_ix0 (ci := cHo) (r := (RX1, TX1, 11)) rfl rfl rfl rfl hl.1 (Nat.le_of_ble_eq_true rfl) dX4_melt_5 ⟨Nat.zero_le _, Nat.zero_le _⟩ rfl (fun H locs hW hS => ?_)
  refine lv_astore_n (lv' := [(2, .ref (L 9 f)), (0, .ref w), (1, .int (nI f))]) hx hb dX4_melt_8 rfl hl (by decide) rfl (fun ls hl => ?_)
  refine lv_aload_n hx hb dX4_melt_9 rfl (lv_at hl 0 rfl) ?_
  refine va_get (D := D) (ci := cFi) (C := RX0) (T := TX0) (N := 11) (ws := [(L 9 f, hs_ct d L σ 9 f)]) (v := .int (σ 9 f 7)) hx hb hts (by decide +kernel) hown hK (hW.one (hs_ix9 (show f < 8 by omega))) 0 rfl rfl 7 (by decide) (hts (.fieldLink RX4 110 "Waxrow$Figure" "place" "I") (by decide +kernel)) (fun _ h9 => h9) rfl dX4_melt_10 ?_
  refine lv_iconst (v := 5) hx hb dX4_melt_13 (by decide) ?_
  refine lv_icmp_ne (tgt := 21) hx hb dX4_melt_14 (by decide) (fun c_14 => ?_) (fun c_14 => ?_)
  · refine lv_iconst (v := 0) hx hb dX4_melt_21 (by decide) ?_
    exact hx_runT (As := [.int 0]) ⟨hx, hb, hml, hown, hts⟩ (tX4_checkState l D d L σ A hl0 0 rfl) (va_cwS 1 hts gX4_melt_X4_checkState rfl rfl rfl (by decide +kernel) ⟨Nat.le_of_ble_eq_true rfl, Nat.le_of_ble_eq_true rfl⟩) hK hX hW hS rfl hl.1 (Nat.le_of_ble_eq_true rfl) dX4_melt_22 ⟨Nat.le_of_ble_eq_true rfl, Nat.le_of_ble_eq_true rfl⟩ rfl (fun ce q9 H1 locs1 hW hS hce hcv hcl => hx_out htb hlocks hK hW hS hce hcv hcl (by decide) (by decide))
  · refine lv_iconst (v := 1) hx hb dX4_melt_17 (by decide) ?_
    refine lv_goto (tgt := 22) hx hb dX4_melt_18 (by decide) ?_
    exact absurd c_14 h0
set_option maxHeartbeats 4000000 in
set_option maxRecDepth 100000 in
/-- uX4_tour_1 throws -/
theorem uX4_tour_1 (l : Launch) (D : va_G) (d : hs_Dm) (L : hs_Lo) (σ : hs_St) (A : Nat → Prop) (w : Nat) (L2 : hs_Lo) (hwA : ¬ A w) (hl0 : l.stackTraces = false) (P F R : Nat) (hok : hs_ok P F R σ) (f : Nat) (hf : f < F) (y z : Int32) (h0 : y < 1 ∨ ¬ y ≤ 2) : wx_T l yX4_tour wsX4_tour ({ frames := 8, cells := 1, slots := 6, locals := 150 }) D d w L L2 σ A [.ref w, .int (nI f), .int y, .int z] "java/lang/IllegalArgumentException" := by
  refine vx_ofW (cc := cX4_tour) (maxL := 5) (ret := (some .int)) (by decide) rfl ?_
  intro p e s m args below meth c s₁ B hml htb hv
  obtain ⟨rfl, ⟨⟨hW, hK⟩, hX⟩, hV⟩ := hv
  have hE := hX.1
  have hx := B.exec
  have hb := B.bytes
  have hr := B.returns
  have hts := atoms_spec (ws := wsX4_tour) B.pre
  have hown : s.vm.findClass RX4 = some m.cls := findClass_of_methodNamed B.named
  have hlocks := B.notSynchronized
  have hS : va_S A s.heap s.heap [] := va_S.rf
  have hW : hs_W D d L σ A s.heap := hW
  have hl := lv_entry ([.ref w, .int (nI f), .int y, .int z]) (n := 5) (Nat.le_of_ble_eq_true rfl)
  rw [lg_entry_eq]
  generalize (lg_sl ([.ref w, .int (nI f), .int y, .int z]) ++ List.replicate (5 - (lg_sl ([.ref w, .int (nI f), .int y, .int z])).length) Slot.unset).toArray = ls at hl ⊢
  have hl : lv_has ls 5 [(0, .ref w), (1, .int (nI f)), (2, .int y), (3, .int z)] := hl
  have h10 := hok.1
  have h8 := hok.2.1
  have h5 := hok.2.2.1
  have hd_ := hok.hd
  refine lv_aload_n hx hb dX4_tour_0 rfl (lv_at hl 0 rfl) ?_
  refine va_get (D := D) (ci := cWx) (C := RX4) (T := TX4) (N := 2) (ws := [(w, .inr (cWx, [.ref (L 0 0), .ref (L2 0 0)]))]) (v := .ref (L 0 0)) hx hb hts (by decide +kernel) hown hK (wx_one hV hS hwA) 0 rfl rfl 0 (by decide) (hts (.fieldLink RX4 10 "Waxrow" "house" "LWaxrow$House;") (by decide +kernel)) (fun _ h9 => h9) rfl dX4_tour_1 ?_
  refine lv_iload_n hx hb dX4_tour_4 rfl (lv_at hl 1 rfl) ?_
  refine hs_callr (As := [.int (nI f)]) ⟨hx, hb, hml, hown, hts⟩ (kX1_figureAt l D d L σ A f F hok.hF hf hok.2.1) (cwV 1 hts gX4_tour_X1_figureAt rfl rfl rfl (by decide +kernel) ⟨Nat.le_of_ble_eq_true rfl, Nat.le_of_ble_eq_true rfl⟩) hK hE hW hS hs_ix0 (ci := cHo) (r := (RX1, TX1, 11)) rfl rfl rfl rfl hl.1 (Nat.le_of_ble_eq_true rfl) dX4_tour_5 ⟨Nat.zero_le _, Nat.zero_le _⟩ rfl (fun H locs hW hS => ?_)
  refine lv_astore (lv' := [(4, .ref (L 9 f)), (0, .ref w), (1, .int (nI f)), (2, .int y), (3, .int z)]) hx hb dX4_tour_8 hl (by decide) rfl (fun ls hl => ?_)
  refine lv_iload_n hx hb dX4_tour_10 rfl (lv_at hl 3 rfl) ?_
  refine lv_iconst (v := 1) hx hb dX4_tour_11 (by decide) ?_
  refine lv_iconst (v := 2) hx hb dX4_tour_12 (by decide) ?_
  exact hx_runT (As := [.int y, .int 1, .int 2]) ⟨hx, hb, hml, hown, hts⟩ (tX4_checkArgument l D d L σ A hl0 y 1 2 h0) (va_cwS 3 hts gX4_tour_X4_checkArgument rfl rfl rfl (by decide +kernel) ⟨Nat.le_of_ble_eq_true rfl, Nat.le_of_ble_eq_true rfl⟩) hK hX hW hS rfl hl.1 (Nat.le_of_ble_eq_true rfl) dX4_tour_13 ⟨Nat.le_of_ble_eq_true rfl, Nat.le_of_ble_eq_true rfl⟩ rfl (fun ce q9 H1 locs1 hW hS hce hcv hcl => hx_out htb hlocks hK hW hS hce hcv hcl (by decide) (by decide))
set_option maxHeartbeats 4000000 in
set_option maxRecDepth 100000 in
/-- uX4_tour_2 throws -/
theorem uX4_tour_2 (l : Launch) (D : va_G) (d : hs_Dm) (L : hs_Lo) (σ : hs_St) (A : Nat → Prop) (w : Nat) (L2 : hs_Lo) (hwA : ¬ A w) (hl0 : l.stackTraces = false) (P F R : Nat) (hok : hs_ok P F R σ) (f : Nat) (hf : f < F) (y z : Int32) (hy0 : ¬ y < 1) (hy9 : y ≤ 2) (h0 : z < 1 ∨ ¬ z ≤ 60) : wx_T l yX4_tour wsX4_tour ({ frames := 8, cells := 1, slots := 6, locals := 150 }) D d w L L2 σ A [.ref w, .int (nI f), .int y, .int z] "java/lang/IllegalArgumentException" := by
  refine vx_ofW (cc := cX4_tour) (maxL := 5) (ret := (some .int)) (by decide) rfl ?_
  intro p e s m args below meth c s₁ B hml htb hv
  obtain ⟨rfl, ⟨⟨hW, hK⟩, hX⟩, hV⟩ := hv
  have hE := hX.1
  have hx := B.exec
  have hb := B.bytes
  have hr := B.returns
  have hts := atoms_spec (ws := wsX4_tour) B.pre
  have hown : s.vm.findClass RX4 = some m.cls := findClass_of_methodNamed B.named
  have hlocks := B.notSynchronized
  have hS : va_S A s.heap s.heap [] := va_S.rf
  have hW : hs_W D d L σ A s.heap := hW
  have hl := lv_entry ([.ref w, .int (nI f), .int y, .int z]) (n := 5) (Nat.le_of_ble_eq_true rfl)
  rw [lg_entry_eq]
  generalize (lg_sl ([.ref w, .int (nI f), .int y, .int z]) ++ List.replicate (5 - (lg_sl ([.ref w, .int (nI f), .int y, .int z])).length) Slot.unset).toArray = ls at hl ⊢
  have hl : lv_has ls 5 [(0, .ref w), (1, .int (nI f)), (2, .int y), (3, .int z)] := hl
  have h10 := hok.1
  have h8 := hok.2.1
  have h5 := hok.2.2.1
  have hd_ := hok.hd
  refine lv_aload_n hx hb dX4_tour_0 rfl (lv_at hl 0 rfl) ?_
  refine va_get (D := D) (ci := cWx) (C := RX4) (T := TX4) (N := 2) (ws := [(w, .inr (cWx, [.ref (L 0 0), .ref (L2 0 0)]))]) (v := .ref (L 0 0)) hx hb hts (by decide +kernel) hown hK (wx_one hV hS hwA) 0 rfl rfl 0 (by decide) (hts (.fieldLink RX4 10 "Waxrow" "house" "LWaxrow$House;") (by decide +kernel)) (fun _ h9 => h9) rfl dX4_tour_1 ?_
  refine lv_iload_n hx hb dX4_tour_4 rfl (lv_at hl 1 rfl) ?_
  refine hs_callr (As := [.int (nI f)]) ⟨hx, hb, hml, hown, hts⟩ (kX1_figureAt l D d L σ A f F hok.hF hf hok.2.1) (cwV 1 hts gX4_tour_X1_figureAt rfl rfl rfl (by decide +kernel) ⟨Nat.le_of_ble_eq_true rfl, Nat.le_of_ble_eq_true rfl⟩) hK hE hW hS hs_ix0 (ci := cHo) (r := (RX1, TX1, 11)) rfl rfl rfl rfl hl.1 (Nat.le_of_ble_eq_true rfl) dX4_tour_5 ⟨Nat.zero_le _, Nat.zero_le _⟩ rfl (fun H locs hW hS => ?_)
  refine lv_astore (lv' := [(4, .ref (L 9 f)), (0, .ref w), (1, .int (nI f)), (2, .int y), (3, .int z)]) hx hb dX4_tour_8 hl (by decide) rfl (fun ls hl => ?_)
  refine lv_iload_n hx hb dX4_tour_10 rfl (lv_at hl 3 rfl) ?_
  refine lv_iconst (v := 1) hx hb dX4_tour_11 (by decide) ?_
  refine lv_iconst (v := 2) hx hb dX4_tour_12 (by decide) ?_
  refine hs_runv (As := [.int y, .int 1, .int 2]) ⟨hx, hb, hml, hown, hts⟩ (kX4_checkArgument l D d L σ A y 1 2 hy0 hy9) (va_cwS 3 hts gX4_tour_X4_checkArgument rfl rfl rfl (by decide +kernel) ⟨Nat.le_of_ble_eq_true rfl, Nat.le_of_ble_eq_true rfl⟩) hK hE hW hS rfl hl.1 (Nat.le_of_ble_eq_true rfl) dX4_tour_13 ⟨Nat.zero_le _, Nat.zero_le _⟩ rfl (fun τ_ H locs hp hW hS => ?_)
  obtain rfl := hp
  refine lv_iload_n hx hb dX4_tour_16 rfl (lv_at hl 4 rfl) ?_
  refine lv_iconst (v := 1) hx hb dX4_tour_17 (by decide) ?_
  refine lv_bipush (v := 60) hx hb dX4_tour_18 (by decide) ?_
  exact hx_runT (As := [.int z, .int 1, .int 60]) ⟨hx, hb, hml, hown, hts⟩ (tX4_checkArgument l D d L σ A hl0 z 1 60 h0) (va_cwS 3 hts gX4_tour_X4_checkArgument rfl rfl rfl (by decide +kernel) ⟨Nat.le_of_ble_eq_true rfl, Nat.le_of_ble_eq_true rfl⟩) hK hX hW hS rfl hl.1 (Nat.le_of_ble_eq_true rfl) dX4_tour_20 ⟨Nat.le_of_ble_eq_true rfl, Nat.le_of_ble_eq_true rfl⟩ rfl (fun ce q9 H1 locs1 hW hS hce hcv hcl => hx_out htb hlocks hK hW hS hce hcv hcl (by decide) (by decide))
set_option maxHeartbeats 4000000 in
set_option maxRecDepth 100000 in
/-- uX4_tour_3 throws -/
theorem uX4_tour_3 (l : Launch) (D : va_G) (d : hs_Dm) (L : hs_Lo) (σ : hs_St) (A : Nat → Prop) (w : Nat) (L2 : hs_Lo) (hwA : ¬ A w) (hl0 : l.stackTraces = false) (P F R : Nat) (hok : hs_ok P F R σ) (f : Nat) (hf : f < F) (y z : Int32) (hy0 : ¬ y < 1) (hy9 : y ≤ 2) (hz0 : ¬ z < 1) (hz9 : z ≤ 60) (h0 : sp_isReady σ f = 0 ∨ σ 4 (σ 9 f 0).toNatClampNeg 5 = 0) : wx_T l yX4_tour wsX4_tour ({ frames := 8, cells := 1, slots := 6, locals := 150 }) D d w L L2 σ A [.ref w, .int (nI f), .int y, .int z] "java/lang/IllegalStateException" := by
  refine vx_ofW (cc := cX4_tour) (maxL := 5) (ret := (some .int)) (by decide) rfl ?_
  intro p e s m args below meth c s₁ B hml htb hv
  obtain ⟨rfl, ⟨⟨hW, hK⟩, hX⟩, hV⟩ := hv
  have hE := hX.1
  have hx := B.exec
  have hb := B.bytes
  have hr := B.returns
  have hts := atoms_spec (ws := wsX4_tour) B.pre
  have hown : s.vm.findClass RX4 = some m.cls := findClass_of_methodNamed B.named
  have hlocks := B.notSynchronized
  have hS : va_S A s.heap s.heap [] := va_S.rf
  have hW : hs_W D d L σ A s.heap := hW
  have hl := lv_entry ([.ref w, .int (nI f), .int y, .int z]) (n := 5) (Nat.le_of_ble_eq_true rfl)
  rw [lg_entry_eq]
  generalize (lg_sl ([.ref w, .int (nI f), .int y, .int z]) ++ List.replicate (5 - (lg_sl ([.ref w, .int (nI f), .int y, .int z])).length) Slot.unset).toArray = ls at hl ⊢
  have hl : lv_has ls 5 [(0, .ref w), (1, .int (nI f)), (2, .int y), (3, .int z)] := hl
  have h10 := hok.1
  have h8 := hok.2.1
  have h5 := hok.2.2.1
  have hd_ := hok.hd
  refine lv_aload_n hx hb dX4_tour_0 rfl (lv_at hl 0 rfl) ?_
  refine va_get (D := D) (ci := cWx) (C := RX4) (T := TX4) (N := 2) (ws := [(w, .inr (cWx, [.ref (L 0 0), .ref (L2 0 0)]))]) (v := .ref (L 0 0)) hx hb hts (by decide +kernel) hown hK (wx_one hV hS hwA) 0 rfl rfl 0 (by decide) (hts (.fieldLink RX4 10 "Waxrow" "house" "LWaxrow$House;") (by decide +kernel)) (fun _ h9 => h9) rfl dX4_tour_1 ?_
  refine lv_iload_n hx hb dX4_tour_4 rfl (lv_at hl 1 rfl) ?_
  refine hs_callr (As := [.int (nI f)]) ⟨hx, hb, hml, hown, hts⟩ (kX1_figureAt l D d L σ A f F hok.hF hf hok.2.1) (cwV 1 hts gX4_tour_X1_figureAt rfl rfl rfl (by decide +kernel) ⟨Nat.le_of_ble_eq_true rfl, Nat.le_of_ble_eq_true rfl⟩) hK hE hW hS hs_ix0 (ci := cHo) (r := (RX1, TX1, 11)) rfl rfl rfl rfl hl.1 (Nat.le_of_ble_eq_true rfl) dX4_tour_5 ⟨Nat.zero_le _, Nat.zero_le _⟩ rfl (fun H locs hW hS => ?_)
  refine lv_astore (lv' := [(4, .ref (L 9 f)), (0, .ref w), (1, .int (nI f)), (2, .int y), (3, .int z)]) hx hb dX4_tour_8 hl (by decide) rfl (fun ls hl => ?_)
  refine lv_iload_n hx hb dX4_tour_10 rfl (lv_at hl 3 rfl) ?_
  refine lv_iconst (v := 1) hx hb dX4_tour_11 (by decide) ?_
  refine lv_iconst (v := 2) hx hb dX4_tour_12 (by decide) ?_
  refine hs_runv (As := [.int y, .int 1, .int 2]) ⟨hx, hb, hml, hown, hts⟩ (kX4_checkArgument l D d L σ A y 1 2 hy0 hy9) (va_cwS 3 hts gX4_tour_X4_checkArgument rfl rfl rfl (by decide +kernel) ⟨Nat.le_of_ble_eq_true rfl, Nat.le_of_ble_eq_true rfl⟩) hK hE hW hS rfl hl.1 (Nat.le_of_ble_eq_true rfl) dX4_tour_13 ⟨Nat.zero_le _, Nat.zero_le _⟩ rfl (fun τ_ H locs hp hW hS => ?_)
  obtain rfl := hp
  refine lv_iload_n hx hb dX4_tour_16 rfl (lv_at hl 4 rfl) ?_
  refine lv_iconst (v := 1) hx hb dX4_tour_17 (by decide) ?_
  refine lv_bipush (v := 60) hx hb dX4_tour_18 (by decide) ?_
  refine hs_runv (As := [.int z, .int 1, .int 60]) ⟨hx, hb, hml, hown, hts⟩ (kX4_checkArgument l D d L σ A z 1 60 hz0 hz9) (va_cwS 3 hts gX4_tour_X4_checkArgument rfl rfl rfl (by decide +kernel) ⟨Nat.le_of_ble_eq_true rfl, Nat.le_of_ble_eq_true rfl⟩) hK hE hW hS rfl hl.1 (Nat.le_of_ble_eq_true rfl) dX4_tour_20 ⟨Nat.zero_le _, Nat.zero_le _⟩ rfl (fun τ_ H locs hp hW hS => ?_)
  obtain rfl := hp
  refine lv_aload hx hb dX4_tour_23 (lv_at hl 0 rfl) ?_
  refine hs_calli (As := []) ⟨hx, hb, hml, hown, hts⟩ (kX0_isReadyInStore l D d L σ A f (show f < 8 by omega)) (cwV 0 hts gX4_tour_X0_isReadyInStore rfl rfl rfl (by decide +kernel) ⟨Nat.le_of_ble_eq_true rfl, Nat.le_of_ble_eq_true rfl⟩) hK hE hW hS (hs_ix9 (show f < 8 by omega)) (ci := cFi) (r := (RX0, TX0, 11)) rfl rfl rfl rfl hl.1 (Nat.le_of_ble_eq_true rfl) dX4_tour_25 ⟨Nat.zero_le _, Nat.zero_le _⟩ rfl (fun r_ τ_ H locs hp hW hS => ?_)
  obtain ⟨rfl, rfl⟩ := hp
  refine lv_if_eq (tgt := 46) hx hb dX4_tour_28 (by decide) (fun c_28 => ?_) (fun c_28 => ?_)
  · refine lv_iconst (v := 0) hx hb dX4_tour_46 (by decide) ?_
    exact hx_runT (As := [.int 0]) ⟨hx, hb, hml, hown, hts⟩ (tX4_checkState l D d L σ A hl0 0 rfl) (va_cwS 1 hts gX4_tour_X4_checkState rfl rfl rfl (by decide +kernel) ⟨Nat.le_of_ble_eq_true rfl, Nat.le_of_ble_eq_true rfl⟩) hK hX hW hS rfl hl.1 (Nat.le_of_ble_eq_true rfl) dX4_tour_47 ⟨Nat.le_of_ble_eq_true rfl, Nat.le_of_ble_eq_true rfl⟩ rfl (fun ce q9 H1 locs1 hW hS hce hcv hcl => hx_out htb hlocks hK hW hS hce hcv hcl (by decide) (by decide))
  · refine lv_aload hx hb dX4_tour_31 (lv_at hl 0 rfl) ?_
    refine va_get (D := D) (ci := cFi) (C := RX0) (T := TX0) (N := 11) (ws := [(L 9 f, hs_ct d L σ 9 f)]) (v := .ref (L 4 ((σ 9 f 0).toNatClampNeg))) hx hb hts (by decide +kernel) hown hK (hW.one (hs_ix9 (show f < 8 by omega))) 0 rfl rfl 0 (by decide) (hts (.fieldLink RX4 140 "Waxrow$Figure" "head" "LWaxrow$Person;") (by decide +kernel)) (fun _ h9 => h9) rfl dX4_tour_33 ?_
    refine va_get (D := D) (ci := cPe) (C := RX2) (T := TX2) (N := 8) (ws := [(L 4 ((σ 9 f 0).toNatClampNeg), hs_ct d L σ 4 ((σ 9 f 0).toNatClampNeg))]) (v := .int (σ 4 ((σ 9 f 0).toNatClampNeg) 5)) hx hb hts (by decide +kernel) hown hK (hW.one (hs_ix4 ((hok.hd f (by omega)).1))) 0 rfl rfl 5 (by decide) (hts (.fieldLink RX4 56 "Waxrow$Person" "consents" "Z") (by decide +kernel)) (fun _ h9 => h9) rfl dX4_tour_36 ?_
    refine lv_if_eq (tgt := 46) hx hb dX4_tour_39 (by decide) (fun c_39 => ?_) (fun c_39 => ?_)
    · refine lv_iconst (v := 0) hx hb dX4_tour_46 (by decide) ?_
      exact hx_runT (As := [.int 0]) ⟨hx, hb, hml, hown, hts⟩ (tX4_checkState l D d L σ A hl0 0 rfl) (va_cwS 1 hts gX4_tour_X4_checkState rfl rfl rfl (by decide +kernel) ⟨Nat.le_of_ble_eq_true rfl, Nat.le_of_ble_eq_true rfl⟩) hK hX hW hS rfl hl.1 (Nat.le_of_ble_eq_true rfl) dX4_tour_47 ⟨Nat.le_of_ble_eq_true rfl, Nat.le_of_ble_eq_true rfl⟩ rfl (fun ce q9 H1 locs1 hW hS hce hcv hcl => hx_out htb hlocks hK hW hS hce hcv hcl (by decide) (by decide))
    · refine lv_iconst (v := 1) hx hb dX4_tour_42 (by decide) ?_
      refine lv_goto (tgt := 47) hx hb dX4_tour_43 (by decide) ?_
      exact (h0.elim c_28 c_39).elim
set_option maxHeartbeats 4000000 in
set_option maxRecDepth 100000 in
/-- uX4_take_1 throws -/
theorem uX4_take_1 (l : Launch) (D : va_G) (d : hs_Dm) (L : hs_Lo) (σ : hs_St) (A : Nat → Prop) (w : Nat) (L2 : hs_Lo) (hwA : ¬ A w) (hl0 : l.stackTraces = false) (P F R : Nat) (hok : hs_ok P F R σ) (f : Nat) (hf : f < F) (h0 : sp_isShown σ f = 0) : wx_T l yX4_take wsX4_take ({ frames := 8, cells := 1, slots := 6, locals := 150 }) D d w L L2 σ A [.ref w, .int (nI f)] "java/lang/IllegalStateException" := by
  refine vx_ofW (cc := cX4_take) (maxL := 4) (ret := (some .int)) (by decide) rfl ?_
  intro p e s m args below meth c s₁ B hml htb hv
  obtain ⟨rfl, ⟨⟨hW, hK⟩, hX⟩, hV⟩ := hv
  have hE := hX.1
  have hx := B.exec
  have hb := B.bytes
  have hr := B.returns
  have hts := atoms_spec (ws := wsX4_take) B.pre
  have hown : s.vm.findClass RX4 = some m.cls := findClass_of_methodNamed B.named
  have hlocks := B.notSynchronized
  have hS : va_S A s.heap s.heap [] := va_S.rf
  have hW : hs_W D d L σ A s.heap := hW
  have hl := lv_entry ([.ref w, .int (nI f)]) (n := 4) (Nat.le_of_ble_eq_true rfl)
  rw [lg_entry_eq]
  generalize (lg_sl ([.ref w, .int (nI f)]) ++ List.replicate (4 - (lg_sl ([.ref w, .int (nI f)])).length) Slot.unset).toArray = ls at hl ⊢
  have hl : lv_has ls 4 [(0, .ref w), (1, .int (nI f))] := hl
  have h10 := hok.1
  have h8 := hok.2.1
  have h5 := hok.2.2.1
  have hd_ := hok.hd
  refine lv_aload_n hx hb dX4_take_0 rfl (lv_at hl 0 rfl) ?_
  refine va_get (D := D) (ci := cWx) (C := RX4) (T := TX4) (N := 2) (ws := [(w, .inr (cWx, [.ref (L 0 0), .ref (L2 0 0)]))]) (v := .ref (L 0 0)) hx hb hts (by decide +kernel) hown hK (wx_one hV hS hwA) 0 rfl rfl 0 (by decide) (hts (.fieldLink RX4 10 "Waxrow" "house" "LWaxrow$House;") (by decide +kernel)) (fun _ h9 => h9) rfl dX4_take_1 ?_
  refine lv_iload_n hx hb dX4_take_4 rfl (lv_at hl 1 rfl) ?_
  refine hs_callr (As := [.int (nI f)]) ⟨hx, hb, hml, hown, hts⟩ (kX1_figureAt l D d L σ A f F hok.hF hf hok.2.1) (cwV 1 hts gX4_take_X1_figureAt rfl rfl rfl (by decide +kernel) ⟨Nat.le_of_ble_eq_true rfl, Nat.le_of_ble_eq_true rfl⟩) hK hE hW hS hs_ix0 (ci := cHo) (r := (RX1, TX1, 11)) rfl rfl rfl rfl hl.1 (Nat.le_of_ble_eq_true rfl) dX4_take_5 ⟨Nat.zero_le _, Nat.zero_le _⟩ rfl (fun H locs hW hS => ?_)
  refine lv_astore_n (lv' := [(2, .ref (L 9 f)), (0, .ref w), (1, .int (nI f))]) hx hb dX4_take_8 rfl hl (by decide) rfl (fun ls hl => ?_)
  refine lv_aload_n hx hb dX4_take_9 rfl (lv_at hl 0 rfl) ?_
  refine hs_calli (As := []) ⟨hx, hb, hml, hown, hts⟩ (kX0_isShown l D d L σ A f (show f < 8 by omega)) (cwV 0 hts gX4_take_X0_isShown rfl rfl rfl (by decide +kernel) ⟨Nat.le_of_ble_eq_true rfl, Nat.le_of_ble_eq_true rfl⟩) hK hE hW hS (hs_ix9 (show f < 8 by omega)) (ci := cFi) (r := (RX0, TX0, 11)) rfl rfl rfl rfl hl.1 (Nat.le_of_ble_eq_true rfl) dX4_take_10 ⟨Nat.zero_le _, Nat.zero_le _⟩ rfl (fun r_ τ_ H locs hp hW hS => ?_)
  obtain ⟨rfl, rfl⟩ := hp
  exact hx_runT (As := [.int (sp_isShown σ f)]) ⟨hx, hb, hml, hown, hts⟩ (tX4_checkState l D d L σ A hl0 (sp_isShown σ f) h0) (va_cwS 1 hts gX4_take_X4_checkState rfl rfl rfl (by decide +kernel) ⟨Nat.le_of_ble_eq_true rfl, Nat.le_of_ble_eq_true rfl⟩) hK hX hW hS rfl hl.1 (Nat.le_of_ble_eq_true rfl) dX4_take_13 ⟨Nat.le_of_ble_eq_true rfl, Nat.le_of_ble_eq_true rfl⟩ rfl (fun ce q9 H1 locs1 hW hS hce hcv hcl => hx_out htb hlocks hK hW hS hce hcv hcl (by decide) (by decide))
set_option maxHeartbeats 4000000 in
set_option maxRecDepth 100000 in
/-- uX4_lamps_1 throws -/
theorem uX4_lamps_1 (l : Launch) (D : va_G) (d : hs_Dm) (L : hs_Lo) (σ : hs_St) (A : Nat → Prop) (w : Nat) (L2 : hs_Lo) (hwA : ¬ A w) (hl0 : l.stackTraces = false) (P F R : Nat) (hok : hs_ok P F R σ) (r : Nat) (hr5 : r < R) (y : Int32) (h0 : y < 0 ∨ ¬ y ≤ 9) : wx_T l yX4_lamps wsX4_lamps ({ frames := 8, cells := 1, slots := 6, locals := 150 }) D d w L L2 σ A [.ref w, .int (nI r), .int y] "java/lang/IllegalArgumentException" := by
  refine vx_ofW (cc := cX4_lamps) (maxL := 5) (ret := (some .int)) (by decide) rfl ?_
  intro p e s m args below meth c s₁ B hml htb hv
  obtain ⟨rfl, ⟨⟨hW, hK⟩, hX⟩, hV⟩ := hv
  have hE := hX.1
  have hx := B.exec
  have hb := B.bytes
  have hr := B.returns
  have hts := atoms_spec (ws := wsX4_lamps) B.pre
  have hown : s.vm.findClass RX4 = some m.cls := findClass_of_methodNamed B.named
  have hlocks := B.notSynchronized
  have hS : va_S A s.heap s.heap [] := va_S.rf
  have hW : hs_W D d L σ A s.heap := hW
  have hl := lv_entry ([.ref w, .int (nI r), .int y]) (n := 5) (Nat.le_of_ble_eq_true rfl)
  rw [lg_entry_eq]
  generalize (lg_sl ([.ref w, .int (nI r), .int y]) ++ List.replicate (5 - (lg_sl ([.ref w, .int (nI r), .int y])).length) Slot.unset).toArray = ls at hl ⊢
  have hl : lv_has ls 5 [(0, .ref w), (1, .int (nI r)), (2, .int y)] := hl
  have h10 := hok.1
  have h8 := hok.2.1
  have h5 := hok.2.2.1
  have hd_ := hok.hd
  refine lv_aload_n hx hb dX4_lamps_0 rfl (lv_at hl 0 rfl) ?_
  refine va_get (D := D) (ci := cWx) (C := RX4) (T := TX4) (N := 2) (ws := [(w, .inr (cWx, [.ref (L 0 0), .ref (L2 0 0)]))]) (v := .ref (L 0 0)) hx hb hts (by decide +kernel) hown hK (wx_one hV hS hwA) 0 rfl rfl 0 (by decide) (hts (.fieldLink RX4 10 "Waxrow" "house" "LWaxrow$House;") (by decide +kernel)) (fun _ h9 => h9) rfl dX4_lamps_1 ?_
  refine lv_iload_n hx hb dX4_lamps_4 rfl (lv_at hl 1 rfl) ?_
  refine hs_callr (As := [.int (nI r)]) ⟨hx, hb, hml, hown, hts⟩ (kX1_roomAt l D d L σ A r R hok.hR hr5 hok.2.2.1) (cwV 1 hts gX4_lamps_X1_roomAt rfl rfl rfl (by decide +kernel) ⟨Nat.le_of_ble_eq_true rfl, Nat.le_of_ble_eq_true rfl⟩) hK hE hW hS hs_ix0 (ci := cHo) (r := (RX1, TX1, 11)) rfl rfl rfl rfl hl.1 (Nat.le_of_ble_eq_true rfl) dX4_lamps_5 ⟨Nat.zero_le _, Nat.zero_le _⟩ rfl (fun H locs hW hS => ?_)
  refine lv_astore_n (lv' := [(3, .ref (L 10 r)), (0, .ref w), (1, .int (nI r)), (2, .int y)]) hx hb dX4_lamps_8 rfl hl (by decide) rfl (fun ls hl => ?_)
  refine lv_iload_n hx hb dX4_lamps_9 rfl (lv_at hl 3 rfl) ?_
  refine lv_iconst (v := 0) hx hb dX4_lamps_10 (by decide) ?_
  refine lv_bipush (v := 9) hx hb dX4_lamps_11 (by decide) ?_
  exact hx_runT (As := [.int y, .int 0, .int 9]) ⟨hx, hb, hml, hown, hts⟩ (tX4_checkArgument l D d L σ A hl0 y 0 9 h0) (va_cwS 3 hts gX4_lamps_X4_checkArgument rfl rfl rfl (by decide +kernel) ⟨Nat.le_of_ble_eq_true rfl, Nat.le_of_ble_eq_true rfl⟩) hK hX hW hS rfl hl.1 (Nat.le_of_ble_eq_true rfl) dX4_lamps_13 ⟨Nat.le_of_ble_eq_true rfl, Nat.le_of_ble_eq_true rfl⟩ rfl (fun ce q9 H1 locs1 hW hS hce hcv hcl => hx_out htb hlocks hK hW hS hce hcv hcl (by decide) (by decide))
set_option maxHeartbeats 4000000 in
set_option maxRecDepth 100000 in
/-- uX4_show_1 throws -/
theorem uX4_show_1 (l : Launch) (D : va_G) (d : hs_Dm) (L : hs_Lo) (σ : hs_St) (A : Nat → Prop) (w : Nat) (L2 : hs_Lo) (hwA : ¬ A w) (hl0 : l.stackTraces = false) (P F R : Nat) (hok : hs_ok P F R σ) (f : Nat) (hf : f < F) (y : Int32) (h0 : y < 0 ∨ ¬ y < σ 0 0 5) : wx_T l yX4_show wsX4_show ({ frames := 8, cells := 1, slots := 6, locals := 150 }) D d w L L2 σ A [.ref w, .int (nI f), .int y] "java/lang/IndexOutOfBoundsException" := by
  refine vx_ofW (cc := cX4_show) (maxL := 5) (ret := (some .int)) (by decide) rfl ?_
  intro p e s m args below meth c s₁ B hml htb hv
  obtain ⟨rfl, ⟨⟨hW, hK⟩, hX⟩, hV⟩ := hv
  have hE := hX.1
  have hx := B.exec
  have hb := B.bytes
  have hr := B.returns
  have hts := atoms_spec (ws := wsX4_show) B.pre
  have hown : s.vm.findClass RX4 = some m.cls := findClass_of_methodNamed B.named
  have hlocks := B.notSynchronized
  have hS : va_S A s.heap s.heap [] := va_S.rf
  have hW : hs_W D d L σ A s.heap := hW
  have hl := lv_entry ([.ref w, .int (nI f), .int y]) (n := 5) (Nat.le_of_ble_eq_true rfl)
  rw [lg_entry_eq]
  generalize (lg_sl ([.ref w, .int (nI f), .int y]) ++ List.replicate (5 - (lg_sl ([.ref w, .int (nI f), .int y])).length) Slot.unset).toArray = ls at hl ⊢
  have hl : lv_has ls 5 [(0, .ref w), (1, .int (nI f)), (2, .int y)] := hl
  have h10 := hok.1
  have h8 := hok.2.1
  have h5 := hok.2.2.1
  have hd_ := hok.hd
  refine lv_aload_n hx hb dX4_show_0 rfl (lv_at hl 0 rfl) ?_
  refine va_get (D := D) (ci := cWx) (C := RX4) (T := TX4) (N := 2) (ws := [(w, .inr (cWx, [.ref (L 0 0), .ref (L2 0 0)]))]) (v := .ref (L 0 0)) hx hb hts (by decide +kernel) hown hK (wx_one hV hS hwA) 0 rfl rfl 0 (by decide) (hts (.fieldLink RX4 10 "Waxrow" "house" "LWaxrow$House;") (by decide +kernel)) (fun _ h9 => h9) rfl dX4_show_1 ?_
  refine lv_iload_n hx hb dX4_show_4 rfl (lv_at hl 1 rfl) ?_
  refine hs_callr (As := [.int (nI f)]) ⟨hx, hb, hml, hown, hts⟩ (kX1_figureAt l D d L σ A f F hok.hF hf hok.2.1) (cwV 1 hts gX4_show_X1_figureAt rfl rfl rfl (by decide +kernel) ⟨Nat.le_of_ble_eq_true rfl, Nat.le_of_ble_eq_true rfl⟩) hK hE hW hS hs_ix0 (ci := cHo) (r := (RX1, TX1, 11)) rfl rfl rfl rfl hl.1 (Nat.le_of_ble_eq_true rfl) dX4_show_5 ⟨Nat.zero_le _, Nat.zero_le _⟩ rfl (fun H locs hW hS => ?_)
  refine lv_astore_n (lv' := [(3, .ref (L 9 f)), (0, .ref w), (1, .int (nI f)), (2, .int y)]) hx hb dX4_show_8 rfl hl (by decide) rfl (fun ls hl => ?_)
  refine lv_aload_n hx hb dX4_show_9 rfl (lv_at hl 1 rfl) ?_
  refine va_get (D := D) (ci := cWx) (C := RX4) (T := TX4) (N := 2) (ws := [(w, .inr (cWx, [.ref (L 0 0), .ref (L2 0 0)]))]) (v := .ref (L 0 0)) hx hb hts (by decide +kernel) hown hK (wx_one hV hS hwA) 0 rfl rfl 0 (by decide) (hts (.fieldLink RX4 10 "Waxrow" "house" "LWaxrow$House;") (by decide +kernel)) (fun _ h9 => h9) rfl dX4_show_10 ?_
  refine lv_iload_n hx hb dX4_show_13 rfl (lv_at hl 3 rfl) ?_
  exact hx_callT (As := [.int y]) ⟨hx, hb, hml, hown, hts⟩ (tX1_roomAt l D d L σ A hl0 y h0) (cwV 1 hts gX4_show_X1_roomAt rfl rfl rfl (by decide +kernel) ⟨Nat.le_of_ble_eq_true rfl, Nat.le_of_ble_eq_true rfl⟩) hK hX hW hS hs_ix0 (ci := cHo) (r := (RX1, TX1, 11)) rfl rfl rfl rfl hl.1 (Nat.le_of_ble_eq_true rfl) dX4_show_14 ⟨Nat.le_of_ble_eq_true rfl, Nat.le_of_ble_eq_true rfl⟩ rfl (fun ce q9 H1 locs1 hW hS hce hcv hcl => hx_out htb hlocks hK hW hS hce hcv hcl (by decide) (by decide))
set_option maxHeartbeats 4000000 in
set_option maxRecDepth 100000 in
/-- uX4_show_2 throws -/
theorem uX4_show_2 (l : Launch) (D : va_G) (d : hs_Dm) (L : hs_Lo) (σ : hs_St) (A : Nat → Prop) (w : Nat) (L2 : hs_Lo) (hwA : ¬ A w) (hl0 : l.stackTraces = false) (P F R : Nat) (hok : hs_ok P F R σ) (f : Nat) (hf : f < F) (r : Nat) (hr5 : r < R) (h0 : sp_isReady σ f = 0 ∨ σ 4 (σ 9 f 0).toNatClampNeg 5 = 0) : wx_T l yX4_show wsX4_show ({ frames := 8, cells := 1, slots := 6, locals := 150 }) D d w L L2 σ A [.ref w, .int (nI f), .int (nI r)] "java/lang/IllegalStateException" := by
  refine vx_ofW (cc := cX4_show) (maxL := 5) (ret := (some .int)) (by decide) rfl ?_
  intro p e s m args below meth c s₁ B hml htb hv
  obtain ⟨rfl, ⟨⟨hW, hK⟩, hX⟩, hV⟩ := hv
  have hE := hX.1
  have hx := B.exec
  have hb := B.bytes
  have hr := B.returns
  have hts := atoms_spec (ws := wsX4_show) B.pre
  have hown : s.vm.findClass RX4 = some m.cls := findClass_of_methodNamed B.named
  have hlocks := B.notSynchronized
  have hS : va_S A s.heap s.heap [] := va_S.rf
  have hW : hs_W D d L σ A s.heap := hW
  have hl := lv_entry ([.ref w, .int (nI f), .int (nI r)]) (n := 5) (Nat.le_of_ble_eq_true rfl)
  rw [lg_entry_eq]
  generalize (lg_sl ([.ref w, .int (nI f), .int (nI r)]) ++ List.replicate (5 - (lg_sl ([.ref w, .int (nI f), .int (nI r)])).length) Slot.unset).toArray = ls at hl ⊢
  have hl : lv_has ls 5 [(0, .ref w), (1, .int (nI f)), (2, .int (nI r))] := hl
  have h10 := hok.1
  have h8 := hok.2.1
  have h5 := hok.2.2.1
  have hd_ := hok.hd
  refine lv_aload_n hx hb dX4_show_0 rfl (lv_at hl 0 rfl) ?_
  refine va_get (D := D) (ci := cWx) (C := RX4) (T := TX4) (N := 2) (ws := [(w, .inr (cWx, [.ref (L 0 0), .ref (L2 0 0)]))]) (v := .ref (L 0 0)) hx hb hts (by decide +kernel) hown hK (wx_one hV hS hwA) 0 rfl rfl 0 (by decide) (hts (.fieldLink RX4 10 "Waxrow" "house" "LWaxrow$House;") (by decide +kernel)) (fun _ h9 => h9) rfl dX4_show_1 ?_
  refine lv_iload_n hx hb dX4_show_4 rfl (lv_at hl 1 rfl) ?_
  refine hs_callr (As := [.int (nI f)]) ⟨hx, hb, hml, hown, hts⟩ (kX1_figureAt l D d L σ A f F hok.hF hf hok.2.1) (cwV 1 hts gX4_show_X1_figureAt rfl rfl rfl (by decide +kernel) ⟨Nat.le_of_ble_eq_true rfl, Nat.le_of_ble_eq_true rfl⟩) hK hE hW hS hs_ix0 (ci := cHo) (r := (RX1, TX1, 11)) rfl rfl rfl rfl hl.1 (Nat.le_of_ble_eq_true rfl) dX4_show_5 ⟨Nat.zero_le _, Nat.zero_le _⟩ rfl (fun H locs hW hS => ?_)
  refine lv_astore_n (lv' := [(3, .ref (L 9 f)), (0, .ref w), (1, .int (nI f)), (2, .int (nI r))]) hx hb dX4_show_8 rfl hl (by decide) rfl (fun ls hl => ?_)
  refine lv_aload_n hx hb dX4_show_9 rfl (lv_at hl 1 rfl) ?_
  refine va_get (D := D) (ci := cWx) (C := RX4) (T := TX4) (N := 2) (ws := [(w, .inr (cWx, [.ref (L 0 0), .ref (L2 0 0)]))]) (v := .ref (L 0 0)) hx hb hts (by decide +kernel) hown hK (wx_one hV hS hwA) 0 rfl rfl 0 (by decide) (hts (.fieldLink RX4 10 "Waxrow" "house" "LWaxrow$House;") (by decide +kernel)) (fun _ h9 => h9) rfl dX4_show_10 ?_
  refine lv_iload_n hx hb dX4_show_13 rfl (lv_at hl 3 rfl) ?_
  refine hs_callr (As := [.int (nI r)]) ⟨hx, hb, hml, hown, hts⟩ (kX1_roomAt l D d L σ A r R hok.hR hr5 hok.2.2.1) (cwV 1 hts gX4_show_X1_roomAt rfl rfl rfl (by decide +kernel) ⟨Nat.le_of_ble_eq_true rfl, Nat.le_of_ble_eq_true rfl⟩) hK hE hW hS hs_ix0 (ci := cHo) (r := (RX1, TX1, 11)) rfl rfl rfl rfl hl.1 (Nat.le_of_ble_eq_true rfl) dX4_show_14 ⟨Nat.zero_le _, Nat.zero_le _⟩ rfl (fun H locs hW hS => ?_)
  refine lv_astore (lv' := [(4, .ref (L 10 r)), (3, .ref (L 9 f)), (0, .ref w), (1, .int (nI f)), (2, .int (nI r))]) hx hb dX4_show_17 hl (by decide) rfl (fun ls hl => ?_)
  refine lv_aload_n hx hb dX4_show_19 rfl (lv_at hl 1 rfl) ?_
  refine hs_calli (As := []) ⟨hx, hb, hml, hown, hts⟩ (kX0_isReadyInStore l D d L σ A f (show f < 8 by omega)) (cwV 0 hts gX4_show_X0_isReadyInStore rfl rfl rfl (by decide +kernel) ⟨Nat.le_of_ble_eq_true rfl, Nat.le_of_ble_eq_true rfl⟩) hK hE hW hS (hs_ix9 (show f < 8 by omega)) (ci := cFi) (r := (RX0, TX0, 11)) rfl rfl rfl rfl hl.1 (Nat.le_of_ble_eq_true rfl) dX4_show_20 ⟨Nat.zero_le _, Nat.zero_le _⟩ rfl (fun r_ τ_ H locs hp hW hS => ?_)
  obtain ⟨rfl, rfl⟩ := hp
  refine lv_if_eq (tgt := 40) hx hb dX4_show_23 (by decide) (fun c_23 => ?_) (fun c_23 => ?_)
  · refine lv_iconst (v := 0) hx hb dX4_show_40 (by decide) ?_
    exact hx_runT (As := [.int 0]) ⟨hx, hb, hml, hown, hts⟩ (tX4_checkState l D d L σ A hl0 0 rfl) (va_cwS 1 hts gX4_show_X4_checkState rfl rfl rfl (by decide +kernel) ⟨Nat.le_of_ble_eq_true rfl, Nat.le_of_ble_eq_true rfl⟩) hK hX hW hS rfl hl.1 (Nat.le_of_ble_eq_true rfl) dX4_show_41 ⟨Nat.le_of_ble_eq_true rfl, Nat.le_of_ble_eq_true rfl⟩ rfl (fun ce q9 H1 locs1 hW hS hce hcv hcl => hx_out htb hlocks hK hW hS hce hcv hcl (by decide) (by decide))
  · refine lv_aload_n hx hb dX4_show_26 rfl (lv_at hl 1 rfl) ?_
    refine va_get (D := D) (ci := cFi) (C := RX0) (T := TX0) (N := 11) (ws := [(L 9 f, hs_ct d L σ 9 f)]) (v := .ref (L 4 ((σ 9 f 0).toNatClampNeg))) hx hb hts (by decide +kernel) hown hK (hW.one (hs_ix9 (show f < 8 by omega))) 0 rfl rfl 0 (by decide) (hts (.fieldLink RX4 140 "Waxrow$Figure" "head" "LWaxrow$Person;") (by decide +kernel)) (fun _ h9 => h9) rfl dX4_show_27 ?_
    refine va_get (D := D) (ci := cPe) (C := RX2) (T := TX2) (N := 8) (ws := [(L 4 ((σ 9 f 0).toNatClampNeg), hs_ct d L σ 4 ((σ 9 f 0).toNatClampNeg))]) (v := .int (σ 4 ((σ 9 f 0).toNatClampNeg) 5)) hx hb hts (by decide +kernel) hown hK (hW.one (hs_ix4 ((hok.hd f (by omega)).1))) 0 rfl rfl 5 (by decide) (hts (.fieldLink RX4 56 "Waxrow$Person" "consents" "Z") (by decide +kernel)) (fun _ h9 => h9) rfl dX4_show_30 ?_
    refine lv_if_eq (tgt := 40) hx hb dX4_show_33 (by decide) (fun c_33 => ?_) (fun c_33 => ?_)
    · refine lv_iconst (v := 0) hx hb dX4_show_40 (by decide) ?_
      exact hx_runT (As := [.int 0]) ⟨hx, hb, hml, hown, hts⟩ (tX4_checkState l D d L σ A hl0 0 rfl) (va_cwS 1 hts gX4_show_X4_checkState rfl rfl rfl (by decide +kernel) ⟨Nat.le_of_ble_eq_true rfl, Nat.le_of_ble_eq_true rfl⟩) hK hX hW hS rfl hl.1 (Nat.le_of_ble_eq_true rfl) dX4_show_41 ⟨Nat.le_of_ble_eq_true rfl, Nat.le_of_ble_eq_true rfl⟩ rfl (fun ce q9 H1 locs1 hW hS hce hcv hcl => hx_out htb hlocks hK hW hS hce hcv hcl (by decide) (by decide))
    · refine lv_iconst (v := 1) hx hb dX4_show_36 (by decide) ?_
      refine lv_goto (tgt := 41) hx hb dX4_show_37 (by decide) ?_
      exact (h0.elim c_23 c_33).elim
set_option maxHeartbeats 4000000 in
set_option maxRecDepth 100000 in
/-- uX4_show_3 throws -/
theorem uX4_show_3 (l : Launch) (D : va_G) (d : hs_Dm) (L : hs_Lo) (σ : hs_St) (A : Nat → Prop) (w : Nat) (L2 : hs_Lo) (hwA : ¬ A w) (hl0 : l.stackTraces = false) (P F R : Nat) (hok : hs_ok P F R σ) (f : Nat) (hf : f < F) (r : Nat) (hr5 : r < R) (hrd : ¬ sp_isReady σ f = 0) (hcs : ¬ σ 4 (σ 9 f 0).toNatClampNeg 5 = 0) (h0 : sp_likeness σ f < 30) : wx_T l yX4_show wsX4_show ({ frames := 8, cells := 1, slots := 6, locals := 150 }) D d w L L2 σ A [.ref w, .int (nI f), .int (nI r)] "java/lang/IllegalStateException" := by
  refine vx_ofW (cc := cX4_show) (maxL := 5) (ret := (some .int)) (by decide) rfl ?_
  intro p e s m args below meth c s₁ B hml htb hv
  obtain ⟨rfl, ⟨⟨hW, hK⟩, hX⟩, hV⟩ := hv
  have hE := hX.1
  have hx := B.exec
  have hb := B.bytes
  have hr := B.returns
  have hts := atoms_spec (ws := wsX4_show) B.pre
  have hown : s.vm.findClass RX4 = some m.cls := findClass_of_methodNamed B.named
  have hlocks := B.notSynchronized
  have hS : va_S A s.heap s.heap [] := va_S.rf
  have hW : hs_W D d L σ A s.heap := hW
  have hl := lv_entry ([.ref w, .int (nI f), .int (nI r)]) (n := 5) (Nat.le_of_ble_eq_true rfl)
  rw [lg_entry_eq]
  generalize (lg_sl ([.ref w, .int (nI f), .int (nI r)]) ++ List.replicate (5 - (lg_sl ([.ref w, .int (nI f), .int (nI r)])).length) Slot.unset).toArray = ls at hl ⊢
  have hl : lv_has ls 5 [(0, .ref w), (1, .int (nI f)), (2, .int (nI r))] := hl
  have h10 := hok.1
  have h8 := hok.2.1
  have h5 := hok.2.2.1
  have hd_ := hok.hd
  refine lv_aload_n hx hb dX4_show_0 rfl (lv_at hl 0 rfl) ?_
  refine va_get (D := D) (ci := cWx) (C := RX4) (T := TX4) (N := 2) (ws := [(w, .inr (cWx, [.ref (L 0 0), .ref (L2 0 0)]))]) (v := .ref (L 0 0)) hx hb hts (by decide +kernel) hown hK (wx_one hV hS hwA) 0 rfl rfl 0 (by decide) (hts (.fieldLink RX4 10 "Waxrow" "house" "LWaxrow$House;") (by decide +kernel)) (fun _ h9 => h9) rfl dX4_show_1 ?_
  refine lv_iload_n hx hb dX4_show_4 rfl (lv_at hl 1 rfl) ?_
  refine hs_callr (As := [.int (nI f)]) ⟨hx, hb, hml, hown, hts⟩ (kX1_figureAt l D d L σ A f F hok.hF hf hok.2.1) (cwV 1 hts gX4_show_X1_figureAt rfl rfl rfl (by decide +kernel) ⟨Nat.le_of_ble_eq_true rfl, Nat.le_of_ble_eq_true rfl⟩) hK hE hW hS hs_ix0 (ci := cHo) (r := (RX1, TX1, 11)) rfl rfl rfl rfl hl.1 (Nat.le_of_ble_eq_true rfl) dX4_show_5 ⟨Nat.zero_le _, Nat.zero_le _⟩ rfl (fun H locs hW hS => ?_)
  refine lv_astore_n (lv' := [(3, .ref (L 9 f)), (0, .ref w), (1, .int (nI f)), (2, .int (nI r))]) hx hb dX4_show_8 rfl hl (by decide) rfl (fun ls hl => ?_)
  refine lv_aload_n hx hb dX4_show_9 rfl (lv_at hl 1 rfl) ?_
  refine va_get (D := D) (ci := cWx) (C := RX4) (T := TX4) (N := 2) (ws := [(w, .inr (cWx, [.ref (L 0 0), .ref (L2 0 0)]))]) (v := .ref (L 0 0)) hx hb hts (by decide +kernel) hown hK (wx_one hV hS hwA) 0 rfl rfl 0 (by decide) (hts (.fieldLink RX4 10 "Waxrow" "house" "LWaxrow$House;") (by decide +kernel)) (fun _ h9 => h9) rfl dX4_show_10 ?_
  refine lv_iload_n hx hb dX4_show_13 rfl (lv_at hl 3 rfl) ?_
  refine hs_callr (As := [.int (nI r)]) ⟨hx, hb, hml, hown, hts⟩ (kX1_roomAt l D d L σ A r R hok.hR hr5 hok.2.2.1) (cwV 1 hts gX4_show_X1_roomAt rfl rfl rfl (by decide +kernel) ⟨Nat.le_of_ble_eq_true rfl, Nat.le_of_ble_eq_true rfl⟩) hK hE hW hS hs_ix0 (ci := cHo) (r := (RX1, TX1, 11)) rfl rfl rfl rfl hl.1 (Nat.le_of_ble_eq_true rfl) dX4_show_14 ⟨Nat.zero_le _, Nat.zero_le _⟩ rfl (fun H locs hW hS => ?_)
  refine lv_astore (lv' := [(4, .ref (L 10 r)), (3, .ref (L 9 f)), (0, .ref w), (1, .int (nI f)), (2, .int (nI r))]) hx hb dX4_show_17 hl (by decide) rfl (fun ls hl => ?_)
  refine lv_aload_n hx hb dX4_show_19 rfl (lv_at hl 1 rfl) ?_
  refine hs_calli (As := []) ⟨hx, hb, hml, hown, hts⟩ (kX0_isReadyInStore l D d L σ A f (show f < 8 by omega)) (cwV 0 hts gX4_show_X0_isReadyInStore rfl rfl rfl (by decide +kernel) ⟨Nat.le_of_ble_eq_true rfl, Nat.le_of_ble_eq_true rfl⟩) hK hE hW hS (hs_ix9 (show f < 8 by omega)) (ci := cFi) (r := (RX0, TX0, 11)) rfl rfl rfl rfl hl.1 (Nat.le_of_ble_eq_true rfl) dX4_show_20 ⟨Nat.zero_le _, Nat.zero_le _⟩ rfl (fun r_ τ_ H locs hp hW hS => ?_)
  obtain ⟨rfl, rfl⟩ := hp
  refine lv_if_eq (tgt := 40) hx hb dX4_show_23 (by decide) (fun c_23 => ?_) (fun c_23 => ?_)
  · exact absurd c_23 hrd
  · refine lv_aload_n hx hb dX4_show_26 rfl (lv_at hl 1 rfl) ?_
    refine va_get (D := D) (ci := cFi) (C := RX0) (T := TX0) (N := 11) (ws := [(L 9 f, hs_ct d L σ 9 f)]) (v := .ref (L 4 ((σ 9 f 0).toNatClampNeg))) hx hb hts (by decide +kernel) hown hK (hW.one (hs_ix9 (show f < 8 by omega))) 0 rfl rfl 0 (by decide) (hts (.fieldLink RX4 140 "Waxrow$Figure" "head" "LWaxrow$Person;") (by decide +kernel)) (fun _ h9 => h9) rfl dX4_show_27 ?_
    refine va_get (D := D) (ci := cPe) (C := RX2) (T := TX2) (N := 8) (ws := [(L 4 ((σ 9 f 0).toNatClampNeg), hs_ct d L σ 4 ((σ 9 f 0).toNatClampNeg))]) (v := .int (σ 4 ((σ 9 f 0).toNatClampNeg) 5)) hx hb hts (by decide +kernel) hown hK (hW.one (hs_ix4 ((hok.hd f (by omega)).1))) 0 rfl rfl 5 (by decide) (hts (.fieldLink RX4 56 "Waxrow$Person" "consents" "Z") (by decide +kernel)) (fun _ h9 => h9) rfl dX4_show_30 ?_
    refine lv_if_eq (tgt := 40) hx hb dX4_show_33 (by decide) (fun c_33 => ?_) (fun c_33 => ?_)
    · exact absurd c_33 hcs
    · refine lv_iconst (v := 1) hx hb dX4_show_36 (by decide) ?_
      refine lv_goto (tgt := 41) hx hb dX4_show_37 (by decide) ?_
      refine hs_runv (As := [.int 1]) ⟨hx, hb, hml, hown, hts⟩ (kX4_checkState l D d L σ A 1 (by decide +kernel)) (va_cwS 1 hts gX4_show_X4_checkState rfl rfl rfl (by decide +kernel) ⟨Nat.le_of_ble_eq_true rfl, Nat.le_of_ble_eq_true rfl⟩) hK hE hW hS rfl hl.1 (Nat.le_of_ble_eq_true rfl) dX4_show_41 ⟨Nat.zero_le _, Nat.zero_le _⟩ rfl (fun τ_ H locs hp hW hS => ?_)
      obtain rfl := hp
      refine lv_aload_n hx hb dX4_show_44 rfl (lv_at hl 1 rfl) ?_
      refine hs_calli (As := []) ⟨hx, hb, hml, hown, hts⟩ (kX0_likeness l D d L σ A f (show f < 8 by omega) hok.hd) (cwV 0 hts gX4_show_X0_likeness rfl rfl rfl (by decide +kernel) ⟨Nat.le_of_ble_eq_true rfl, Nat.le_of_ble_eq_true rfl⟩) hK hE hW hS (hs_ix9 (show f < 8 by omega)) (ci := cFi) (r := (RX0, TX0, 11)) rfl rfl rfl rfl hl.1 (Nat.le_of_ble_eq_true rfl) dX4_show_45 ⟨Nat.zero_le _, Nat.zero_le _⟩ rfl (fun r_ τ_ H locs hp hW hS => ?_)
      obtain ⟨rfl, rfl⟩ := hp
      refine lv_bipush (v := 30) hx hb dX4_show_48 (by decide) ?_
      refine lv_icmp_lt (tgt := 57) hx hb dX4_show_50 (by decide) (fun c_50 => ?_) (fun c_50 => ?_)
      · refine lv_iconst (v := 0) hx hb dX4_show_57 (by decide) ?_
        exact hx_runT (As := [.int 0]) ⟨hx, hb, hml, hown, hts⟩ (tX4_checkState l D d L σ A hl0 0 rfl) (va_cwS 1 hts gX4_show_X4_checkState rfl rfl rfl (by decide +kernel) ⟨Nat.le_of_ble_eq_true rfl, Nat.le_of_ble_eq_true rfl⟩) hK hX hW hS rfl hl.1 (Nat.le_of_ble_eq_true rfl) dX4_show_58 ⟨Nat.le_of_ble_eq_true rfl, Nat.le_of_ble_eq_true rfl⟩ rfl (fun ce q9 H1 locs1 hW hS hce hcv hcl => hx_out htb hlocks hK hW hS hce hcv hcl (by decide) (by decide))
      · refine lv_iconst (v := 1) hx hb dX4_show_53 (by decide) ?_
        refine lv_goto (tgt := 58) hx hb dX4_show_54 (by decide) ?_
        exact absurd h0 c_50
set_option maxHeartbeats 4000000 in
set_option maxRecDepth 100000 in
/-- uX4_show_4 throws -/
theorem uX4_show_4 (l : Launch) (D : va_G) (d : hs_Dm) (L : hs_Lo) (σ : hs_St) (A : Nat → Prop) (w : Nat) (L2 : hs_Lo) (hwA : ¬ A w) (hl0 : l.stackTraces = false) (P F R : Nat) (hok : hs_ok P F R σ) (f : Nat) (hf : f < F) (r : Nat) (hr5 : r < R) (hrd : ¬ sp_isReady σ f = 0) (hcs : ¬ σ 4 (σ 9 f 0).toNatClampNeg 5 = 0) (hlk : ¬ sp_likeness σ f < 30) (h0 : σ 10 r 1 ≤ sp_figIn σ (nI r) (nI r) F) : wx_T l yX4_show wsX4_show ({ frames := 8, cells := 1, slots := 6, locals := 150 }) D d w L L2 σ A [.ref w, .int (nI f), .int (nI r)] "java/lang/IllegalStateException" := by
  refine vx_ofW (cc := cX4_show) (maxL := 5) (ret := (some .int)) (by decide) rfl ?_
  intro p e s m args below meth c s₁ B hml htb hv
  obtain ⟨rfl, ⟨⟨hW, hK⟩, hX⟩, hV⟩ := hv
  have hE := hX.1
  have hx := B.exec
  have hb := B.bytes
  have hr := B.returns
  have hts := atoms_spec (ws := wsX4_show) B.pre
  have hown : s.vm.findClass RX4 = some m.cls := findClass_of_methodNamed B.named
  have hlocks := B.notSynchronized
  have hS : va_S A s.heap s.heap [] := va_S.rf
  have hW : hs_W D d L σ A s.heap := hW
  have hl := lv_entry ([.ref w, .int (nI f), .int (nI r)]) (n := 5) (Nat.le_of_ble_eq_true rfl)
  rw [lg_entry_eq]
  generalize (lg_sl ([.ref w, .int (nI f), .int (nI r)]) ++ List.replicate (5 - (lg_sl ([.ref w, .int (nI f), .int (nI r)])).length) Slot.unset).toArray = ls at hl ⊢
  have hl : lv_has ls 5 [(0, .ref w), (1, .int (nI f)), (2, .int (nI r))] := hl
  have h10 := hok.1
  have h8 := hok.2.1
  have h5 := hok.2.2.1
  have hd_ := hok.hd
  refine lv_aload_n hx hb dX4_show_0 rfl (lv_at hl 0 rfl) ?_
  refine va_get (D := D) (ci := cWx) (C := RX4) (T := TX4) (N := 2) (ws := [(w, .inr (cWx, [.ref (L 0 0), .ref (L2 0 0)]))]) (v := .ref (L 0 0)) hx hb hts (by decide +kernel) hown hK (wx_one hV hS hwA) 0 rfl rfl 0 (by decide) (hts (.fieldLink RX4 10 "Waxrow" "house" "LWaxrow$House;") (by decide +kernel)) (fun _ h9 => h9) rfl dX4_show_1 ?_
  refine lv_iload_n hx hb dX4_show_4 rfl (lv_at hl 1 rfl) ?_
  refine hs_callr (As := [.int (nI f)]) ⟨hx, hb, hml, hown, hts⟩ (kX1_figureAt l D d L σ A f F hok.hF hf hok.2.1) (cwV 1 hts gX4_show_X1_figureAt rfl rfl rfl (by decide +kernel) ⟨Nat.le_of_ble_eq_true rfl, Nat.le_of_ble_eq_true rfl⟩) hK hE hW hS hs_ix0 (ci := cHo) (r := (RX1, TX1, 11)) rfl rfl rfl rfl hl.1 (Nat.le_of_ble_eq_true rfl) dX4_show_5 ⟨Nat.zero_le _, Nat.zero_le _⟩ rfl (fun H locs hW hS => ?_)
  refine lv_astore_n (lv' := [(3, .ref (L 9 f)), (0, .ref w), (1, .int (nI f)), (2, .int (nI r))]) hx hb dX4_show_8 rfl hl (by decide) rfl (fun ls hl => ?_)
  refine lv_aload_n hx hb dX4_show_9 rfl (lv_at hl 1 rfl) ?_
  refine va_get (D := D) (ci := cWx) (C := RX4) (T := TX4) (N := 2) (ws := [(w, .inr (cWx, [.ref (L 0 0), .ref (L2 0 0)]))]) (v := .ref (L 0 0)) hx hb hts (by decide +kernel) hown hK (wx_one hV hS hwA) 0 rfl rfl 0 (by decide) (hts (.fieldLink RX4 10 "Waxrow" "house" "LWaxrow$House;") (by decide +kernel)) (fun _ h9 => h9) rfl dX4_show_10 ?_
  refine lv_iload_n hx hb dX4_show_13 rfl (lv_at hl 3 rfl) ?_
  refine hs_callr (As := [.int (nI r)]) ⟨hx, hb, hml, hown, hts⟩ (kX1_roomAt l D d L σ A r R hok.hR hr5 hok.2.2.1) (cwV 1 hts gX4_show_X1_roomAt rfl rfl rfl (by decide +kernel) ⟨Nat.le_of_ble_eq_true rfl, Nat.le_of_ble_eq_true rfl⟩) hK hE hW hS hs_ix0 (ci := cHo) (r := (RX1, TX1, 11)) rfl rfl rfl rfl hl.1 (Nat.le_of_ble_eq_true rfl) dX4_show_14 ⟨Nat.zero_le _, Nat.zero_le _⟩ rfl (fun H locs hW hS => ?_)
  refine lv_astore (lv' := [(4, .ref (L 10 r)), (3, .ref (L 9 f)), (0, .ref w), (1, .int (nI f)), (2, .int (nI r))]) hx hb dX4_show_17 hl (by decide) rfl (fun ls hl => ?_)
  refine lv_aload_n hx hb dX4_show_19 rfl (lv_at hl 1 rfl) ?_
  refine hs_calli (As := []) ⟨hx, hb, hml, hown, hts⟩ (kX0_isReadyInStore l D d L σ A f (show f < 8 by omega)) (cwV 0 hts gX4_show_X0_isReadyInStore rfl rfl rfl (by decide +kernel) ⟨Nat.le_of_ble_eq_true rfl, Nat.le_of_ble_eq_true rfl⟩) hK hE hW hS (hs_ix9 (show f < 8 by omega)) (ci := cFi) (r := (RX0, TX0, 11)) rfl rfl rfl rfl hl.1 (Nat.le_of_ble_eq_true rfl) dX4_show_20 ⟨Nat.zero_le _, Nat.zero_le _⟩ rfl (fun r_ τ_ H locs hp hW hS => ?_)
  obtain ⟨rfl, rfl⟩ := hp
  refine lv_if_eq (tgt := 40) hx hb dX4_show_23 (by decide) (fun c_23 => ?_) (fun c_23 => ?_)
  · exact absurd c_23 hrd
  · refine lv_aload_n hx hb dX4_show_26 rfl (lv_at hl 1 rfl) ?_
    refine va_get (D := D) (ci := cFi) (C := RX0) (T := TX0) (N := 11) (ws := [(L 9 f, hs_ct d L σ 9 f)]) (v := .ref (L 4 ((σ 9 f 0).toNatClampNeg))) hx hb hts (by decide +kernel) hown hK (hW.one (hs_ix9 (show f < 8 by omega))) 0 rfl rfl 0 (by decide) (hts (.fieldLink RX4 140 "Waxrow$Figure" "head" "LWaxrow$Person;") (by decide +kernel)) (fun _ h9 => h9) rfl dX4_show_27 ?_
    refine va_get (D := D) (ci := cPe) (C := RX2) (T := TX2) (N := 8) (ws := [(L 4 ((σ 9 f 0).toNatClampNeg), hs_ct d L σ 4 ((σ 9 f 0).toNatClampNeg))]) (v := .int (σ 4 ((σ 9 f 0).toNatClampNeg) 5)) hx hb hts (by decide +kernel) hown hK (hW.one (hs_ix4 ((hok.hd f (by omega)).1))) 0 rfl rfl 5 (by decide) (hts (.fieldLink RX4 56 "Waxrow$Person" "consents" "Z") (by decide +kernel)) (fun _ h9 => h9) rfl dX4_show_30 ?_
    refine lv_if_eq (tgt := 40) hx hb dX4_show_33 (by decide) (fun c_33 => ?_) (fun c_33 => ?_)
    · exact absurd c_33 hcs
    · refine lv_iconst (v := 1) hx hb dX4_show_36 (by decide) ?_
      refine lv_goto (tgt := 41) hx hb dX4_show_37 (by decide) ?_
      refine hs_runv (As := [.int 1]) ⟨hx, hb, hml, hown, hts⟩ (kX4_checkState l D d L σ A 1 (by decide +kernel)) (va_cwS 1 hts gX4_show_X4_checkState rfl rfl rfl (by decide +kernel) ⟨Nat.le_of_ble_eq_true rfl, Nat.le_of_ble_eq_true rfl⟩) hK hE hW hS rfl hl.1 (Nat.le_of_ble_eq_true rfl) dX4_show_41 ⟨Nat.zero_le _, Nat.zero_le _⟩ rfl (fun τ_ H locs hp hW hS => ?_)
      obtain rfl := hp
      refine lv_aload_n hx hb dX4_show_44 rfl (lv_at hl 1 rfl) ?_
      refine hs_calli (As := []) ⟨hx, hb, hml, hown, hts⟩ (kX0_likeness l D d L σ A f (show f < 8 by omega) hok.hd) (cwV 0 hts gX4_show_X0_likeness rfl rfl rfl (by decide +kernel) ⟨Nat.le_of_ble_eq_true rfl, Nat.le_of_ble_eq_true rfl⟩) hK hE hW hS (hs_ix9 (show f < 8 by omega)) (ci := cFi) (r := (RX0, TX0, 11)) rfl rfl rfl rfl hl.1 (Nat.le_of_ble_eq_true rfl) dX4_show_45 ⟨Nat.zero_le _, Nat.zero_le _⟩ rfl (fun r_ τ_ H locs hp hW hS => ?_)
      obtain ⟨rfl, rfl⟩ := hp
      refine lv_bipush (v := 30) hx hb dX4_show_48 (by decide) ?_
      refine lv_icmp_lt (tgt := 57) hx hb dX4_show_50 (by decide) (fun c_50 => ?_) (fun c_50 => ?_)
      · exact absurd c_50 hlk
      · refine lv_iconst (v := 1) hx hb dX4_show_53 (by decide) ?_
        refine lv_goto (tgt := 58) hx hb dX4_show_54 (by decide) ?_
        refine hs_runv (As := [.int 1]) ⟨hx, hb, hml, hown, hts⟩ (kX4_checkState l D d L σ A 1 (by decide +kernel)) (va_cwS 1 hts gX4_show_X4_checkState rfl rfl rfl (by decide +kernel) ⟨Nat.le_of_ble_eq_true rfl, Nat.le_of_ble_eq_true rfl⟩) hK hE hW hS rfl hl.1 (Nat.le_of_ble_eq_true rfl) dX4_show_58 ⟨Nat.zero_le _, Nat.zero_le _⟩ rfl (fun τ_ H locs hp hW hS => ?_)
        obtain rfl := hp
        refine lv_aload_n hx hb dX4_show_61 rfl (lv_at hl 2 rfl) ?_
        refine va_get (D := D) (ci := cWx) (C := RX4) (T := TX4) (N := 2) (ws := [(w, .inr (cWx, [.ref (L 0 0), .ref (L2 0 0)]))]) (v := .ref (L 0 0)) hx hb hts (by decide +kernel) hown hK (wx_one hV hS hwA) 0 rfl rfl 0 (by decide) (hts (.fieldLink RX4 10 "Waxrow" "house" "LWaxrow$House;") (by decide +kernel)) (fun _ h9 => h9) rfl dX4_show_62 ?_
        refine lv_iload_n hx hb dX4_show_65 rfl (lv_at hl 4 rfl) ?_
        refine lv_iload_n hx hb dX4_show_66 rfl (lv_at hl 4 rfl) ?_
        refine hs_calli (As := [.int (nI r), .int (nI r)]) ⟨hx, hb, hml, hown, hts⟩ (kX1_figuresIn l D d L σ A (nI r) (nI r) F hok.hF hok.2.1 ) (cwV 2 hts gX4_show_X1_figuresIn rfl rfl rfl (by decide +kernel) ⟨Nat.le_of_ble_eq_true rfl, Nat.le_of_ble_eq_true rfl⟩) hK hE hW hS hs_ix0 (ci := cHo) (r := (RX1, TX1, 11)) rfl rfl rfl rfl hl.1 (Nat.le_of_ble_eq_true rfl) dX4_show_67 ⟨Nat.zero_le _, Nat.zero_le _⟩ rfl (fun r_ τ_ H locs hp hW hS => ?_)
        obtain ⟨rfl, rfl⟩ := hp
        refine lv_aload hx hb dX4_show_70 (lv_at hl 0 rfl) ?_
        refine va_get (D := D) (ci := cRo) (C := RX3) (T := TX3) (N := 2) (ws := [(L 10 r, hs_ct d L σ 10 r)]) (v := .int (σ 10 r 1)) hx hb hts (by decide +kernel) hown hK (hW.one (hs_ix10 (show r < 5 by omega))) 0 rfl rfl 1 (by decide) (hts (.fieldLink RX4 168 "Waxrow$Room" "spots" "I") (by decide +kernel)) (fun _ h9 => h9) rfl dX4_show_72 ?_
        refine lv_icmp_ge (tgt := 82) hx hb dX4_show_75 (by decide) (fun c_75 => ?_) (fun c_75 => ?_)
        · refine lv_iconst (v := 0) hx hb dX4_show_82 (by decide) ?_
          exact hx_runT (As := [.int 0]) ⟨hx, hb, hml, hown, hts⟩ (tX4_checkState l D d L σ A hl0 0 rfl) (va_cwS 1 hts gX4_show_X4_checkState rfl rfl rfl (by decide +kernel) ⟨Nat.le_of_ble_eq_true rfl, Nat.le_of_ble_eq_true rfl⟩) hK hX hW hS rfl hl.1 (Nat.le_of_ble_eq_true rfl) dX4_show_83 ⟨Nat.le_of_ble_eq_true rfl, Nat.le_of_ble_eq_true rfl⟩ rfl (fun ce q9 H1 locs1 hW hS hce hcv hcl => hx_out htb hlocks hK hW hS hce hcv hcl (by decide) (by decide))
        · refine lv_iconst (v := 1) hx hb dX4_show_78 (by decide) ?_
          refine lv_goto (tgt := 83) hx hb dX4_show_79 (by decide) ?_
          exact absurd h0 c_75
set_option maxHeartbeats 4000000 in
set_option maxRecDepth 100000 in
/-- uX4_show_5 throws -/
theorem uX4_show_5 (l : Launch) (D : va_G) (d : hs_Dm) (L : hs_Lo) (σ : hs_St) (A : Nat → Prop) (w : Nat) (L2 : hs_Lo) (hwA : ¬ A w) (hl0 : l.stackTraces = false) (P F R : Nat) (hok : hs_ok P F R σ) (f : Nat) (hf : f < F) (r : Nat) (hr5 : r < R) (hrd : ¬ sp_isReady σ f = 0) (hcs : ¬ σ 4 (σ 9 f 0).toNatClampNeg 5 = 0) (hlk : ¬ sp_likeness σ f < 30) (hfr : ¬ σ 10 r 1 ≤ sp_figIn σ (nI r) (nI r) F) (h0 : ¬ sp_shownFrom σ (σ 9 f 0).toNatClampNeg F 0 = -1) : wx_T l yX4_show wsX4_show ({ frames := 8, cells := 1, slots := 6, locals := 150 }) D d w L L2 σ A [.ref w, .int (nI f), .int (nI r)] "java/lang/IllegalStateException" := by
  refine vx_ofW (cc := cX4_show) (maxL := 5) (ret := (some .int)) (by decide) rfl ?_
  intro p e s m args below meth c s₁ B hml htb hv
  obtain ⟨rfl, ⟨⟨hW, hK⟩, hX⟩, hV⟩ := hv
  have hE := hX.1
  have hx := B.exec
  have hb := B.bytes
  have hr := B.returns
  have hts := atoms_spec (ws := wsX4_show) B.pre
  have hown : s.vm.findClass RX4 = some m.cls := findClass_of_methodNamed B.named
  have hlocks := B.notSynchronized
  have hS : va_S A s.heap s.heap [] := va_S.rf
  have hW : hs_W D d L σ A s.heap := hW
  have hl := lv_entry ([.ref w, .int (nI f), .int (nI r)]) (n := 5) (Nat.le_of_ble_eq_true rfl)
  rw [lg_entry_eq]
  generalize (lg_sl ([.ref w, .int (nI f), .int (nI r)]) ++ List.replicate (5 - (lg_sl ([.ref w, .int (nI f), .int (nI r)])).length) Slot.unset).toArray = ls at hl ⊢
  have hl : lv_has ls 5 [(0, .ref w), (1, .int (nI f)), (2, .int (nI r))] := hl
  have h10 := hok.1
  have h8 := hok.2.1
  have h5 := hok.2.2.1
  have hd_ := hok.hd
  refine lv_aload_n hx hb dX4_show_0 rfl (lv_at hl 0 rfl) ?_
  refine va_get (D := D) (ci := cWx) (C := RX4) (T := TX4) (N := 2) (ws := [(w, .inr (cWx, [.ref (L 0 0), .ref (L2 0 0)]))]) (v := .ref (L 0 0)) hx hb hts (by decide +kernel) hown hK (wx_one hV hS hwA) 0 rfl rfl 0 (by decide) (hts (.fieldLink RX4 10 "Waxrow" "house" "LWaxrow$House;") (by decide +kernel)) (fun _ h9 => h9) rfl dX4_show_1 ?_
  refine lv_iload_n hx hb dX4_show_4 rfl (lv_at hl 1 rfl) ?_
  refine hs_callr (As := [.int (nI f)]) ⟨hx, hb, hml, hown, hts⟩ (kX1_figureAt l D d L σ A f F hok.hF hf hok.2.1) (cwV 1 hts gX4_show_X1_figureAt rfl rfl rfl (by decide +kernel) ⟨Nat.le_of_ble_eq_true rfl, Nat.le_of_ble_eq_true rfl⟩) hK hE hW hS hs_ix0 (ci := cHo) (r := (RX1, TX1, 11)) rfl rfl rfl rfl hl.1 (Nat.le_of_ble_eq_true rfl) dX4_show_5 ⟨Nat.zero_le _, Nat.zero_le _⟩ rfl (fun H locs hW hS => ?_)
  refine lv_astore_n (lv' := [(3, .ref (L 9 f)), (0, .ref w), (1, .int (nI f)), (2, .int (nI r))]) hx hb dX4_show_8 rfl hl (by decide) rfl (fun ls hl => ?_)
  refine lv_aload_n hx hb dX4_show_9 rfl (lv_at hl 1 rfl) ?_
  refine va_get (D := D) (ci := cWx) (C := RX4) (T := TX4) (N := 2) (ws := [(w, .inr (cWx, [.ref (L 0 0), .ref (L2 0 0)]))]) (v := .ref (L 0 0)) hx hb hts (by decide +kernel) hown hK (wx_one hV hS hwA) 0 rfl rfl 0 (by decide) (hts (.fieldLink RX4 10 "Waxrow" "house" "LWaxrow$House;") (by decide +kernel)) (fun _ h9 => h9) rfl dX4_show_10 ?_
  refine lv_iload_n hx hb dX4_show_13 rfl (lv_at hl 3 rfl) ?_
  refine hs_callr (As := [.int (nI r)]) ⟨hx, hb, hml, hown, hts⟩ (kX1_roomAt l D d L σ A r R hok.hR hr5 hok.2.2.1) (cwV 1 hts gX4_show_X1_roomAt rfl rfl rfl (by decide +kernel) ⟨Nat.le_of_ble_eq_true rfl, Nat.le_of_ble_eq_true rfl⟩) hK hE hW hS hs_ix0 (ci := cHo) (r := (RX1, TX1, 11)) rfl rfl rfl rfl hl.1 (Nat.le_of_ble_eq_true rfl) dX4_show_14 ⟨Nat.zero_le _, Nat.zero_le _⟩ rfl (fun H locs hW hS => ?_)
  refine lv_astore (lv' := [(4, .ref (L 10 r)), (3, .ref (L 9 f)), (0, .ref w), (1, .int (nI f)), (2, .int (nI r))]) hx hb dX4_show_17 hl (by decide) rfl (fun ls hl => ?_)
  refine lv_aload_n hx hb dX4_show_19 rfl (lv_at hl 1 rfl) ?_
  refine hs_calli (As := []) ⟨hx, hb, hml, hown, hts⟩ (kX0_isReadyInStore l D d L σ A f (show f < 8 by omega)) (cwV 0 hts gX4_show_X0_isReadyInStore rfl rfl rfl (by decide +kernel) ⟨Nat.le_of_ble_eq_true rfl, Nat.le_of_ble_eq_true rfl⟩) hK hE hW hS (hs_ix9 (show f < 8 by omega)) (ci := cFi) (r := (RX0, TX0, 11)) rfl rfl rfl rfl hl.1 (Nat.le_of_ble_eq_true rfl) dX4_show_20 ⟨Nat.zero_le _, Nat.zero_le _⟩ rfl (fun r_ τ_ H locs hp hW hS => ?_)
  obtain ⟨rfl, rfl⟩ := hp
  refine lv_if_eq (tgt := 40) hx hb dX4_show_23 (by decide) (fun c_23 => ?_) (fun c_23 => ?_)
  · exact absurd c_23 hrd
  · refine lv_aload_n hx hb dX4_show_26 rfl (lv_at hl 1 rfl) ?_
    refine va_get (D := D) (ci := cFi) (C := RX0) (T := TX0) (N := 11) (ws := [(L 9 f, hs_ct d L σ 9 f)]) (v := .ref (L 4 ((σ 9 f 0).toNatClampNeg))) hx hb hts (by decide +kernel) hown hK (hW.one (hs_ix9 (show f < 8 by omega))) 0 rfl rfl 0 (by decide) (hts (.fieldLink RX4 140 "Waxrow$Figure" "head" "LWaxrow$Person;") (by decide +kernel)) (fun _ h9 => h9) rfl dX4_show_27 ?_
    refine va_get (D := D) (ci := cPe) (C := RX2) (T := TX2) (N := 8) (ws := [(L 4 ((σ 9 f 0).toNatClampNeg), hs_ct d L σ 4 ((σ 9 f 0).toNatClampNeg))]) (v := .int (σ 4 ((σ 9 f 0).toNatClampNeg) 5)) hx hb hts (by decide +kernel) hown hK (hW.one (hs_ix4 ((hok.hd f (by omega)).1))) 0 rfl rfl 5 (by decide) (hts (.fieldLink RX4 56 "Waxrow$Person" "consents" "Z") (by decide +kernel)) (fun _ h9 => h9) rfl dX4_show_30 ?_
    refine lv_if_eq (tgt := 40) hx hb dX4_show_33 (by decide) (fun c_33 => ?_) (fun c_33 => ?_)
    · exact absurd c_33 hcs
    · refine lv_iconst (v := 1) hx hb dX4_show_36 (by decide) ?_
      refine lv_goto (tgt := 41) hx hb dX4_show_37 (by decide) ?_
      refine hs_runv (As := [.int 1]) ⟨hx, hb, hml, hown, hts⟩ (kX4_checkState l D d L σ A 1 (by decide +kernel)) (va_cwS 1 hts gX4_show_X4_checkState rfl rfl rfl (by decide +kernel) ⟨Nat.le_of_ble_eq_true rfl, Nat.le_of_ble_eq_true rfl⟩) hK hE hW hS rfl hl.1 (Nat.le_of_ble_eq_true rfl) dX4_show_41 ⟨Nat.zero_le _, Nat.zero_le _⟩ rfl (fun τ_ H locs hp hW hS => ?_)
      obtain rfl := hp
      refine lv_aload_n hx hb dX4_show_44 rfl (lv_at hl 1 rfl) ?_
      refine hs_calli (As := []) ⟨hx, hb, hml, hown, hts⟩ (kX0_likeness l D d L σ A f (show f < 8 by omega) hok.hd) (cwV 0 hts gX4_show_X0_likeness rfl rfl rfl (by decide +kernel) ⟨Nat.le_of_ble_eq_true rfl, Nat.le_of_ble_eq_true rfl⟩) hK hE hW hS (hs_ix9 (show f < 8 by omega)) (ci := cFi) (r := (RX0, TX0, 11)) rfl rfl rfl rfl hl.1 (Nat.le_of_ble_eq_true rfl) dX4_show_45 ⟨Nat.zero_le _, Nat.zero_le _⟩ rfl (fun r_ τ_ H locs hp hW hS => ?_)
      obtain ⟨rfl, rfl⟩ := hp
      refine lv_bipush (v := 30) hx hb dX4_show_48 (by decide) ?_
      refine lv_icmp_lt (tgt := 57) hx hb dX4_show_50 (by decide) (fun c_50 => ?_) (fun c_50 => ?_)
      · exact absurd c_50 hlk
      · refine lv_iconst (v := 1) hx hb dX4_show_53 (by decide) ?_
        refine lv_goto (tgt := 58) hx hb dX4_show_54 (by decide) ?_
        refine hs_runv (As := [.int 1]) ⟨hx, hb, hml, hown, hts⟩ (kX4_checkState l D d L σ A 1 (by decide +kernel)) (va_cwS 1 hts gX4_show_X4_checkState rfl rfl rfl (by decide +kernel) ⟨Nat.le_of_ble_eq_true rfl, Nat.le_of_ble_eq_true rfl⟩) hK hE hW hS rfl hl.1 (Nat.le_of_ble_eq_true rfl) dX4_show_58 ⟨Nat.zero_le _, Nat.zero_le _⟩ rfl (fun τ_ H locs hp hW hS => ?_)
        obtain rfl := hp
        refine lv_aload_n hx hb dX4_show_61 rfl (lv_at hl 2 rfl) ?_
        refine va_get (D := D) (ci := cWx) (C := RX4) (T := TX4) (N := 2) (ws := [(w, .inr (cWx, [.ref (L 0 0), .ref (L2 0 0)]))]) (v := .ref (L 0 0)) hx hb hts (by decide +kernel) hown hK (wx_one hV hS hwA) 0 rfl rfl 0 (by decide) (hts (.fieldLink RX4 10 "Waxrow" "house" "LWaxrow$House;") (by decide +kernel)) (fun _ h9 => h9) rfl dX4_show_62 ?_
        refine lv_iload_n hx hb dX4_show_65 rfl (lv_at hl 4 rfl) ?_
        refine lv_iload_n hx hb dX4_show_66 rfl (lv_at hl 4 rfl) ?_
        refine hs_calli (As := [.int (nI r), .int (nI r)]) ⟨hx, hb, hml, hown, hts⟩ (kX1_figuresIn l D d L σ A (nI r) (nI r) F hok.hF hok.2.1 ) (cwV 2 hts gX4_show_X1_figuresIn rfl rfl rfl (by decide +kernel) ⟨Nat.le_of_ble_eq_true rfl, Nat.le_of_ble_eq_true rfl⟩) hK hE hW hS hs_ix0 (ci := cHo) (r := (RX1, TX1, 11)) rfl rfl rfl rfl hl.1 (Nat.le_of_ble_eq_true rfl) dX4_show_67 ⟨Nat.zero_le _, Nat.zero_le _⟩ rfl (fun r_ τ_ H locs hp hW hS => ?_)
        obtain ⟨rfl, rfl⟩ := hp
        refine lv_aload hx hb dX4_show_70 (lv_at hl 0 rfl) ?_
        refine va_get (D := D) (ci := cRo) (C := RX3) (T := TX3) (N := 2) (ws := [(L 10 r, hs_ct d L σ 10 r)]) (v := .int (σ 10 r 1)) hx hb hts (by decide +kernel) hown hK (hW.one (hs_ix10 (show r < 5 by omega))) 0 rfl rfl 1 (by decide) (hts (.fieldLink RX4 168 "Waxrow$Room" "spots" "I") (by decide +kernel)) (fun _ h9 => h9) rfl dX4_show_72 ?_
        refine lv_icmp_ge (tgt := 82) hx hb dX4_show_75 (by decide) (fun c_75 => ?_) (fun c_75 => ?_)
        · exact absurd c_75 hfr
        · refine lv_iconst (v := 1) hx hb dX4_show_78 (by decide) ?_
          refine lv_goto (tgt := 83) hx hb dX4_show_79 (by decide) ?_
          refine hs_runv (As := [.int 1]) ⟨hx, hb, hml, hown, hts⟩ (kX4_checkState l D d L σ A 1 (by decide +kernel)) (va_cwS 1 hts gX4_show_X4_checkState rfl rfl rfl (by decide +kernel) ⟨Nat.le_of_ble_eq_true rfl, Nat.le_of_ble_eq_true rfl⟩) hK hE hW hS rfl hl.1 (Nat.le_of_ble_eq_true rfl) dX4_show_83 ⟨Nat.zero_le _, Nat.zero_le _⟩ rfl (fun τ_ H locs hp hW hS => ?_)
          obtain rfl := hp
          refine lv_aload_n hx hb dX4_show_86 rfl (lv_at hl 2 rfl) ?_
          refine va_get (D := D) (ci := cWx) (C := RX4) (T := TX4) (N := 2) (ws := [(w, .inr (cWx, [.ref (L 0 0), .ref (L2 0 0)]))]) (v := .ref (L 0 0)) hx hb hts (by decide +kernel) hown hK (wx_one hV hS hwA) 0 rfl rfl 0 (by decide) (hts (.fieldLink RX4 10 "Waxrow" "house" "LWaxrow$House;") (by decide +kernel)) (fun _ h9 => h9) rfl dX4_show_87 ?_
          refine lv_aload_n hx hb dX4_show_90 rfl (lv_at hl 1 rfl) ?_
          refine va_get (D := D) (ci := cFi) (C := RX0) (T := TX0) (N := 11) (ws := [(L 9 f, hs_ct d L σ 9 f)]) (v := .ref (L 4 ((σ 9 f 0).toNatClampNeg))) hx hb hts (by decide +kernel) hown hK (hW.one (hs_ix9 (show f < 8 by omega))) 0 rfl rfl 0 (by decide) (hts (.fieldLink RX4 140 "Waxrow$Figure" "head" "LWaxrow$Person;") (by decide +kernel)) (fun _ h9 => h9) rfl dX4_show_91 ?_
          refine hs_calli (As := [.ref (L 4 ((σ 9 f 0).toNatClampNeg))]) ⟨hx, hb, hml, hown, hts⟩ (kX1_shownOf l D d L σ A ((σ 9 f 0).toNatClampNeg) (hok.hd f (by omega)).1 F hok.hF hok.2.1 hok.hd) (cwV 1 hts gX4_show_X1_shownOf rfl rfl rfl (by decide +kernel) ⟨Nat.le_of_ble_eq_true rfl, Nat.le_of_ble_eq_true rfl⟩) hK hE hW hS hs_ix0 (ci := cHo) (r := (RX1, TX1, 11)) rfl rfl rfl rfl hl.1 (Nat.le_of_ble_eq_true rfl) dX4_show_94 ⟨Nat.zero_le _, Nat.zero_le _⟩ rfl (fun r_ τ_ H locs hp hW hS => ?_)
          obtain ⟨rfl, rfl⟩ := hp
          refine lv_iconst (v := (-1)) hx hb dX4_show_97 (by decide) ?_
          refine lv_icmp_ne (tgt := 105) hx hb dX4_show_98 (by decide) (fun c_98 => ?_) (fun c_98 => ?_)
          · refine lv_iconst (v := 0) hx hb dX4_show_105 (by decide) ?_
            exact hx_runT (As := [.int 0]) ⟨hx, hb, hml, hown, hts⟩ (tX4_checkState l D d L σ A hl0 0 rfl) (va_cwS 1 hts gX4_show_X4_checkState rfl rfl rfl (by decide +kernel) ⟨Nat.le_of_ble_eq_true rfl, Nat.le_of_ble_eq_true rfl⟩) hK hX hW hS rfl hl.1 (Nat.le_of_ble_eq_true rfl) dX4_show_106 ⟨Nat.le_of_ble_eq_true rfl, Nat.le_of_ble_eq_true rfl⟩ rfl (fun ce q9 H1 locs1 hW hS hce hcv hcl => hx_out htb hlocks hK hW hS hce hcv hcl (by decide) (by decide))
          · refine lv_iconst (v := 1) hx hb dX4_show_101 (by decide) ?_
            refine lv_goto (tgt := 106) hx hb dX4_show_102 (by decide) ?_
            exact absurd c_98 h0
set_option maxHeartbeats 4000000 in
set_option maxRecDepth 100000 in
/-- uX4_ofPerson_1 throws -/
theorem uX4_ofPerson_1 (l : Launch) (D : va_G) (d : hs_Dm) (L : hs_Lo) (σ : hs_St) (A : Nat → Prop) (w : Nat) (L2 : hs_Lo) (hwA : ¬ A w) (hl0 : l.stackTraces = false) (P F R : Nat) (hok : hs_ok P F R σ) (q : Nat) (hq : q < P) (y : Int32) (h0 : y < 0 ∨ ¬ y ≤ 10) : wx_T l yX4_ofPerson wsX4_ofPerson ({ frames := 8, cells := 1, slots := 6, locals := 150 }) D d w L L2 σ A [.ref w, .int (nI q), .int y] "java/lang/IllegalArgumentException" := by
  refine vx_ofW (cc := cX4_ofPerson) (maxL := 4) (ret := (some .int)) (by decide) rfl ?_
  intro p e s m args below meth c s₁ B hml htb hv
  obtain ⟨rfl, ⟨⟨hW, hK⟩, hX⟩, hV⟩ := hv
  have hE := hX.1
  have hx := B.exec
  have hb := B.bytes
  have hr := B.returns
  have hts := atoms_spec (ws := wsX4_ofPerson) B.pre
  have hown : s.vm.findClass RX4 = some m.cls := findClass_of_methodNamed B.named
  have hlocks := B.notSynchronized
  have hS : va_S A s.heap s.heap [] := va_S.rf
  have hW : hs_W D d L σ A s.heap := hW
  have hl := lv_entry ([.ref w, .int (nI q), .int y]) (n := 4) (Nat.le_of_ble_eq_true rfl)
  rw [lg_entry_eq]
  generalize (lg_sl ([.ref w, .int (nI q), .int y]) ++ List.replicate (4 - (lg_sl ([.ref w, .int (nI q), .int y])).length) Slot.unset).toArray = ls at hl ⊢
  have hl : lv_has ls 4 [(0, .ref w), (1, .int (nI q)), (2, .int y)] := hl
  have h10 := hok.1
  have h8 := hok.2.1
  have h5 := hok.2.2.1
  have hd_ := hok.hd
  refine lv_aload_n hx hb dX4_ofPerson_0 rfl (lv_at hl 0 rfl) ?_
  refine va_get (D := D) (ci := cWx) (C := RX4) (T := TX4) (N := 2) (ws := [(w, .inr (cWx, [.ref (L 0 0), .ref (L2 0 0)]))]) (v := .ref (L 0 0)) hx hb hts (by decide +kernel) hown hK (wx_one hV hS hwA) 0 rfl rfl 0 (by decide) (hts (.fieldLink RX4 10 "Waxrow" "house" "LWaxrow$House;") (by decide +kernel)) (fun _ h9 => h9) rfl dX4_ofPerson_1 ?_
  refine lv_iload_n hx hb dX4_ofPerson_4 rfl (lv_at hl 1 rfl) ?_
  refine hs_callr (As := [.int (nI q)]) ⟨hx, hb, hml, hown, hts⟩ (kX1_personAt l D d L σ A q P hok.hP hq hok.1) (cwV 1 hts gX4_ofPerson_X1_personAt rfl rfl rfl (by decide +kernel) ⟨Nat.le_of_ble_eq_true rfl, Nat.le_of_ble_eq_true rfl⟩) hK hE hW hS hs_ix0 (ci := cHo) (r := (RX1, TX1, 11)) rfl rfl rfl rfl hl.1 (Nat.le_of_ble_eq_true rfl) dX4_ofPerson_5 ⟨Nat.zero_le _, Nat.zero_le _⟩ rfl (fun H locs hW hS => ?_)
  refine lv_astore_n (lv' := [(3, .ref (L 4 q)), (0, .ref w), (1, .int (nI q)), (2, .int y)]) hx hb dX4_ofPerson_8 rfl hl (by decide) rfl (fun ls hl => ?_)
  refine lv_iload_n hx hb dX4_ofPerson_9 rfl (lv_at hl 3 rfl) ?_
  refine lv_iconst (v := 0) hx hb dX4_ofPerson_10 (by decide) ?_
  refine lv_bipush (v := 10) hx hb dX4_ofPerson_11 (by decide) ?_
  exact hx_runT (As := [.int y, .int 0, .int 10]) ⟨hx, hb, hml, hown, hts⟩ (tX4_checkArgument l D d L σ A hl0 y 0 10 h0) (va_cwS 3 hts gX4_ofPerson_X4_checkArgument rfl rfl rfl (by decide +kernel) ⟨Nat.le_of_ble_eq_true rfl, Nat.le_of_ble_eq_true rfl⟩) hK hX hW hS rfl hl.1 (Nat.le_of_ble_eq_true rfl) dX4_ofPerson_13 ⟨Nat.le_of_ble_eq_true rfl, Nat.le_of_ble_eq_true rfl⟩ rfl (fun ce q9 H1 locs1 hW hS hce hcv hcl => hx_out htb hlocks hK hW hS hce hcv hcl (by decide) (by decide))
set_option maxHeartbeats 4000000 in
set_option maxRecDepth 100000 in
/-- uX4_ofFigure_1 throws -/
theorem uX4_ofFigure_1 (l : Launch) (D : va_G) (d : hs_Dm) (L : hs_Lo) (σ : hs_St) (A : Nat → Prop) (w : Nat) (L2 : hs_Lo) (hwA : ¬ A w) (hl0 : l.stackTraces = false) (P F R : Nat) (hok : hs_ok P F R σ) (f : Nat) (hf : f < F) (y : Int32) (h0 : y < 0 ∨ ¬ y ≤ 11) : wx_T l yX4_ofFigure wsX4_ofFigure ({ frames := 8, cells := 1, slots := 6, locals := 150 }) D d w L L2 σ A [.ref w, .int (nI f), .int y] "java/lang/IllegalArgumentException" := by
  refine vx_ofW (cc := cX4_ofFigure) (maxL := 4) (ret := (some .int)) (by decide) rfl ?_
  intro p e s m args below meth c s₁ B hml htb hv
  obtain ⟨rfl, ⟨⟨hW, hK⟩, hX⟩, hV⟩ := hv
  have hE := hX.1
  have hx := B.exec
  have hb := B.bytes
  have hr := B.returns
  have hts := atoms_spec (ws := wsX4_ofFigure) B.pre
  have hown : s.vm.findClass RX4 = some m.cls := findClass_of_methodNamed B.named
  have hlocks := B.notSynchronized
  have hS : va_S A s.heap s.heap [] := va_S.rf
  have hW : hs_W D d L σ A s.heap := hW
  have hl := lv_entry ([.ref w, .int (nI f), .int y]) (n := 4) (Nat.le_of_ble_eq_true rfl)
  rw [lg_entry_eq]
  generalize (lg_sl ([.ref w, .int (nI f), .int y]) ++ List.replicate (4 - (lg_sl ([.ref w, .int (nI f), .int y])).length) Slot.unset).toArray = ls at hl ⊢
  have hl : lv_has ls 4 [(0, .ref w), (1, .int (nI f)), (2, .int y)] := hl
  have h10 := hok.1
  have h8 := hok.2.1
  have h5 := hok.2.2.1
  have hd_ := hok.hd
  refine lv_aload_n hx hb dX4_ofFigure_0 rfl (lv_at hl 0 rfl) ?_
  refine va_get (D := D) (ci := cWx) (C := RX4) (T := TX4) (N := 2) (ws := [(w, .inr (cWx, [.ref (L 0 0), .ref (L2 0 0)]))]) (v := .ref (L 0 0)) hx hb hts (by decide +kernel) hown hK (wx_one hV hS hwA) 0 rfl rfl 0 (by decide) (hts (.fieldLink RX4 10 "Waxrow" "house" "LWaxrow$House;") (by decide +kernel)) (fun _ h9 => h9) rfl dX4_ofFigure_1 ?_
  refine lv_iload_n hx hb dX4_ofFigure_4 rfl (lv_at hl 1 rfl) ?_
  refine hs_callr (As := [.int (nI f)]) ⟨hx, hb, hml, hown, hts⟩ (kX1_figureAt l D d L σ A f F hok.hF hf hok.2.1) (cwV 1 hts gX4_ofFigure_X1_figureAt rfl rfl rfl (by decide +kernel) ⟨Nat.le_of_ble_eq_true rfl, Nat.le_of_ble_eq_true rfl⟩) hK hE hW hS hs_ix0 (ci := cHo) (r := (RX1, TX1, 11)) rfl rfl rfl rfl hl.1 (Nat.le_of_ble_eq_true rfl) dX4_ofFigure_5 ⟨Nat.zero_le _, Nat.zero_le _⟩ rfl (fun H locs hW hS => ?_)
  refine lv_astore_n (lv' := [(3, .ref (L 9 f)), (0, .ref w), (1, .int (nI f)), (2, .int y)]) hx hb dX4_ofFigure_8 rfl hl (by decide) rfl (fun ls hl => ?_)
  refine lv_iload_n hx hb dX4_ofFigure_9 rfl (lv_at hl 3 rfl) ?_
  refine lv_iconst (v := 0) hx hb dX4_ofFigure_10 (by decide) ?_
  refine lv_bipush (v := 11) hx hb dX4_ofFigure_11 (by decide) ?_
  exact hx_runT (As := [.int y, .int 0, .int 11]) ⟨hx, hb, hml, hown, hts⟩ (tX4_checkArgument l D d L σ A hl0 y 0 11 h0) (va_cwS 3 hts gX4_ofFigure_X4_checkArgument rfl rfl rfl (by decide +kernel) ⟨Nat.le_of_ble_eq_true rfl, Nat.le_of_ble_eq_true rfl⟩) hK hX hW hS rfl hl.1 (Nat.le_of_ble_eq_true rfl) dX4_ofFigure_13 ⟨Nat.le_of_ble_eq_true rfl, Nat.le_of_ble_eq_true rfl⟩ rfl (fun ce q9 H1 locs1 hW hS hce hcv hcl => hx_out htb hlocks hK hW hS hce hcv hcl (by decide) (by decide))
set_option maxHeartbeats 4000000 in
set_option maxRecDepth 100000 in
/-- uX4_ofRoom_1 throws -/
theorem uX4_ofRoom_1 (l : Launch) (D : va_G) (d : hs_Dm) (L : hs_Lo) (σ : hs_St) (A : Nat → Prop) (w : Nat) (L2 : hs_Lo) (hwA : ¬ A w) (hl0 : l.stackTraces = false) (P F R : Nat) (hok : hs_ok P F R σ) (r : Nat) (hr5 : r < R) (y : Int32) (h0 : y < 0 ∨ ¬ y ≤ 3) : wx_T l yX4_ofRoom wsX4_ofRoom ({ frames := 8, cells := 1, slots := 6, locals := 150 }) D d w L L2 σ A [.ref w, .int (nI r), .int y] "java/lang/IllegalArgumentException" := by
  refine vx_ofW (cc := cX4_ofRoom) (maxL := 4) (ret := (some .int)) (by decide) rfl ?_
  intro p e s m args below meth c s₁ B hml htb hv
  obtain ⟨rfl, ⟨⟨hW, hK⟩, hX⟩, hV⟩ := hv
  have hE := hX.1
  have hx := B.exec
  have hb := B.bytes
  have hr := B.returns
  have hts := atoms_spec (ws := wsX4_ofRoom) B.pre
  have hown : s.vm.findClass RX4 = some m.cls := findClass_of_methodNamed B.named
  have hlocks := B.notSynchronized
  have hS : va_S A s.heap s.heap [] := va_S.rf
  have hW : hs_W D d L σ A s.heap := hW
  have hl := lv_entry ([.ref w, .int (nI r), .int y]) (n := 4) (Nat.le_of_ble_eq_true rfl)
  rw [lg_entry_eq]
  generalize (lg_sl ([.ref w, .int (nI r), .int y]) ++ List.replicate (4 - (lg_sl ([.ref w, .int (nI r), .int y])).length) Slot.unset).toArray = ls at hl ⊢
  have hl : lv_has ls 4 [(0, .ref w), (1, .int (nI r)), (2, .int y)] := hl
  have h10 := hok.1
  have h8 := hok.2.1
  have h5 := hok.2.2.1
  have hd_ := hok.hd
  refine lv_aload_n hx hb dX4_ofRoom_0 rfl (lv_at hl 0 rfl) ?_
  refine va_get (D := D) (ci := cWx) (C := RX4) (T := TX4) (N := 2) (ws := [(w, .inr (cWx, [.ref (L 0 0), .ref (L2 0 0)]))]) (v := .ref (L 0 0)) hx hb hts (by decide +kernel) hown hK (wx_one hV hS hwA) 0 rfl rfl 0 (by decide) (hts (.fieldLink RX4 10 "Waxrow" "house" "LWaxrow$House;") (by decide +kernel)) (fun _ h9 => h9) rfl dX4_ofRoom_1 ?_
  refine lv_iload_n hx hb dX4_ofRoom_4 rfl (lv_at hl 1 rfl) ?_
  refine hs_callr (As := [.int (nI r)]) ⟨hx, hb, hml, hown, hts⟩ (kX1_roomAt l D d L σ A r R hok.hR hr5 hok.2.2.1) (cwV 1 hts gX4_ofRoom_X1_roomAt rfl rfl rfl (by decide +kernel) ⟨Nat.le_of_ble_eq_true rfl, Nat.le_of_ble_eq_true rfl⟩) hK hE hW hS hs_ix0 (ci := cHo) (r := (RX1, TX1, 11)) rfl rfl rfl rfl hl.1 (Nat.le_of_ble_eq_true rfl) dX4_ofRoom_5 ⟨Nat.zero_le _, Nat.zero_le _⟩ rfl (fun H locs hW hS => ?_)
  refine lv_astore_n (lv' := [(3, .ref (L 10 r)), (0, .ref w), (1, .int (nI r)), (2, .int y)]) hx hb dX4_ofRoom_8 rfl hl (by decide) rfl (fun ls hl => ?_)
  refine lv_iload_n hx hb dX4_ofRoom_9 rfl (lv_at hl 3 rfl) ?_
  refine lv_iconst (v := 0) hx hb dX4_ofRoom_10 (by decide) ?_
  refine lv_iconst (v := 3) hx hb dX4_ofRoom_11 (by decide) ?_
  exact hx_runT (As := [.int y, .int 0, .int 3]) ⟨hx, hb, hml, hown, hts⟩ (tX4_checkArgument l D d L σ A hl0 y 0 3 h0) (va_cwS 3 hts gX4_ofRoom_X4_checkArgument rfl rfl rfl (by decide +kernel) ⟨Nat.le_of_ble_eq_true rfl, Nat.le_of_ble_eq_true rfl⟩) hK hX hW hS rfl hl.1 (Nat.le_of_ble_eq_true rfl) dX4_ofRoom_12 ⟨Nat.le_of_ble_eq_true rfl, Nat.le_of_ble_eq_true rfl⟩ rfl (fun ce q9 H1 locs1 hW hS hce hcv hcl => hx_out htb hlocks hK hW hS hce hcv hcl (by decide) (by decide))
set_option maxHeartbeats 4000000 in
set_option maxRecDepth 100000 in
/-- uX4_known_1 throws -/
theorem uX4_known_1 (l : Launch) (D : va_G) (d : hs_Dm) (L : hs_Lo) (σ : hs_St) (A : Nat → Prop) (w : Nat) (L2 : hs_Lo) (hwA : ¬ A w) (hl0 : l.stackTraces = false) (P F R : Nat) (hok : hs_ok P F R σ) (q : Nat) (hq : q < P) (y b : Int32) (h0 : y < 0 ∨ ¬ y < 6) : wx_T l yX4_known wsX4_known ({ frames := 8, cells := 1, slots := 6, locals := 150 }) D d w L L2 σ A [.ref w, .int (nI q), .int y, .int b] "java/lang/IndexOutOfBoundsException" := by
  refine vx_ofW (cc := cX4_known) (maxL := 5) (ret := (some .int)) (by decide) rfl ?_
  intro p e s m args below meth c s₁ B hml htb hv
  obtain ⟨rfl, ⟨⟨hW, hK⟩, hX⟩, hV⟩ := hv
  have hE := hX.1
  have hx := B.exec
  have hb := B.bytes
  have hr := B.returns
  have hts := atoms_spec (ws := wsX4_known) B.pre
  have hown : s.vm.findClass RX4 = some m.cls := findClass_of_methodNamed B.named
  have hlocks := B.notSynchronized
  have hS : va_S A s.heap s.heap [] := va_S.rf
  have hW : hs_W D d L σ A s.heap := hW
  have hl := lv_entry ([.ref w, .int (nI q), .int y, .int b]) (n := 5) (Nat.le_of_ble_eq_true rfl)
  rw [lg_entry_eq]
  generalize (lg_sl ([.ref w, .int (nI q), .int y, .int b]) ++ List.replicate (5 - (lg_sl ([.ref w, .int (nI q), .int y, .int b])).length) Slot.unset).toArray = ls at hl ⊢
  have hl : lv_has ls 5 [(0, .ref w), (1, .int (nI q)), (2, .int y), (3, .int b)] := hl
  have h10 := hok.1
  have h8 := hok.2.1
  have h5 := hok.2.2.1
  have hd_ := hok.hd
  refine lv_aload_n hx hb dX4_known_0 rfl (lv_at hl 0 rfl) ?_
  refine va_get (D := D) (ci := cWx) (C := RX4) (T := TX4) (N := 2) (ws := [(w, .inr (cWx, [.ref (L 0 0), .ref (L2 0 0)]))]) (v := .ref (L 0 0)) hx hb hts (by decide +kernel) hown hK (wx_one hV hS hwA) 0 rfl rfl 0 (by decide) (hts (.fieldLink RX4 10 "Waxrow" "house" "LWaxrow$House;") (by decide +kernel)) (fun _ h9 => h9) rfl dX4_known_1 ?_
  refine lv_iload_n hx hb dX4_known_4 rfl (lv_at hl 1 rfl) ?_
  refine hs_callr (As := [.int (nI q)]) ⟨hx, hb, hml, hown, hts⟩ (kX1_personAt l D d L σ A q P hok.hP hq hok.1) (cwV 1 hts gX4_known_X1_personAt rfl rfl rfl (by decide +kernel) ⟨Nat.le_of_ble_eq_true rfl, Nat.le_of_ble_eq_true rfl⟩) hK hE hW hS hs_ix0 (ci := cHo) (r := (RX1, TX1, 11)) rfl rfl rfl rfl hl.1 (Nat.le_of_ble_eq_true rfl) dX4_known_5 ⟨Nat.zero_le _, Nat.zero_le _⟩ rfl (fun H locs hW hS => ?_)
  refine lv_astore (lv' := [(4, .ref (L 4 q)), (0, .ref w), (1, .int (nI q)), (2, .int y), (3, .int b)]) hx hb dX4_known_8 hl (by decide) rfl (fun ls hl => ?_)
  refine lv_iload_n hx hb dX4_known_10 rfl (lv_at hl 3 rfl) ?_
  refine lv_bipush (v := 6) hx hb dX4_known_11 (by decide) ?_
  exact hx_runT (As := [.int y, .int 6]) ⟨hx, hb, hml, hown, hts⟩ (tX4_checkIndex l D d L σ A hl0 y 6 h0) (va_cwS 2 hts gX4_known_X4_checkIndex rfl rfl rfl (by decide +kernel) ⟨Nat.le_of_ble_eq_true rfl, Nat.le_of_ble_eq_true rfl⟩) hK hX hW hS rfl hl.1 (Nat.le_of_ble_eq_true rfl) dX4_known_13 ⟨Nat.le_of_ble_eq_true rfl, Nat.le_of_ble_eq_true rfl⟩ rfl (fun ce q9 H1 locs1 hW hS hce hcv hcl => hx_out htb hlocks hK hW hS hce hcv hcl (by decide) (by decide))
set_option maxHeartbeats 4000000 in
set_option maxRecDepth 100000 in
/-- uX4_wouldFame_1 throws -/
theorem uX4_wouldFame_1 (l : Launch) (D : va_G) (d : hs_Dm) (L : hs_Lo) (σ : hs_St) (A : Nat → Prop) (w : Nat) (L2 : hs_Lo) (hwA : ¬ A w) (hl0 : l.stackTraces = false) (P F R : Nat) (hok : hs_ok P F R σ) (q : Nat) (hq : q < P) (y z : Int32) (h0 : y < 0 ∨ ¬ y < 3) : wx_T l yX4_wouldFame wsX4_wouldFame ({ frames := 8, cells := 1, slots := 6, locals := 150 }) D d w L L2 σ A [.ref w, .int (nI q), .int y, .int z] "java/lang/IndexOutOfBoundsException" := by
  refine vx_ofW (cc := cX4_wouldFame) (maxL := 5) (ret := (some .int)) (by decide) rfl ?_
  intro p e s m args below meth c s₁ B hml htb hv
  obtain ⟨rfl, ⟨⟨hW, hK⟩, hX⟩, hV⟩ := hv
  have hE := hX.1
  have hx := B.exec
  have hb := B.bytes
  have hr := B.returns
  have hts := atoms_spec (ws := wsX4_wouldFame) B.pre
  have hown : s.vm.findClass RX4 = some m.cls := findClass_of_methodNamed B.named
  have hlocks := B.notSynchronized
  have hS : va_S A s.heap s.heap [] := va_S.rf
  have hW : hs_W D d L σ A s.heap := hW
  have hl := lv_entry ([.ref w, .int (nI q), .int y, .int z]) (n := 5) (Nat.le_of_ble_eq_true rfl)
  rw [lg_entry_eq]
  generalize (lg_sl ([.ref w, .int (nI q), .int y, .int z]) ++ List.replicate (5 - (lg_sl ([.ref w, .int (nI q), .int y, .int z])).length) Slot.unset).toArray = ls at hl ⊢
  have hl : lv_has ls 5 [(0, .ref w), (1, .int (nI q)), (2, .int y), (3, .int z)] := hl
  have h10 := hok.1
  have h8 := hok.2.1
  have h5 := hok.2.2.1
  have hd_ := hok.hd
  refine lv_aload_n hx hb dX4_wouldFame_0 rfl (lv_at hl 0 rfl) ?_
  refine va_get (D := D) (ci := cWx) (C := RX4) (T := TX4) (N := 2) (ws := [(w, .inr (cWx, [.ref (L 0 0), .ref (L2 0 0)]))]) (v := .ref (L 0 0)) hx hb hts (by decide +kernel) hown hK (wx_one hV hS hwA) 0 rfl rfl 0 (by decide) (hts (.fieldLink RX4 10 "Waxrow" "house" "LWaxrow$House;") (by decide +kernel)) (fun _ h9 => h9) rfl dX4_wouldFame_1 ?_
  refine lv_iload_n hx hb dX4_wouldFame_4 rfl (lv_at hl 1 rfl) ?_
  refine hs_callr (As := [.int (nI q)]) ⟨hx, hb, hml, hown, hts⟩ (kX1_personAt l D d L σ A q P hok.hP hq hok.1) (cwV 1 hts gX4_wouldFame_X1_personAt rfl rfl rfl (by decide +kernel) ⟨Nat.le_of_ble_eq_true rfl, Nat.le_of_ble_eq_true rfl⟩) hK hE hW hS hs_ix0 (ci := cHo) (r := (RX1, TX1, 11)) rfl rfl rfl rfl hl.1 (Nat.le_of_ble_eq_true rfl) dX4_wouldFame_5 ⟨Nat.zero_le _, Nat.zero_le _⟩ rfl (fun H locs hW hS => ?_)
  refine lv_astore (lv' := [(4, .ref (L 4 q)), (0, .ref w), (1, .int (nI q)), (2, .int y), (3, .int z)]) hx hb dX4_wouldFame_8 hl (by decide) rfl (fun ls hl => ?_)
  refine lv_iload_n hx hb dX4_wouldFame_10 rfl (lv_at hl 3 rfl) ?_
  refine lv_iconst (v := 3) hx hb dX4_wouldFame_11 (by decide) ?_
  exact hx_runT (As := [.int y, .int 3]) ⟨hx, hb, hml, hown, hts⟩ (tX4_checkIndex l D d L σ A hl0 y 3 h0) (va_cwS 2 hts gX4_wouldFame_X4_checkIndex rfl rfl rfl (by decide +kernel) ⟨Nat.le_of_ble_eq_true rfl, Nat.le_of_ble_eq_true rfl⟩) hK hX hW hS rfl hl.1 (Nat.le_of_ble_eq_true rfl) dX4_wouldFame_12 ⟨Nat.le_of_ble_eq_true rfl, Nat.le_of_ble_eq_true rfl⟩ rfl (fun ce q9 H1 locs1 hW hS hce hcv hcl => hx_out htb hlocks hK hW hS hce hcv hcl (by decide) (by decide))
set_option maxHeartbeats 4000000 in
set_option maxRecDepth 100000 in
/-- uX4_wouldFame_2 throws -/
theorem uX4_wouldFame_2 (l : Launch) (D : va_G) (d : hs_Dm) (L : hs_Lo) (σ : hs_St) (A : Nat → Prop) (w : Nat) (L2 : hs_Lo) (hwA : ¬ A w) (hl0 : l.stackTraces = false) (P F R : Nat) (hok : hs_ok P F R σ) (q : Nat) (hq : q < P) (j : Nat) (hj : j < 3) (z : Int32) (h0 : z < 0 ∨ ¬ z ≤ 60) : wx_T l yX4_wouldFame wsX4_wouldFame ({ frames := 8, cells := 1, slots := 6, locals := 150 }) D d w L L2 σ A [.ref w, .int (nI q), .int (nI j), .int z] "java/lang/IllegalArgumentException" := by
  refine vx_ofW (cc := cX4_wouldFame) (maxL := 5) (ret := (some .int)) (by decide) rfl ?_
  intro p e s m args below meth c s₁ B hml htb hv
  obtain ⟨rfl, ⟨⟨hW, hK⟩, hX⟩, hV⟩ := hv
  have hE := hX.1
  have hx := B.exec
  have hb := B.bytes
  have hr := B.returns
  have hts := atoms_spec (ws := wsX4_wouldFame) B.pre
  have hown : s.vm.findClass RX4 = some m.cls := findClass_of_methodNamed B.named
  have hlocks := B.notSynchronized
  have hS : va_S A s.heap s.heap [] := va_S.rf
  have hW : hs_W D d L σ A s.heap := hW
  have hl := lv_entry ([.ref w, .int (nI q), .int (nI j), .int z]) (n := 5) (Nat.le_of_ble_eq_true rfl)
  rw [lg_entry_eq]
  generalize (lg_sl ([.ref w, .int (nI q), .int (nI j), .int z]) ++ List.replicate (5 - (lg_sl ([.ref w, .int (nI q), .int (nI j), .int z])).length) Slot.unset).toArray = ls at hl ⊢
  have hl : lv_has ls 5 [(0, .ref w), (1, .int (nI q)), (2, .int (nI j)), (3, .int z)] := hl
  have h10 := hok.1
  have h8 := hok.2.1
  have h5 := hok.2.2.1
  have hd_ := hok.hd
  refine lv_aload_n hx hb dX4_wouldFame_0 rfl (lv_at hl 0 rfl) ?_
  refine va_get (D := D) (ci := cWx) (C := RX4) (T := TX4) (N := 2) (ws := [(w, .inr (cWx, [.ref (L 0 0), .ref (L2 0 0)]))]) (v := .ref (L 0 0)) hx hb hts (by decide +kernel) hown hK (wx_one hV hS hwA) 0 rfl rfl 0 (by decide) (hts (.fieldLink RX4 10 "Waxrow" "house" "LWaxrow$House;") (by decide +kernel)) (fun _ h9 => h9) rfl dX4_wouldFame_1 ?_
  refine lv_iload_n hx hb dX4_wouldFame_4 rfl (lv_at hl 1 rfl) ?_
  refine hs_callr (As := [.int (nI q)]) ⟨hx, hb, hml, hown, hts⟩ (kX1_personAt l D d L σ A q P hok.hP hq hok.1) (cwV 1 hts gX4_wouldFame_X1_personAt rfl rfl rfl (by decide +kernel) ⟨Nat.le_of_ble_eq_true rfl, Nat.le_of_ble_eq_true rfl⟩) hK hE hW hS hs_ix0 (ci := cHo) (r := (RX1, TX1, 11)) rfl rfl rfl rfl hl.1 (Nat.le_of_ble_eq_true rfl) dX4_wouldFame_5 ⟨Nat.zero_le _, Nat.zero_le _⟩ rfl (fun H locs hW hS => ?_)
  refine lv_astore (lv' := [(4, .ref (L 4 q)), (0, .ref w), (1, .int (nI q)), (2, .int (nI j)), (3, .int z)]) hx hb dX4_wouldFame_8 hl (by decide) rfl (fun ls hl => ?_)
  refine lv_iload_n hx hb dX4_wouldFame_10 rfl (lv_at hl 3 rfl) ?_
  refine lv_iconst (v := 3) hx hb dX4_wouldFame_11 (by decide) ?_
  refine hs_runv (As := [.int (nI j), .int 3]) ⟨hx, hb, hml, hown, hts⟩ (kX4_checkIndex l D d L σ A (nI j) 3 (nI_pos (by omega)) (by rw [sp_three]; exact nI_lt hj (by decide))) (va_cwS 2 hts gX4_wouldFame_X4_checkIndex rfl rfl rfl (by decide +kernel) ⟨Nat.le_of_ble_eq_true rfl, Nat.le_of_ble_eq_true rfl⟩) hK hE hW hS rfl hl.1 (Nat.le_of_ble_eq_true rfl) dX4_wouldFame_12 ⟨Nat.zero_le _, Nat.zero_le _⟩ rfl (fun τ_ H locs hp hW hS => ?_)
  obtain rfl := hp
  refine lv_iload_n hx hb dX4_wouldFame_15 rfl (lv_at hl 4 rfl) ?_
  refine lv_iconst (v := 0) hx hb dX4_wouldFame_16 (by decide) ?_
  refine lv_bipush (v := 60) hx hb dX4_wouldFame_17 (by decide) ?_
  exact hx_runT (As := [.int z, .int 0, .int 60]) ⟨hx, hb, hml, hown, hts⟩ (tX4_checkArgument l D d L σ A hl0 z 0 60 h0) (va_cwS 3 hts gX4_wouldFame_X4_checkArgument rfl rfl rfl (by decide +kernel) ⟨Nat.le_of_ble_eq_true rfl, Nat.le_of_ble_eq_true rfl⟩) hK hX hW hS rfl hl.1 (Nat.le_of_ble_eq_true rfl) dX4_wouldFame_19 ⟨Nat.le_of_ble_eq_true rfl, Nat.le_of_ble_eq_true rfl⟩ rfl (fun ce q9 H1 locs1 hW hS hce hcv hcl => hx_out htb hlocks hK hW hS hce hcv hcl (by decide) (by decide))
set_option maxHeartbeats 4000000 in
set_option maxRecDepth 100000 in
/-- uX4_meltsIn_1 throws -/
theorem uX4_meltsIn_1 (l : Launch) (D : va_G) (d : hs_Dm) (L : hs_Lo) (σ : hs_St) (A : Nat → Prop) (w : Nat) (L2 : hs_Lo) (hwA : ¬ A w) (hl0 : l.stackTraces = false) (P F R : Nat) (hok : hs_ok P F R σ) (f : Nat) (hf : f < F) (y z : Int32) (h0 : y < 0 ∨ ¬ y ≤ 2000) : wx_T l yX4_meltsIn wsX4_meltsIn ({ frames := 8, cells := 1, slots := 6, locals := 150 }) D d w L L2 σ A [.ref w, .int (nI f), .int y, .int z] "java/lang/IllegalArgumentException" := by
  refine vx_ofW (cc := cX4_meltsIn) (maxL := 7) (ret := (some .int)) (by decide) rfl ?_
  intro p e s m args below meth c s₁ B hml htb hv
  obtain ⟨rfl, ⟨⟨hW, hK⟩, hX⟩, hV⟩ := hv
  have hE := hX.1
  have hx := B.exec
  have hb := B.bytes
  have hr := B.returns
  have hts := atoms_spec (ws := wsX4_meltsIn) B.pre
  have hown : s.vm.findClass RX4 = some m.cls := findClass_of_methodNamed B.named
  have hlocks := B.notSynchronized
  have hS : va_S A s.heap s.heap [] := va_S.rf
  have hW : hs_W D d L σ A s.heap := hW
  have hl := lv_entry ([.ref w, .int (nI f), .int y, .int z]) (n := 7) (Nat.le_of_ble_eq_true rfl)
  rw [lg_entry_eq]
  generalize (lg_sl ([.ref w, .int (nI f), .int y, .int z]) ++ List.replicate (7 - (lg_sl ([.ref w, .int (nI f), .int y, .int z])).length) Slot.unset).toArray = ls at hl ⊢
  have hl : lv_has ls 7 [(0, .ref w), (1, .int (nI f)), (2, .int y), (3, .int z)] := hl
  have h10 := hok.1
  have h8 := hok.2.1
  have h5 := hok.2.2.1
  have hd_ := hok.hd
  refine lv_aload_n hx hb dX4_meltsIn_0 rfl (lv_at hl 0 rfl) ?_
  refine va_get (D := D) (ci := cWx) (C := RX4) (T := TX4) (N := 2) (ws := [(w, .inr (cWx, [.ref (L 0 0), .ref (L2 0 0)]))]) (v := .ref (L 0 0)) hx hb hts (by decide +kernel) hown hK (wx_one hV hS hwA) 0 rfl rfl 0 (by decide) (hts (.fieldLink RX4 10 "Waxrow" "house" "LWaxrow$House;") (by decide +kernel)) (fun _ h9 => h9) rfl dX4_meltsIn_1 ?_
  refine lv_iload_n hx hb dX4_meltsIn_4 rfl (lv_at hl 1 rfl) ?_
  refine hs_callr (As := [.int (nI f)]) ⟨hx, hb, hml, hown, hts⟩ (kX1_figureAt l D d L σ A f F hok.hF hf hok.2.1) (cwV 1 hts gX4_meltsIn_X1_figureAt rfl rfl rfl (by decide +kernel) ⟨Nat.le_of_ble_eq_true rfl, Nat.le_of_ble_eq_true rfl⟩) hK hE hW hS hs_ix0 (ci := cHo) (r := (RX1, TX1, 11)) rfl rfl rfl rfl hl.1 (Nat.le_of_ble_eq_true rfl) dX4_meltsIn_5 ⟨Nat.zero_le _, Nat.zero_le _⟩ rfl (fun H locs hW hS => ?_)
  refine lv_astore (lv' := [(4, .ref (L 9 f)), (0, .ref w), (1, .int (nI f)), (2, .int y), (3, .int z)]) hx hb dX4_meltsIn_8 hl (by decide) rfl (fun ls hl => ?_)
  refine lv_iload_n hx hb dX4_meltsIn_10 rfl (lv_at hl 3 rfl) ?_
  refine lv_iconst (v := 0) hx hb dX4_meltsIn_11 (by decide) ?_
  refine lv_sipush (v := 2000) hx hb dX4_meltsIn_12 (by decide) ?_
  exact hx_runT (As := [.int y, .int 0, .int 2000]) ⟨hx, hb, hml, hown, hts⟩ (tX4_checkArgument l D d L σ A hl0 y 0 2000 h0) (va_cwS 3 hts gX4_meltsIn_X4_checkArgument rfl rfl rfl (by decide +kernel) ⟨Nat.le_of_ble_eq_true rfl, Nat.le_of_ble_eq_true rfl⟩) hK hX hW hS rfl hl.1 (Nat.le_of_ble_eq_true rfl) dX4_meltsIn_15 ⟨Nat.le_of_ble_eq_true rfl, Nat.le_of_ble_eq_true rfl⟩ rfl (fun ce q9 H1 locs1 hW hS hce hcv hcl => hx_out htb hlocks hK hW hS hce hcv hcl (by decide) (by decide))
set_option maxHeartbeats 4000000 in
set_option maxRecDepth 100000 in
/-- uX4_meltsIn_2 throws -/
theorem uX4_meltsIn_2 (l : Launch) (D : va_G) (d : hs_Dm) (L : hs_Lo) (σ : hs_St) (A : Nat → Prop) (w : Nat) (L2 : hs_Lo) (hwA : ¬ A w) (hl0 : l.stackTraces = false) (P F R : Nat) (hok : hs_ok P F R σ) (f : Nat) (hf : f < F) (y z : Int32) (hy0 : ¬ y < 0) (hy9 : y ≤ 2000) (h0 : z < 0 ∨ ¬ z ≤ 40) : wx_T l yX4_meltsIn wsX4_meltsIn ({ frames := 8, cells := 1, slots := 6, locals := 150 }) D d w L L2 σ A [.ref w, .int (nI f), .int y, .int z] "java/lang/IllegalArgumentException" := by
  refine vx_ofW (cc := cX4_meltsIn) (maxL := 7) (ret := (some .int)) (by decide) rfl ?_
  intro p e s m args below meth c s₁ B hml htb hv
  obtain ⟨rfl, ⟨⟨hW, hK⟩, hX⟩, hV⟩ := hv
  have hE := hX.1
  have hx := B.exec
  have hb := B.bytes
  have hr := B.returns
  have hts := atoms_spec (ws := wsX4_meltsIn) B.pre
  have hown : s.vm.findClass RX4 = some m.cls := findClass_of_methodNamed B.named
  have hlocks := B.notSynchronized
  have hS : va_S A s.heap s.heap [] := va_S.rf
  have hW : hs_W D d L σ A s.heap := hW
  have hl := lv_entry ([.ref w, .int (nI f), .int y, .int z]) (n := 7) (Nat.le_of_ble_eq_true rfl)
  rw [lg_entry_eq]
  generalize (lg_sl ([.ref w, .int (nI f), .int y, .int z]) ++ List.replicate (7 - (lg_sl ([.ref w, .int (nI f), .int y, .int z])).length) Slot.unset).toArray = ls at hl ⊢
  have hl : lv_has ls 7 [(0, .ref w), (1, .int (nI f)), (2, .int y), (3, .int z)] := hl
  have h10 := hok.1
  have h8 := hok.2.1
  have h5 := hok.2.2.1
  have hd_ := hok.hd
  refine lv_aload_n hx hb dX4_meltsIn_0 rfl (lv_at hl 0 rfl) ?_
  refine va_get (D := D) (ci := cWx) (C := RX4) (T := TX4) (N := 2) (ws := [(w, .inr (cWx, [.ref (L 0 0), .ref (L2 0 0)]))]) (v := .ref (L 0 0)) hx hb hts (by decide +kernel) hown hK (wx_one hV hS hwA) 0 rfl rfl 0 (by decide) (hts (.fieldLink RX4 10 "Waxrow" "house" "LWaxrow$House;") (by decide +kernel)) (fun _ h9 => h9) rfl dX4_meltsIn_1 ?_
  refine lv_iload_n hx hb dX4_meltsIn_4 rfl (lv_at hl 1 rfl) ?_
  refine hs_callr (As := [.int (nI f)]) ⟨hx, hb, hml, hown, hts⟩ (kX1_figureAt l D d L σ A f F hok.hF hf hok.2.1) (cwV 1 hts gX4_meltsIn_X1_figureAt rfl rfl rfl (by decide +kernel) ⟨Nat.le_of_ble_eq_true rfl, Nat.le_of_ble_eq_true rfl⟩) hK hE hW hS hs_ix0 (ci := cHo) (r := (RX1, TX1, 11)) rfl rfl rfl rfl hl.1 (Nat.le_of_ble_eq_true rfl) dX4_meltsIn_5 ⟨Nat.zero_le _, Nat.zero_le _⟩ rfl (fun H locs hW hS => ?_)
  refine lv_astore (lv' := [(4, .ref (L 9 f)), (0, .ref w), (1, .int (nI f)), (2, .int y), (3, .int z)]) hx hb dX4_meltsIn_8 hl (by decide) rfl (fun ls hl => ?_)
  refine lv_iload_n hx hb dX4_meltsIn_10 rfl (lv_at hl 3 rfl) ?_
  refine lv_iconst (v := 0) hx hb dX4_meltsIn_11 (by decide) ?_
  refine lv_sipush (v := 2000) hx hb dX4_meltsIn_12 (by decide) ?_
  refine hs_runv (As := [.int y, .int 0, .int 2000]) ⟨hx, hb, hml, hown, hts⟩ (kX4_checkArgument l D d L σ A y 0 2000 hy0 hy9) (va_cwS 3 hts gX4_meltsIn_X4_checkArgument rfl rfl rfl (by decide +kernel) ⟨Nat.le_of_ble_eq_true rfl, Nat.le_of_ble_eq_true rfl⟩) hK hE hW hS rfl hl.1 (Nat.le_of_ble_eq_true rfl) dX4_meltsIn_15 ⟨Nat.zero_le _, Nat.zero_le _⟩ rfl (fun τ_ H locs hp hW hS => ?_)
  obtain rfl := hp
  refine lv_iload_n hx hb dX4_meltsIn_18 rfl (lv_at hl 4 rfl) ?_
  refine lv_iconst (v := 0) hx hb dX4_meltsIn_19 (by decide) ?_
  refine lv_bipush (v := 40) hx hb dX4_meltsIn_20 (by decide) ?_
  exact hx_runT (As := [.int z, .int 0, .int 40]) ⟨hx, hb, hml, hown, hts⟩ (tX4_checkArgument l D d L σ A hl0 z 0 40 h0) (va_cwS 3 hts gX4_meltsIn_X4_checkArgument rfl rfl rfl (by decide +kernel) ⟨Nat.le_of_ble_eq_true rfl, Nat.le_of_ble_eq_true rfl⟩) hK hX hW hS rfl hl.1 (Nat.le_of_ble_eq_true rfl) dX4_meltsIn_22 ⟨Nat.le_of_ble_eq_true rfl, Nat.le_of_ble_eq_true rfl⟩ rfl (fun ce q9 H1 locs1 hW hS hce hcv hcl => hx_out htb hlocks hK hW hS hce hcv hcl (by decide) (by decide))
