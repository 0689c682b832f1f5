/-! WAXROW'S CALLS THAT THROW -/
abbrev wx_T (l : Launch) (y : MethodName) (ws : List Cond) (rm : Room) (D : va_G) (d : hs_Dm) (w : Nat) (L L2 : hs_Lo) (σ : hs_St) (A : Nat → Prop) (av : List Value) (X : String) : Prop := vx_Met l y ws rm (va_Pc av (wx_C D d w L L2 σ A)) (fun _ _ _ _ => False) (vx_X (fun _ : Unit => True) (fun E _ t => E = X ∧ hs_B D d L σ A t) A) 1 6 A
set_option maxHeartbeats 4000000 in
set_option maxRecDepth 100000 in
/-- personAt throws -/
theorem tX1_personAt (l : Launch) (D : va_G) (d : hs_Dm) (L : hs_Lo) (σ : hs_St) (A : Nat → Prop) (hl0 : l.stackTraces = false) (x : Int32) (h0 : x < 0 ∨ ¬ x < σ 0 0 3) : hx_T l yX1_personAt wsX1_personAt ({ frames := 7, cells := 1, slots := 6, locals := 120 }) D d L σ A [.ref (L 0 0), .int x] "java/lang/IndexOutOfBoundsException" := by
  refine vx_ofW (cc := cX1_personAt) (maxL := 2) (ret := (some (.object "Waxrow$Person"))) (by decide) rfl ?_
  intro p e s m args below meth c s₁ B hml htb hv
  obtain ⟨rfl, ⟨hW, hK⟩, hX⟩ := hv
  have hE := hX.1
  have hx := B.exec
  have hb := B.bytes
  have hr := B.returns
  have hts := atoms_spec (ws := wsX1_personAt) B.pre
  have hown : s.vm.findClass RX1 = some m.cls := findClass_of_methodNamed B.named
  have hlocks := B.notSynchronized
  have hS : va_S A s.heap s.heap [] := va_S.rf
  have hW : hs_W D d L σ A s.heap := hW
  have hl := lv_entry ([.ref (L 0 0), .int x]) (n := 2) (Nat.le_of_ble_eq_true rfl)
  rw [lg_entry_eq]
  generalize (lg_sl ([.ref (L 0 0), .int x]) ++ List.replicate (2 - (lg_sl ([.ref (L 0 0), .int x])).length) Slot.unset).toArray = ls at hl ⊢
  have hl : lv_has ls 2 [(0, .ref (L 0 0)), (1, .int x)] := hl
  refine lv_iload_n hx hb dX1_personAt_0 rfl (lv_at hl 1 rfl) ?_
  refine lv_aload_n hx hb dX1_personAt_1 rfl (lv_at hl 0 rfl) ?_
  refine va_get (D := D) (ci := cHo) (C := RX1) (T := TX1) (N := 11) (ws := [(L 0 0, hs_ct d L σ 0 0)]) (v := .int (σ 0 0 3)) hx hb hts (by decide +kernel) hown hK (hW.one hs_ix0) 0 rfl rfl 3 (by decide) (hts (.fieldLink RX1 46 "Waxrow$House" "personCount" "I") (by decide +kernel)) (fun _ h9 => h9) rfl dX1_personAt_2 ?_
  exact hx_runTN (As := [.int x, .int (σ 0 0 3)]) ⟨hx, hb, hml, hown, hts⟩ (tX4_checkIndex l D d L σ A hl0 x (σ 0 0 3) h0) ⟨va_cnB 2 hts gX1_personAt_X4_checkIndex_n87 rfl rfl rfl hE.1 (hts (.initialized RX4) (by decide +kernel)) (by decide +kernel) ⟨Nat.le_of_ble_eq_true rfl, Nat.le_of_ble_eq_true rfl⟩, hts (.static yX4_checkIndex) (by decide +kernel), trivial⟩ hK hX hW hS rfl hl.1 (Nat.le_of_ble_eq_true rfl) dX1_personAt_5 ⟨Nat.le_of_ble_eq_true rfl, Nat.le_of_ble_eq_true rfl⟩ rfl (fun ce q9 H1 locs1 hW hS hce hcv hcl => hx_out htb hlocks hK hW hS hce hcv hcl (by decide) (by decide))
set_option maxHeartbeats 4000000 in
set_option maxRecDepth 100000 in
/-- figureAt throws -/
theorem tX1_figureAt (l : Launch) (D : va_G) (d : hs_Dm) (L : hs_Lo) (σ : hs_St) (A : Nat → Prop) (hl0 : l.stackTraces = false) (x : Int32) (h0 : x < 0 ∨ ¬ x < σ 0 0 4) : hx_T l yX1_figureAt wsX1_figureAt ({ frames := 7, cells := 1, slots := 6, locals := 120 }) D d L σ A [.ref (L 0 0), .int x] "java/lang/IndexOutOfBoundsException" := by
  refine vx_ofW (cc := cX1_figureAt) (maxL := 2) (ret := (some (.object "Waxrow$Figure"))) (by decide) rfl ?_
  intro p e s m args below meth c s₁ B hml htb hv
  obtain ⟨rfl, ⟨hW, hK⟩, hX⟩ := hv
  have hE := hX.1
  have hx := B.exec
  have hb := B.bytes
  have hr := B.returns
  have hts := atoms_spec (ws := wsX1_figureAt) B.pre
  have hown : s.vm.findClass RX1 = some m.cls := findClass_of_methodNamed B.named
  have hlocks := B.notSynchronized
  have hS : va_S A s.heap s.heap [] := va_S.rf
  have hW : hs_W D d L σ A s.heap := hW
  have hl := lv_entry ([.ref (L 0 0), .int x]) (n := 2) (Nat.le_of_ble_eq_true rfl)
  rw [lg_entry_eq]
  generalize (lg_sl ([.ref (L 0 0), .int x]) ++ List.replicate (2 - (lg_sl ([.ref (L 0 0), .int x])).length) Slot.unset).toArray = ls at hl ⊢
  have hl : lv_has ls 2 [(0, .ref (L 0 0)), (1, .int x)] := hl
  refine lv_iload_n hx hb dX1_figureAt_0 rfl (lv_at hl 1 rfl) ?_
  refine lv_aload_n hx hb dX1_figureAt_1 rfl (lv_at hl 0 rfl) ?_
  refine va_get (D := D) (ci := cHo) (C := RX1) (T := TX1) (N := 11) (ws := [(L 0 0, hs_ct d L σ 0 0)]) (v := .int (σ 0 0 4)) hx hb hts (by decide +kernel) hown hK (hW.one hs_ix0) 0 rfl rfl 4 (by decide) (hts (.fieldLink RX1 49 "Waxrow$House" "figureCount" "I") (by decide +kernel)) (fun _ h9 => h9) rfl dX1_figureAt_2 ?_
  exact hx_runTN (As := [.int x, .int (σ 0 0 4)]) ⟨hx, hb, hml, hown, hts⟩ (tX4_checkIndex l D d L σ A hl0 x (σ 0 0 4) h0) ⟨va_cnB 2 hts gX1_figureAt_X4_checkIndex_n87 rfl rfl rfl hE.1 (hts (.initialized RX4) (by decide +kernel)) (by decide +kernel) ⟨Nat.le_of_ble_eq_true rfl, Nat.le_of_ble_eq_true rfl⟩, hts (.static yX4_checkIndex) (by decide +kernel), trivial⟩ hK hX hW hS rfl hl.1 (Nat.le_of_ble_eq_true rfl) dX1_figureAt_5 ⟨Nat.le_of_ble_eq_true rfl, Nat.le_of_ble_eq_true rfl⟩ rfl (fun ce q9 H1 locs1 hW hS hce hcv hcl => hx_out htb hlocks hK hW hS hce hcv hcl (by decide) (by decide))
set_option maxHeartbeats 4000000 in
set_option maxRecDepth 100000 in
/-- roomAt throws -/
theorem tX1_roomAt (l : Launch) (D : va_G) (d : hs_Dm) (L : hs_Lo) (σ : hs_St) (A : Nat → Prop) (hl0 : l.stackTraces = false) (x : Int32) (h0 : x < 0 ∨ ¬ x < σ 0 0 5) : hx_T l yX1_roomAt wsX1_roomAt ({ frames := 7, cells := 1, slots := 6, locals := 120 }) D d L σ A [.ref (L 0 0), .int x] "java/lang/IndexOutOfBoundsException" := by
  refine vx_ofW (cc := cX1_roomAt) (maxL := 2) (ret := (some (.object "Waxrow$Room"))) (by decide) rfl ?_
  intro p e s m args below meth c s₁ B hml htb hv
  obtain ⟨rfl, ⟨hW, hK⟩, hX⟩ := hv
  have hE := hX.1
  have hx := B.exec
  have hb := B.bytes
  have hr := B.returns
  have hts := atoms_spec (ws := wsX1_roomAt) B.pre
  have hown : s.vm.findClass RX1 = some m.cls := findClass_of_methodNamed B.named
  have hlocks := B.notSynchronized
  have hS : va_S A s.heap s.heap [] := va_S.rf
  have hW : hs_W D d L σ A s.heap := hW
  have hl := lv_entry ([.ref (L 0 0), .int x]) (n := 2) (Nat.le_of_ble_eq_true rfl)
  rw [lg_entry_eq]
  generalize (lg_sl ([.ref (L 0 0), .int x]) ++ List.replicate (2 - (lg_sl ([.ref (L 0 0), .int x])).length) Slot.unset).toArray = ls at hl ⊢
  have hl : lv_has ls 2 [(0, .ref (L 0 0)), (1, .int x)] := hl
  refine lv_iload_n hx hb dX1_roomAt_0 rfl (lv_at hl 1 rfl) ?_
  refine lv_aload_n hx hb dX1_roomAt_1 rfl (lv_at hl 0 rfl) ?_
  refine va_get (D := D) (ci := cHo) (C := RX1) (T := TX1) (N := 11) (ws := [(L 0 0, hs_ct d L σ 0 0)]) (v := .int (σ 0 0 5)) hx hb hts (by decide +kernel) hown hK (hW.one hs_ix0) 0 rfl rfl 5 (by decide) (hts (.fieldLink RX1 52 "Waxrow$House" "roomCount" "I") (by decide +kernel)) (fun _ h9 => h9) rfl dX1_roomAt_2 ?_
  exact hx_runTN (As := [.int x, .int (σ 0 0 5)]) ⟨hx, hb, hml, hown, hts⟩ (tX4_checkIndex l D d L σ A hl0 x (σ 0 0 5) h0) ⟨va_cnB 2 hts gX1_roomAt_X4_checkIndex_n87 rfl rfl rfl hE.1 (hts (.initialized RX4) (by decide +kernel)) (by decide +kernel) ⟨Nat.le_of_ble_eq_true rfl, Nat.le_of_ble_eq_true rfl⟩, hts (.static yX4_checkIndex) (by decide +kernel), trivial⟩ hK hX hW hS rfl hl.1 (Nat.le_of_ble_eq_true rfl) dX1_roomAt_5 ⟨Nat.le_of_ble_eq_true rfl, Nat.le_of_ble_eq_true rfl⟩ rfl (fun ce q9 H1 locs1 hW hS hce hcv hcl => hx_out htb hlocks hK hW hS hce hcv hcl (by decide) (by decide))
set_option maxHeartbeats 4000000 in
set_option maxRecDepth 100000 in
/-- trend throws -/
theorem iX4_trend (l : Launch) (D : va_G) (d : hs_Dm) (L : hs_Lo) (σ : hs_St) (A : Nat → Prop) (w : Nat) (L2 : hs_Lo) (hwA : ¬ A w) (hl0 : l.stackTraces = false) (x : Int32) (h0 : x < 0 ∨ ¬ x < σ 0 0 3) (y : Int32) (z : Int32) : wx_T l yX4_trend wsX4_trend ({ frames := 8, cells := 1, slots := 6, locals := 150 }) D d w L L2 σ A [.ref w, .int x, .int y, .int z] "java/lang/IndexOutOfBoundsException" := by
  refine vx_ofW (cc := cX4_trend) (maxL := 6) (ret := (some .int)) (by decide) rfl ?_
  intro p e s m args below meth c s₁ B hml htb hv
  obtain ⟨rfl, ⟨⟨hW, hK⟩, hX⟩, hV⟩ := hv
  have hE := hX.1
  have hx := B.exec
  have hb := B.bytes
  have hr := B.returns
  have hts := atoms_spec (ws := wsX4_trend) B.pre
  have hown : s.vm.findClass RX4 = some m.cls := findClass_of_methodNamed B.named
  have hlocks := B.notSynchronized
  have hS : va_S A s.heap s.heap [] := va_S.rf
  have hW : hs_W D d L σ A s.heap := hW
  have hl := lv_entry ([.ref w, .int x, .int y, .int z]) (n := 6) (Nat.le_of_ble_eq_true rfl)
  rw [lg_entry_eq]
  generalize (lg_sl ([.ref w, .int x, .int y, .int z]) ++ List.replicate (6 - (lg_sl ([.ref w, .int x, .int y, .int z])).length) Slot.unset).toArray = ls at hl ⊢
  have hl : lv_has ls 6 [(0, .ref w), (1, .int x), (2, .int y), (3, .int z)] := hl
  refine lv_aload_n hx hb dX4_trend_0 rfl (lv_at hl 0 rfl) ?_
  refine va_get (D := D) (ci := cWx) (C := RX4) (T := TX4) (N := 2) (ws := [(w, .inr (cWx, [.ref (L 0 0), .ref (L2 0 0)]))]) (v := .ref (L 0 0)) hx hb hts (by decide +kernel) hown hK (wx_one hV hS hwA) 0 rfl rfl 0 (by decide) (hts (.fieldLink RX4 10 "Waxrow" "house" "LWaxrow$House;") (by decide +kernel)) (fun _ h9 => h9) rfl dX4_trend_1 ?_
  refine lv_iload_n hx hb dX4_trend_4 rfl (lv_at hl 1 rfl) ?_
  exact hx_callT (As := [.int x]) ⟨hx, hb, hml, hown, hts⟩ (tX1_personAt l D d L σ A hl0 x h0) (cwV 1 hts gX4_trend_X1_personAt rfl rfl rfl (by decide +kernel) ⟨Nat.le_of_ble_eq_true rfl, Nat.le_of_ble_eq_true rfl⟩) hK hX hW hS hs_ix0 (ci := cHo) (r := (RX1, TX1, 11)) rfl rfl rfl rfl hl.1 (Nat.le_of_ble_eq_true rfl) dX4_trend_5 ⟨Nat.le_of_ble_eq_true rfl, Nat.le_of_ble_eq_true rfl⟩ rfl (fun ce q9 H1 locs1 hW hS hce hcv hcl => hx_out htb hlocks hK hW hS hce hcv hcl (by decide) (by decide))
set_option maxHeartbeats 4000000 in
set_option maxRecDepth 100000 in
/-- news throws -/
theorem iX4_news (l : Launch) (D : va_G) (d : hs_Dm) (L : hs_Lo) (σ : hs_St) (A : Nat → Prop) (w : Nat) (L2 : hs_Lo) (hwA : ¬ A w) (hl0 : l.stackTraces = false) (x : Int32) (h0 : x < 0 ∨ ¬ x < σ 0 0 3) (y : Int32) : wx_T l yX4_news wsX4_news ({ frames := 8, cells := 1, slots := 6, locals := 150 }) D d w L L2 σ A [.ref w, .int x, .int y] "java/lang/IndexOutOfBoundsException" := by
  refine vx_ofW (cc := cX4_news) (maxL := 4) (ret := (some .int)) (by decide) rfl ?_
  intro p e s m args below meth c s₁ B hml htb hv
  obtain ⟨rfl, ⟨⟨hW, hK⟩, hX⟩, hV⟩ := hv
  have hE := hX.1
  have hx := B.exec
  have hb := B.bytes
  have hr := B.returns
  have hts := atoms_spec (ws := wsX4_news) B.pre
  have hown : s.vm.findClass RX4 = some m.cls := findClass_of_methodNamed B.named
  have hlocks := B.notSynchronized
  have hS : va_S A s.heap s.heap [] := va_S.rf
  have hW : hs_W D d L σ A s.heap := hW
  have hl := lv_entry ([.ref w, .int x, .int y]) (n := 4) (Nat.le_of_ble_eq_true rfl)
  rw [lg_entry_eq]
  generalize (lg_sl ([.ref w, .int x, .int y]) ++ List.replicate (4 - (lg_sl ([.ref w, .int x, .int y])).length) Slot.unset).toArray = ls at hl ⊢
  have hl : lv_has ls 4 [(0, .ref w), (1, .int x), (2, .int y)] := hl
  refine lv_aload_n hx hb dX4_news_0 rfl (lv_at hl 0 rfl) ?_
  refine va_get (D := D) (ci := cWx) (C := RX4) (T := TX4) (N := 2) (ws := [(w, .inr (cWx, [.ref (L 0 0), .ref (L2 0 0)]))]) (v := .ref (L 0 0)) hx hb hts (by decide +kernel) hown hK (wx_one hV hS hwA) 0 rfl rfl 0 (by decide) (hts (.fieldLink RX4 10 "Waxrow" "house" "LWaxrow$House;") (by decide +kernel)) (fun _ h9 => h9) rfl dX4_news_1 ?_
  refine lv_iload_n hx hb dX4_news_4 rfl (lv_at hl 1 rfl) ?_
  exact hx_callT (As := [.int x]) ⟨hx, hb, hml, hown, hts⟩ (tX1_personAt l D d L σ A hl0 x h0) (cwV 1 hts gX4_news_X1_personAt rfl rfl rfl (by decide +kernel) ⟨Nat.le_of_ble_eq_true rfl, Nat.le_of_ble_eq_true rfl⟩) hK hX hW hS hs_ix0 (ci := cHo) (r := (RX1, TX1, 11)) rfl rfl rfl rfl hl.1 (Nat.le_of_ble_eq_true rfl) dX4_news_5 ⟨Nat.le_of_ble_eq_true rfl, Nat.le_of_ble_eq_true rfl⟩ rfl (fun ce q9 H1 locs1 hW hS hce hcv hcl => hx_out htb hlocks hK hW hS hce hcv hcl (by decide) (by decide))
set_option maxHeartbeats 4000000 in
set_option maxRecDepth 100000 in
/-- consent throws -/
theorem iX4_consent (l : Launch) (D : va_G) (d : hs_Dm) (L : hs_Lo) (σ : hs_St) (A : Nat → Prop) (w : Nat) (L2 : hs_Lo) (hwA : ¬ A w) (hl0 : l.stackTraces = false) (x : Int32) (h0 : x < 0 ∨ ¬ x < σ 0 0 3) (y : Int32) : wx_T l yX4_consent wsX4_consent ({ frames := 8, cells := 1, slots := 6, locals := 150 }) D d w L L2 σ A [.ref w, .int x, .int y] "java/lang/IndexOutOfBoundsException" := by
  refine vx_ofW (cc := cX4_consent) (maxL := 4) (ret := (some .int)) (by decide) rfl ?_
  intro p e s m args below meth c s₁ B hml htb hv
  obtain ⟨rfl, ⟨⟨hW, hK⟩, hX⟩, hV⟩ := hv
  have hE := hX.1
  have hx := B.exec
  have hb := B.bytes
  have hr := B.returns
  have hts := atoms_spec (ws := wsX4_consent) B.pre
  have hown : s.vm.findClass RX4 = some m.cls := findClass_of_methodNamed B.named
  have hlocks := B.notSynchronized
  have hS : va_S A s.heap s.heap [] := va_S.rf
  have hW : hs_W D d L σ A s.heap := hW
  have hl := lv_entry ([.ref w, .int x, .int y]) (n := 4) (Nat.le_of_ble_eq_true rfl)
  rw [lg_entry_eq]
  generalize (lg_sl ([.ref w, .int x, .int y]) ++ List.replicate (4 - (lg_sl ([.ref w, .int x, .int y])).length) Slot.unset).toArray = ls at hl ⊢
  have hl : lv_has ls 4 [(0, .ref w), (1, .int x), (2, .int y)] := hl
  refine lv_aload_n hx hb dX4_consent_0 rfl (lv_at hl 0 rfl) ?_
  refine va_get (D := D) (ci := cWx) (C := RX4) (T := TX4) (N := 2) (ws := [(w, .inr (cWx, [.ref (L 0 0), .ref (L2 0 0)]))]) (v := .ref (L 0 0)) hx hb hts (by decide +kernel) hown hK (wx_one hV hS hwA) 0 rfl rfl 0 (by decide) (hts (.fieldLink RX4 10 "Waxrow" "house" "LWaxrow$House;") (by decide +kernel)) (fun _ h9 => h9) rfl dX4_consent_1 ?_
  refine lv_iload_n hx hb dX4_consent_4 rfl (lv_at hl 1 rfl) ?_
  exact hx_callT (As := [.int x]) ⟨hx, hb, hml, hown, hts⟩ (tX1_personAt l D d L σ A hl0 x h0) (cwV 1 hts gX4_consent_X1_personAt rfl rfl rfl (by decide +kernel) ⟨Nat.le_of_ble_eq_true rfl, Nat.le_of_ble_eq_true rfl⟩) hK hX hW hS hs_ix0 (ci := cHo) (r := (RX1, TX1, 11)) rfl rfl rfl rfl hl.1 (Nat.le_of_ble_eq_true rfl) dX4_consent_5 ⟨Nat.le_of_ble_eq_true rfl, Nat.le_of_ble_eq_true rfl⟩ rfl (fun ce q9 H1 locs1 hW hS hce hcv hcl => hx_out htb hlocks hK hW hS hce hcv hcl (by decide) (by decide))
set_option maxHeartbeats 4000000 in
set_option maxRecDepth 100000 in
/-- measure throws -/
theorem iX4_measure (l : Launch) (D : va_G) (d : hs_Dm) (L : hs_Lo) (σ : hs_St) (A : Nat → Prop) (w : Nat) (L2 : hs_Lo) (hwA : ¬ A w) (hl0 : l.stackTraces = false) (x : Int32) (h0 : x < 0 ∨ ¬ x < σ 0 0 3) (y : Int32) (z : Int32) (u : Int32) : wx_T l yX4_measure wsX4_measure ({ frames := 8, cells := 1, slots := 6, locals := 150 }) D d w L L2 σ A [.ref w, .int x, .int y, .int z, .int u] "java/lang/IndexOutOfBoundsException" := by
  refine vx_ofW (cc := cX4_measure) (maxL := 6) (ret := (some .int)) (by decide) rfl ?_
  intro p e s m args below meth c s₁ B hml htb hv
  obtain ⟨rfl, ⟨⟨hW, hK⟩, hX⟩, hV⟩ := hv
  have hE := hX.1
  have hx := B.exec
  have hb := B.bytes
  have hr := B.returns
  have hts := atoms_spec (ws := wsX4_measure) B.pre
  have hown : s.vm.findClass RX4 = some m.cls := findClass_of_methodNamed B.named
  have hlocks := B.notSynchronized
  have hS : va_S A s.heap s.heap [] := va_S.rf
  have hW : hs_W D d L σ A s.heap := hW
  have hl := lv_entry ([.ref w, .int x, .int y, .int z, .int u]) (n := 6) (Nat.le_of_ble_eq_true rfl)
  rw [lg_entry_eq]
  generalize (lg_sl ([.ref w, .int x, .int y, .int z, .int u]) ++ List.replicate (6 - (lg_sl ([.ref w, .int x, .int y, .int z, .int u])).length) Slot.unset).toArray = ls at hl ⊢
  have hl : lv_has ls 6 [(0, .ref w), (1, .int x), (2, .int y), (3, .int z), (4, .int u)] := hl
  refine lv_aload_n hx hb dX4_measure_0 rfl (lv_at hl 0 rfl) ?_
  refine va_get (D := D) (ci := cWx) (C := RX4) (T := TX4) (N := 2) (ws := [(w, .inr (cWx, [.ref (L 0 0), .ref (L2 0 0)]))]) (v := .ref (L 0 0)) hx hb hts (by decide +kernel) hown hK (wx_one hV hS hwA) 0 rfl rfl 0 (by decide) (hts (.fieldLink RX4 10 "Waxrow" "house" "LWaxrow$House;") (by decide +kernel)) (fun _ h9 => h9) rfl dX4_measure_1 ?_
  refine lv_iload_n hx hb dX4_measure_4 rfl (lv_at hl 1 rfl) ?_
  exact hx_callT (As := [.int x]) ⟨hx, hb, hml, hown, hts⟩ (tX1_personAt l D d L σ A hl0 x h0) (cwV 1 hts gX4_measure_X1_personAt rfl rfl rfl (by decide +kernel) ⟨Nat.le_of_ble_eq_true rfl, Nat.le_of_ble_eq_true rfl⟩) hK hX hW hS hs_ix0 (ci := cHo) (r := (RX1, TX1, 11)) rfl rfl rfl rfl hl.1 (Nat.le_of_ble_eq_true rfl) dX4_measure_5 ⟨Nat.le_of_ble_eq_true rfl, Nat.le_of_ble_eq_true rfl⟩ rfl (fun ce q9 H1 locs1 hW hS hce hcv hcl => hx_out htb hlocks hK hW hS hce hcv hcl (by decide) (by decide))
set_option maxHeartbeats 4000000 in
set_option maxRecDepth 100000 in
/-- pay throws -/
theorem iX4_pay (l : Launch) (D : va_G) (d : hs_Dm) (L : hs_Lo) (σ : hs_St) (A : Nat → Prop) (w : Nat) (L2 : hs_Lo) (hwA : ¬ A w) (hl0 : l.stackTraces = false) (x : Int32) (h0 : x < 0 ∨ ¬ x < σ 0 0 3) (y : Int32) : wx_T l yX4_pay wsX4_pay ({ frames := 8, cells := 1, slots := 6, locals := 150 }) D d w L L2 σ A [.ref w, .int x, .int y] "java/lang/IndexOutOfBoundsException" := by
  refine vx_ofW (cc := cX4_pay) (maxL := 4) (ret := (some .int)) (by decide) rfl ?_
  intro p e s m args below meth c s₁ B hml htb hv
  obtain ⟨rfl, ⟨⟨hW, hK⟩, hX⟩, hV⟩ := hv
  have hE := hX.1
  have hx := B.exec
  have hb := B.bytes
  have hr := B.returns
  have hts := atoms_spec (ws := wsX4_pay) B.pre
  have hown : s.vm.findClass RX4 = some m.cls := findClass_of_methodNamed B.named
  have hlocks := B.notSynchronized
  have hS : va_S A s.heap s.heap [] := va_S.rf
  have hW : hs_W D d L σ A s.heap := hW
  have hl := lv_entry ([.ref w, .int x, .int y]) (n := 4) (Nat.le_of_ble_eq_true rfl)
  rw [lg_entry_eq]
  generalize (lg_sl ([.ref w, .int x, .int y]) ++ List.replicate (4 - (lg_sl ([.ref w, .int x, .int y])).length) Slot.unset).toArray = ls at hl ⊢
  have hl : lv_has ls 4 [(0, .ref w), (1, .int x), (2, .int y)] := hl
  refine lv_aload_n hx hb dX4_pay_0 rfl (lv_at hl 0 rfl) ?_
  refine va_get (D := D) (ci := cWx) (C := RX4) (T := TX4) (N := 2) (ws := [(w, .inr (cWx, [.ref (L 0 0), .ref (L2 0 0)]))]) (v := .ref (L 0 0)) hx hb hts (by decide +kernel) hown hK (wx_one hV hS hwA) 0 rfl rfl 0 (by decide) (hts (.fieldLink RX4 10 "Waxrow" "house" "LWaxrow$House;") (by decide +kernel)) (fun _ h9 => h9) rfl dX4_pay_1 ?_
  refine lv_iload_n hx hb dX4_pay_4 rfl (lv_at hl 1 rfl) ?_
  exact hx_callT (As := [.int x]) ⟨hx, hb, hml, hown, hts⟩ (tX1_personAt l D d L σ A hl0 x h0) (cwV 1 hts gX4_pay_X1_personAt rfl rfl rfl (by decide +kernel) ⟨Nat.le_of_ble_eq_true rfl, Nat.le_of_ble_eq_true rfl⟩) hK hX hW hS hs_ix0 (ci := cHo) (r := (RX1, TX1, 11)) rfl rfl rfl rfl hl.1 (Nat.le_of_ble_eq_true rfl) dX4_pay_5 ⟨Nat.le_of_ble_eq_true rfl, Nat.le_of_ble_eq_true rfl⟩ rfl (fun ce q9 H1 locs1 hW hS hce hcv hcl => hx_out htb hlocks hK hW hS hce hcv hcl (by decide) (by decide))
set_option maxHeartbeats 4000000 in
set_option maxRecDepth 100000 in
/-- figure throws -/
theorem iX4_figure (l : Launch) (D : va_G) (d : hs_Dm) (L : hs_Lo) (σ : hs_St) (A : Nat → Prop) (w : Nat) (L2 : hs_Lo) (hwA : ¬ A w) (hl0 : l.stackTraces = false) (x : Int32) (h0 : x < 0 ∨ ¬ x < σ 0 0 3) : wx_T l yX4_figure wsX4_figure ({ frames := 8, cells := 1, slots := 6, locals := 150 }) D d w L L2 σ A [.ref w, .int x] "java/lang/IndexOutOfBoundsException" := by
  refine vx_ofW (cc := cX4_figure) (maxL := 3) (ret := (some .int)) (by decide) rfl ?_
  intro p e s m args below meth c s₁ B hml htb hv
  obtain ⟨rfl, ⟨⟨hW, hK⟩, hX⟩, hV⟩ := hv
  have hE := hX.1
  have hx := B.exec
  have hb := B.bytes
  have hr := B.returns
  have hts := atoms_spec (ws := wsX4_figure) B.pre
  have hown : s.vm.findClass RX4 = some m.cls := findClass_of_methodNamed B.named
  have hlocks := B.notSynchronized
  have hS : va_S A s.heap s.heap [] := va_S.rf
  have hW : hs_W D d L σ A s.heap := hW
  have hl := lv_entry ([.ref w, .int x]) (n := 3) (Nat.le_of_ble_eq_true rfl)
  rw [lg_entry_eq]
  generalize (lg_sl ([.ref w, .int x]) ++ List.replicate (3 - (lg_sl ([.ref w, .int x])).length) Slot.unset).toArray = ls at hl ⊢
  have hl : lv_has ls 3 [(0, .ref w), (1, .int x)] := hl
  refine lv_aload_n hx hb dX4_figure_0 rfl (lv_at hl 0 rfl) ?_
  refine va_get (D := D) (ci := cWx) (C := RX4) (T := TX4) (N := 2) (ws := [(w, .inr (cWx, [.ref (L 0 0), .ref (L2 0 0)]))]) (v := .ref (L 0 0)) hx hb hts (by decide +kernel) hown hK (wx_one hV hS hwA) 0 rfl rfl 0 (by decide) (hts (.fieldLink RX4 10 "Waxrow" "house" "LWaxrow$House;") (by decide +kernel)) (fun _ h9 => h9) rfl dX4_figure_1 ?_
  refine lv_iload_n hx hb dX4_figure_4 rfl (lv_at hl 1 rfl) ?_
  exact hx_callT (As := [.int x]) ⟨hx, hb, hml, hown, hts⟩ (tX1_personAt l D d L σ A hl0 x h0) (cwV 1 hts gX4_figure_X1_personAt rfl rfl rfl (by decide +kernel) ⟨Nat.le_of_ble_eq_true rfl, Nat.le_of_ble_eq_true rfl⟩) hK hX hW hS hs_ix0 (ci := cHo) (r := (RX1, TX1, 11)) rfl rfl rfl rfl hl.1 (Nat.le_of_ble_eq_true rfl) dX4_figure_5 ⟨Nat.le_of_ble_eq_true rfl, Nat.le_of_ble_eq_true rfl⟩ rfl (fun ce q9 H1 locs1 hW hS hce hcv hcl => hx_out htb hlocks hK hW hS hce hcv hcl (by decide) (by decide))
set_option maxHeartbeats 4000000 in
set_option maxRecDepth 100000 in
/-- ofPerson throws -/
theorem iX4_ofPerson (l : Launch) (D : va_G) (d : hs_Dm) (L : hs_Lo) (σ : hs_St) (A : Nat → Prop) (w : Nat) (L2 : hs_Lo) (hwA : ¬ A w) (hl0 : l.stackTraces = false) (x : Int32) (h0 : x < 0 ∨ ¬ x < σ 0 0 3) (y : Int32) : wx_T l yX4_ofPerson wsX4_ofPerson ({ frames := 8, cells := 1, slots := 6, locals := 150 }) D d w L L2 σ A [.ref w, .int x, .int y] "java/lang/IndexOutOfBoundsException" := by
  refine vx_ofW (cc := cX4_ofPerson) (maxL := 4) (ret := (some .int)) (by decide) rfl ?_
  intro p e s m args below meth c s₁ B hml htb hv
  obtain ⟨rfl, ⟨⟨hW, hK⟩, hX⟩, hV⟩ := hv
  have hE := hX.1
  have hx := B.exec
  have hb := B.bytes
  have hr := B.returns
  have hts := atoms_spec (ws := wsX4_ofPerson) B.pre
  have hown : s.vm.findClass RX4 = some m.cls := findClass_of_methodNamed B.named
  have hlocks := B.notSynchronized
  have hS : va_S A s.heap s.heap [] := va_S.rf
  have hW : hs_W D d L σ A s.heap := hW
  have hl := lv_entry ([.ref w, .int x, .int y]) (n := 4) (Nat.le_of_ble_eq_true rfl)
  rw [lg_entry_eq]
  generalize (lg_sl ([.ref w, .int x, .int y]) ++ List.replicate (4 - (lg_sl ([.ref w, .int x, .int y])).length) Slot.unset).toArray = ls at hl ⊢
  have hl : lv_has ls 4 [(0, .ref w), (1, .int x), (2, .int y)] := hl
  refine lv_aload_n hx hb dX4_ofPerson_0 rfl (lv_at hl 0 rfl) ?_
  refine va_get (D := D) (ci := cWx) (C := RX4) (T := TX4) (N := 2) (ws := [(w, .inr (cWx, [.ref (L 0 0), .ref (L2 0 0)]))]) (v := .ref (L 0 0)) hx hb hts (by decide +kernel) hown hK (wx_one hV hS hwA) 0 rfl rfl 0 (by decide) (hts (.fieldLink RX4 10 "Waxrow" "house" "LWaxrow$House;") (by decide +kernel)) (fun _ h9 => h9) rfl dX4_ofPerson_1 ?_
  refine lv_iload_n hx hb dX4_ofPerson_4 rfl (lv_at hl 1 rfl) ?_
  exact hx_callT (As := [.int x]) ⟨hx, hb, hml, hown, hts⟩ (tX1_personAt l D d L σ A hl0 x h0) (cwV 1 hts gX4_ofPerson_X1_personAt rfl rfl rfl (by decide +kernel) ⟨Nat.le_of_ble_eq_true rfl, Nat.le_of_ble_eq_true rfl⟩) hK hX hW hS hs_ix0 (ci := cHo) (r := (RX1, TX1, 11)) rfl rfl rfl rfl hl.1 (Nat.le_of_ble_eq_true rfl) dX4_ofPerson_5 ⟨Nat.le_of_ble_eq_true rfl, Nat.le_of_ble_eq_true rfl⟩ rfl (fun ce q9 H1 locs1 hW hS hce hcv hcl => hx_out htb hlocks hK hW hS hce hcv hcl (by decide) (by decide))
set_option maxHeartbeats 4000000 in
set_option maxRecDepth 100000 in
/-- known throws -/
theorem iX4_known (l : Launch) (D : va_G) (d : hs_Dm) (L : hs_Lo) (σ : hs_St) (A : Nat → Prop) (w : Nat) (L2 : hs_Lo) (hwA : ¬ A w) (hl0 : l.stackTraces = false) (x : Int32) (h0 : x < 0 ∨ ¬ x < σ 0 0 3) (y : Int32) (z : Int32) : wx_T l yX4_known wsX4_known ({ frames := 8, cells := 1, slots := 6, locals := 150 }) D d w L L2 σ A [.ref w, .int x, .int y, .int z] "java/lang/IndexOutOfBoundsException" := by
  refine vx_ofW (cc := cX4_known) (maxL := 5) (ret := (some .int)) (by decide) rfl ?_
  intro p e s m args below meth c s₁ B hml htb hv
  obtain ⟨rfl, ⟨⟨hW, hK⟩, hX⟩, hV⟩ := hv
  have hE := hX.1
  have hx := B.exec
  have hb := B.bytes
  have hr := B.returns
  have hts := atoms_spec (ws := wsX4_known) B.pre
  have hown : s.vm.findClass RX4 = some m.cls := findClass_of_methodNamed B.named
  have hlocks := B.notSynchronized
  have hS : va_S A s.heap s.heap [] := va_S.rf
  have hW : hs_W D d L σ A s.heap := hW
  have hl := lv_entry ([.ref w, .int x, .int y, .int z]) (n := 5) (Nat.le_of_ble_eq_true rfl)
  rw [lg_entry_eq]
  generalize (lg_sl ([.ref w, .int x, .int y, .int z]) ++ List.replicate (5 - (lg_sl ([.ref w, .int x, .int y, .int z])).length) Slot.unset).toArray = ls at hl ⊢
  have hl : lv_has ls 5 [(0, .ref w), (1, .int x), (2, .int y), (3, .int z)] := hl
  refine lv_aload_n hx hb dX4_known_0 rfl (lv_at hl 0 rfl) ?_
  refine va_get (D := D) (ci := cWx) (C := RX4) (T := TX4) (N := 2) (ws := [(w, .inr (cWx, [.ref (L 0 0), .ref (L2 0 0)]))]) (v := .ref (L 0 0)) hx hb hts (by decide +kernel) hown hK (wx_one hV hS hwA) 0 rfl rfl 0 (by decide) (hts (.fieldLink RX4 10 "Waxrow" "house" "LWaxrow$House;") (by decide +kernel)) (fun _ h9 => h9) rfl dX4_known_1 ?_
  refine lv_iload_n hx hb dX4_known_4 rfl (lv_at hl 1 rfl) ?_
  exact hx_callT (As := [.int x]) ⟨hx, hb, hml, hown, hts⟩ (tX1_personAt l D d L σ A hl0 x h0) (cwV 1 hts gX4_known_X1_personAt rfl rfl rfl (by decide +kernel) ⟨Nat.le_of_ble_eq_true rfl, Nat.le_of_ble_eq_true rfl⟩) hK hX hW hS hs_ix0 (ci := cHo) (r := (RX1, TX1, 11)) rfl rfl rfl rfl hl.1 (Nat.le_of_ble_eq_true rfl) dX4_known_5 ⟨Nat.le_of_ble_eq_true rfl, Nat.le_of_ble_eq_true rfl⟩ rfl (fun ce q9 H1 locs1 hW hS hce hcv hcl => hx_out htb hlocks hK hW hS hce hcv hcl (by decide) (by decide))
set_option maxHeartbeats 4000000 in
set_option maxRecDepth 100000 in
/-- wouldFame throws -/
theorem iX4_wouldFame (l : Launch) (D : va_G) (d : hs_Dm) (L : hs_Lo) (σ : hs_St) (A : Nat → Prop) (w : Nat) (L2 : hs_Lo) (hwA : ¬ A w) (hl0 : l.stackTraces = false) (x : Int32) (h0 : x < 0 ∨ ¬ x < σ 0 0 3) (y : Int32) (z : Int32) : wx_T l yX4_wouldFame wsX4_wouldFame ({ frames := 8, cells := 1, slots := 6, locals := 150 }) D d w L L2 σ A [.ref w, .int x, .int y, .int z] "java/lang/IndexOutOfBoundsException" := by
  refine vx_ofW (cc := cX4_wouldFame) (maxL := 5) (ret := (some .int)) (by decide) rfl ?_
  intro p e s m args below meth c s₁ B hml htb hv
  obtain ⟨rfl, ⟨⟨hW, hK⟩, hX⟩, hV⟩ := hv
  have hE := hX.1
  have hx := B.exec
  have hb := B.bytes
  have hr := B.returns
  have hts := atoms_spec (ws := wsX4_wouldFame) B.pre
  have hown : s.vm.findClass RX4 = some m.cls := findClass_of_methodNamed B.named
  have hlocks := B.notSynchronized
  have hS : va_S A s.heap s.heap [] := va_S.rf
  have hW : hs_W D d L σ A s.heap := hW
  have hl := lv_entry ([.ref w, .int x, .int y, .int z]) (n := 5) (Nat.le_of_ble_eq_true rfl)
  rw [lg_entry_eq]
  generalize (lg_sl ([.ref w, .int x, .int y, .int z]) ++ List.replicate (5 - (lg_sl ([.ref w, .int x, .int y, .int z])).length) Slot.unset).toArray = ls at hl ⊢
  have hl : lv_has ls 5 [(0, .ref w), (1, .int x), (2, .int y), (3, .int z)] := hl
  refine lv_aload_n hx hb dX4_wouldFame_0 rfl (lv_at hl 0 rfl) ?_
  refine va_get (D := D) (ci := cWx) (C := RX4) (T := TX4) (N := 2) (ws := [(w, .inr (cWx, [.ref (L 0 0), .ref (L2 0 0)]))]) (v := .ref (L 0 0)) hx hb hts (by decide +kernel) hown hK (wx_one hV hS hwA) 0 rfl rfl 0 (by decide) (hts (.fieldLink RX4 10 "Waxrow" "house" "LWaxrow$House;") (by decide +kernel)) (fun _ h9 => h9) rfl dX4_wouldFame_1 ?_
  refine lv_iload_n hx hb dX4_wouldFame_4 rfl (lv_at hl 1 rfl) ?_
  exact hx_callT (As := [.int x]) ⟨hx, hb, hml, hown, hts⟩ (tX1_personAt l D d L σ A hl0 x h0) (cwV 1 hts gX4_wouldFame_X1_personAt rfl rfl rfl (by decide +kernel) ⟨Nat.le_of_ble_eq_true rfl, Nat.le_of_ble_eq_true rfl⟩) hK hX hW hS hs_ix0 (ci := cHo) (r := (RX1, TX1, 11)) rfl rfl rfl rfl hl.1 (Nat.le_of_ble_eq_true rfl) dX4_wouldFame_5 ⟨Nat.le_of_ble_eq_true rfl, Nat.le_of_ble_eq_true rfl⟩ rfl (fun ce q9 H1 locs1 hW hS hce hcv hcl => hx_out htb hlocks hK hW hS hce hcv hcl (by decide) (by decide))
set_option maxHeartbeats 4000000 in
set_option maxRecDepth 100000 in
/-- work throws -/
theorem iX4_work (l : Launch) (D : va_G) (d : hs_Dm) (L : hs_Lo) (σ : hs_St) (A : Nat → Prop) (w : Nat) (L2 : hs_Lo) (hwA : ¬ A w) (hl0 : l.stackTraces = false) (x : Int32) (h0 : x < 0 ∨ ¬ x < σ 0 0 4) (y : Int32) : wx_T l yX4_work wsX4_work ({ frames := 8, cells := 1, slots := 6, locals := 150 }) D d w L L2 σ A [.ref w, .int x, .int y] "java/lang/IndexOutOfBoundsException" := by
  refine vx_ofW (cc := cX4_work) (maxL := 5) (ret := (some .int)) (by decide) rfl ?_
  intro p e s m args below meth c s₁ B hml htb hv
  obtain ⟨rfl, ⟨⟨hW, hK⟩, hX⟩, hV⟩ := hv
  have hE := hX.1
  have hx := B.exec
  have hb := B.bytes
  have hr := B.returns
  have hts := atoms_spec (ws := wsX4_work) B.pre
  have hown : s.vm.findClass RX4 = some m.cls := findClass_of_methodNamed B.named
  have hlocks := B.notSynchronized
  have hS : va_S A s.heap s.heap [] := va_S.rf
  have hW : hs_W D d L σ A s.heap := hW
  have hl := lv_entry ([.ref w, .int x, .int y]) (n := 5) (Nat.le_of_ble_eq_true rfl)
  rw [lg_entry_eq]
  generalize (lg_sl ([.ref w, .int x, .int y]) ++ List.replicate (5 - (lg_sl ([.ref w, .int x, .int y])).length) Slot.unset).toArray = ls at hl ⊢
  have hl : lv_has ls 5 [(0, .ref w), (1, .int x), (2, .int y)] := hl
  refine lv_aload_n hx hb dX4_work_0 rfl (lv_at hl 0 rfl) ?_
  refine va_get (D := D) (ci := cWx) (C := RX4) (T := TX4) (N := 2) (ws := [(w, .inr (cWx, [.ref (L 0 0), .ref (L2 0 0)]))]) (v := .ref (L 0 0)) hx hb hts (by decide +kernel) hown hK (wx_one hV hS hwA) 0 rfl rfl 0 (by decide) (hts (.fieldLink RX4 10 "Waxrow" "house" "LWaxrow$House;") (by decide +kernel)) (fun _ h9 => h9) rfl dX4_work_1 ?_
  refine lv_iload_n hx hb dX4_work_4 rfl (lv_at hl 1 rfl) ?_
  exact hx_callT (As := [.int x]) ⟨hx, hb, hml, hown, hts⟩ (tX1_figureAt l D d L σ A hl0 x h0) (cwV 1 hts gX4_work_X1_figureAt rfl rfl rfl (by decide +kernel) ⟨Nat.le_of_ble_eq_true rfl, Nat.le_of_ble_eq_true rfl⟩) hK hX hW hS hs_ix0 (ci := cHo) (r := (RX1, TX1, 11)) rfl rfl rfl rfl hl.1 (Nat.le_of_ble_eq_true rfl) dX4_work_5 ⟨Nat.le_of_ble_eq_true rfl, Nat.le_of_ble_eq_true rfl⟩ rfl (fun ce q9 H1 locs1 hW hS hce hcv hcl => hx_out htb hlocks hK hW hS hce hcv hcl (by decide) (by decide))
set_option maxHeartbeats 4000000 in
set_option maxRecDepth 100000 in
/-- swap throws -/
theorem iX4_swap (l : Launch) (D : va_G) (d : hs_Dm) (L : hs_Lo) (σ : hs_St) (A : Nat → Prop) (w : Nat) (L2 : hs_Lo) (hwA : ¬ A w) (hl0 : l.stackTraces = false) (x : Int32) (h0 : x < 0 ∨ ¬ x < σ 0 0 4) (y : Int32) : wx_T l yX4_swap wsX4_swap ({ frames := 8, cells := 1, slots := 6, locals := 150 }) D d w L L2 σ A [.ref w, .int x, .int y] "java/lang/IndexOutOfBoundsException" := by
  refine vx_ofW (cc := cX4_swap) (maxL := 5) (ret := (some .int)) (by decide) rfl ?_
  intro p e s m args below meth c s₁ B hml htb hv
  obtain ⟨rfl, ⟨⟨hW, hK⟩, hX⟩, hV⟩ := hv
  have hE := hX.1
  have hx := B.exec
  have hb := B.bytes
  have hr := B.returns
  have hts := atoms_spec (ws := wsX4_swap) B.pre
  have hown : s.vm.findClass RX4 = some m.cls := findClass_of_methodNamed B.named
  have hlocks := B.notSynchronized
  have hS : va_S A s.heap s.heap [] := va_S.rf
  have hW : hs_W D d L σ A s.heap := hW
  have hl := lv_entry ([.ref w, .int x, .int y]) (n := 5) (Nat.le_of_ble_eq_true rfl)
  rw [lg_entry_eq]
  generalize (lg_sl ([.ref w, .int x, .int y]) ++ List.replicate (5 - (lg_sl ([.ref w, .int x, .int y])).length) Slot.unset).toArray = ls at hl ⊢
  have hl : lv_has ls 5 [(0, .ref w), (1, .int x), (2, .int y)] := hl
  refine lv_aload_n hx hb dX4_swap_0 rfl (lv_at hl 0 rfl) ?_
  refine va_get (D := D) (ci := cWx) (C := RX4) (T := TX4) (N := 2) (ws := [(w, .inr (cWx, [.ref (L 0 0), .ref (L2 0 0)]))]) (v := .ref (L 0 0)) hx hb hts (by decide +kernel) hown hK (wx_one hV hS hwA) 0 rfl rfl 0 (by decide) (hts (.fieldLink RX4 10 "Waxrow" "house" "LWaxrow$House;") (by decide +kernel)) (fun _ h9 => h9) rfl dX4_swap_1 ?_
  refine lv_iload_n hx hb dX4_swap_4 rfl (lv_at hl 1 rfl) ?_
  exact hx_callT (As := [.int x]) ⟨hx, hb, hml, hown, hts⟩ (tX1_figureAt l D d L σ A hl0 x h0) (cwV 1 hts gX4_swap_X1_figureAt rfl rfl rfl (by decide +kernel) ⟨Nat.le_of_ble_eq_true rfl, Nat.le_of_ble_eq_true rfl⟩) hK hX hW hS hs_ix0 (ci := cHo) (r := (RX1, TX1, 11)) rfl rfl rfl rfl hl.1 (Nat.le_of_ble_eq_true rfl) dX4_swap_5 ⟨Nat.le_of_ble_eq_true rfl, Nat.le_of_ble_eq_true rfl⟩ rfl (fun ce q9 H1 locs1 hW hS hce hcv hcl => hx_out htb hlocks hK hW hS hce hcv hcl (by decide) (by decide))
set_option maxHeartbeats 4000000 in
set_option maxRecDepth 100000 in
/-- mend throws -/
theorem iX4_mend (l : Launch) (D : va_G) (d : hs_Dm) (L : hs_Lo) (σ : hs_St) (A : Nat → Prop) (w : Nat) (L2 : hs_Lo) (hwA : ¬ A w) (hl0 : l.stackTraces = false) (x : Int32) (h0 : x < 0 ∨ ¬ x < σ 0 0 4) (y : Int32) : wx_T l yX4_mend wsX4_mend ({ frames := 8, cells := 1, slots := 6, locals := 150 }) D d w L L2 σ A [.ref w, .int x, .int y] "java/lang/IndexOutOfBoundsException" := by
  refine vx_ofW (cc := cX4_mend) (maxL := 4) (ret := (some .int)) (by decide) rfl ?_
  intro p e s m args below meth c s₁ B hml htb hv
  obtain ⟨rfl, ⟨⟨hW, hK⟩, hX⟩, hV⟩ := hv
  have hE := hX.1
  have hx := B.exec
  have hb := B.bytes
  have hr := B.returns
  have hts := atoms_spec (ws := wsX4_mend) B.pre
  have hown : s.vm.findClass RX4 = some m.cls := findClass_of_methodNamed B.named
  have hlocks := B.notSynchronized
  have hS : va_S A s.heap s.heap [] := va_S.rf
  have hW : hs_W D d L σ A s.heap := hW
  have hl := lv_entry ([.ref w, .int x, .int y]) (n := 4) (Nat.le_of_ble_eq_true rfl)
  rw [lg_entry_eq]
  generalize (lg_sl ([.ref w, .int x, .int y]) ++ List.replicate (4 - (lg_sl ([.ref w, .int x, .int y])).length) Slot.unset).toArray = ls at hl ⊢
  have hl : lv_has ls 4 [(0, .ref w), (1, .int x), (2, .int y)] := hl
  refine lv_aload_n hx hb dX4_mend_0 rfl (lv_at hl 0 rfl) ?_
  refine va_get (D := D) (ci := cWx) (C := RX4) (T := TX4) (N := 2) (ws := [(w, .inr (cWx, [.ref (L 0 0), .ref (L2 0 0)]))]) (v := .ref (L 0 0)) hx hb hts (by decide +kernel) hown hK (wx_one hV hS hwA) 0 rfl rfl 0 (by decide) (hts (.fieldLink RX4 10 "Waxrow" "house" "LWaxrow$House;") (by decide +kernel)) (fun _ h9 => h9) rfl dX4_mend_1 ?_
  refine lv_iload_n hx hb dX4_mend_4 rfl (lv_at hl 1 rfl) ?_
  exact hx_callT (As := [.int x]) ⟨hx, hb, hml, hown, hts⟩ (tX1_figureAt l D d L σ A hl0 x h0) (cwV 1 hts gX4_mend_X1_figureAt rfl rfl rfl (by decide +kernel) ⟨Nat.le_of_ble_eq_true rfl, Nat.le_of_ble_eq_true rfl⟩) hK hX hW hS hs_ix0 (ci := cHo) (r := (RX1, TX1, 11)) rfl rfl rfl rfl hl.1 (Nat.le_of_ble_eq_true rfl) dX4_mend_5 ⟨Nat.le_of_ble_eq_true rfl, Nat.le_of_ble_eq_true rfl⟩ rfl (fun ce q9 H1 locs1 hW hS hce hcv hcl => hx_out htb hlocks hK hW hS hce hcv hcl (by decide) (by decide))
set_option maxHeartbeats 4000000 in
set_option maxRecDepth 100000 in
/-- melt throws -/
theorem iX4_melt (l : Launch) (D : va_G) (d : hs_Dm) (L : hs_Lo) (σ : hs_St) (A : Nat → Prop) (w : Nat) (L2 : hs_Lo) (hwA : ¬ A w) (hl0 : l.stackTraces = false) (x : Int32) (h0 : x < 0 ∨ ¬ x < σ 0 0 4) : wx_T l yX4_melt wsX4_melt ({ frames := 8, cells := 1, slots := 6, locals := 150 }) D d w L L2 σ A [.ref w, .int x] "java/lang/IndexOutOfBoundsException" := by
  refine vx_ofW (cc := cX4_melt) (maxL := 3) (ret := (some .int)) (by decide) rfl ?_
  intro p e s m args below meth c s₁ B hml htb hv
  obtain ⟨rfl, ⟨⟨hW, hK⟩, hX⟩, hV⟩ := hv
  have hE := hX.1
  have hx := B.exec
  have hb := B.bytes
  have hr := B.returns
  have hts := atoms_spec (ws := wsX4_melt) B.pre
  have hown : s.vm.findClass RX4 = some m.cls := findClass_of_methodNamed B.named
  have hlocks := B.notSynchronized
  have hS : va_S A s.heap s.heap [] := va_S.rf
  have hW : hs_W D d L σ A s.heap := hW
  have hl := lv_entry ([.ref w, .int x]) (n := 3) (Nat.le_of_ble_eq_true rfl)
  rw [lg_entry_eq]
  generalize (lg_sl ([.ref w, .int x]) ++ List.replicate (3 - (lg_sl ([.ref w, .int x])).length) Slot.unset).toArray = ls at hl ⊢
  have hl : lv_has ls 3 [(0, .ref w), (1, .int x)] := hl
  refine lv_aload_n hx hb dX4_melt_0 rfl (lv_at hl 0 rfl) ?_
  refine va_get (D := D) (ci := cWx) (C := RX4) (T := TX4) (N := 2) (ws := [(w, .inr (cWx, [.ref (L 0 0), .ref (L2 0 0)]))]) (v := .ref (L 0 0)) hx hb hts (by decide +kernel) hown hK (wx_one hV hS hwA) 0 rfl rfl 0 (by decide) (hts (.fieldLink RX4 10 "Waxrow" "house" "LWaxrow$House;") (by decide +kernel)) (fun _ h9 => h9) rfl dX4_melt_1 ?_
  refine lv_iload_n hx hb dX4_melt_4 rfl (lv_at hl 1 rfl) ?_
  exact hx_callT (As := [.int x]) ⟨hx, hb, hml, hown, hts⟩ (tX1_figureAt l D d L σ A hl0 x h0) (cwV 1 hts gX4_melt_X1_figureAt rfl rfl rfl (by decide +kernel) ⟨Nat.le_of_ble_eq_true rfl, Nat.le_of_ble_eq_true rfl⟩) hK hX hW hS hs_ix0 (ci := cHo) (r := (RX1, TX1, 11)) rfl rfl rfl rfl hl.1 (Nat.le_of_ble_eq_true rfl) dX4_melt_5 ⟨Nat.le_of_ble_eq_true rfl, Nat.le_of_ble_eq_true rfl⟩ rfl (fun ce q9 H1 locs1 hW hS hce hcv hcl => hx_out htb hlocks hK hW hS hce hcv hcl (by decide) (by decide))
set_option maxHeartbeats 4000000 in
set_option maxRecDepth 100000 in
/-- tour throws -/
theorem iX4_tour (l : Launch) (D : va_G) (d : hs_Dm) (L : hs_Lo) (σ : hs_St) (A : Nat → Prop) (w : Nat) (L2 : hs_Lo) (hwA : ¬ A w) (hl0 : l.stackTraces = false) (x : Int32) (h0 : x < 0 ∨ ¬ x < σ 0 0 4) (y : Int32) (z : Int32) : wx_T l yX4_tour wsX4_tour ({ frames := 8, cells := 1, slots := 6, locals := 150 }) D d w L L2 σ A [.ref w, .int x, .int y, .int z] "java/lang/IndexOutOfBoundsException" := by
  refine vx_ofW (cc := cX4_tour) (maxL := 5) (ret := (some .int)) (by decide) rfl ?_
  intro p e s m args below meth c s₁ B hml htb hv
  obtain ⟨rfl, ⟨⟨hW, hK⟩, hX⟩, hV⟩ := hv
  have hE := hX.1
  have hx := B.exec
  have hb := B.bytes
  have hr := B.returns
  have hts := atoms_spec (ws := wsX4_tour) B.pre
  have hown : s.vm.findClass RX4 = some m.cls := findClass_of_methodNamed B.named
  have hlocks := B.notSynchronized
  have hS : va_S A s.heap s.heap [] := va_S.rf
  have hW : hs_W D d L σ A s.heap := hW
  have hl := lv_entry ([.ref w, .int x, .int y, .int z]) (n := 5) (Nat.le_of_ble_eq_true rfl)
  rw [lg_entry_eq]
  generalize (lg_sl ([.ref w, .int x, .int y, .int z]) ++ List.replicate (5 - (lg_sl ([.ref w, .int x, .int y, .int z])).length) Slot.unset).toArray = ls at hl ⊢
  have hl : lv_has ls 5 [(0, .ref w), (1, .int x), (2, .int y), (3, .int z)] := hl
  refine lv_aload_n hx hb dX4_tour_0 rfl (lv_at hl 0 rfl) ?_
  refine va_get (D := D) (ci := cWx) (C := RX4) (T := TX4) (N := 2) (ws := [(w, .inr (cWx, [.ref (L 0 0), .ref (L2 0 0)]))]) (v := .ref (L 0 0)) hx hb hts (by decide +kernel) hown hK (wx_one hV hS hwA) 0 rfl rfl 0 (by decide) (hts (.fieldLink RX4 10 "Waxrow" "house" "LWaxrow$House;") (by decide +kernel)) (fun _ h9 => h9) rfl dX4_tour_1 ?_
  refine lv_iload_n hx hb dX4_tour_4 rfl (lv_at hl 1 rfl) ?_
  exact hx_callT (As := [.int x]) ⟨hx, hb, hml, hown, hts⟩ (tX1_figureAt l D d L σ A hl0 x h0) (cwV 1 hts gX4_tour_X1_figureAt rfl rfl rfl (by decide +kernel) ⟨Nat.le_of_ble_eq_true rfl, Nat.le_of_ble_eq_true rfl⟩) hK hX hW hS hs_ix0 (ci := cHo) (r := (RX1, TX1, 11)) rfl rfl rfl rfl hl.1 (Nat.le_of_ble_eq_true rfl) dX4_tour_5 ⟨Nat.le_of_ble_eq_true rfl, Nat.le_of_ble_eq_true rfl⟩ rfl (fun ce q9 H1 locs1 hW hS hce hcv hcl => hx_out htb hlocks hK hW hS hce hcv hcl (by decide) (by decide))
set_option maxHeartbeats 4000000 in
set_option maxRecDepth 100000 in
/-- show throws -/
theorem iX4_show (l : Launch) (D : va_G) (d : hs_Dm) (L : hs_Lo) (σ : hs_St) (A : Nat → Prop) (w : Nat) (L2 : hs_Lo) (hwA : ¬ A w) (hl0 : l.stackTraces = false) (x : Int32) (h0 : x < 0 ∨ ¬ x < σ 0 0 4) (y : Int32) : wx_T l yX4_show wsX4_show ({ frames := 8, cells := 1, slots := 6, locals := 150 }) D d w L L2 σ A [.ref w, .int x, .int y] "java/lang/IndexOutOfBoundsException" := by
  refine vx_ofW (cc := cX4_show) (maxL := 5) (ret := (some .int)) (by decide) rfl ?_
  intro p e s m args below meth c s₁ B hml htb hv
  obtain ⟨rfl, ⟨⟨hW, hK⟩, hX⟩, hV⟩ := hv
  have hE := hX.1
  have hx := B.exec
  have hb := B.bytes
  have hr := B.returns
  have hts := atoms_spec (ws := wsX4_show) B.pre
  have hown : s.vm.findClass RX4 = some m.cls := findClass_of_methodNamed B.named
  have hlocks := B.notSynchronized
  have hS : va_S A s.heap s.heap [] := va_S.rf
  have hW : hs_W D d L σ A s.heap := hW
  have hl := lv_entry ([.ref w, .int x, .int y]) (n := 5) (Nat.le_of_ble_eq_true rfl)
  rw [lg_entry_eq]
  generalize (lg_sl ([.ref w, .int x, .int y]) ++ List.replicate (5 - (lg_sl ([.ref w, .int x, .int y])).length) Slot.unset).toArray = ls at hl ⊢
  have hl : lv_has ls 5 [(0, .ref w), (1, .int x), (2, .int y)] := hl
  refine lv_aload_n hx hb dX4_show_0 rfl (lv_at hl 0 rfl) ?_
  refine va_get (D := D) (ci := cWx) (C := RX4) (T := TX4) (N := 2) (ws := [(w, .inr (cWx, [.ref (L 0 0), .ref (L2 0 0)]))]) (v := .ref (L 0 0)) hx hb hts (by decide +kernel) hown hK (wx_one hV hS hwA) 0 rfl rfl 0 (by decide) (hts (.fieldLink RX4 10 "Waxrow" "house" "LWaxrow$House;") (by decide +kernel)) (fun _ h9 => h9) rfl dX4_show_1 ?_
  refine lv_iload_n hx hb dX4_show_4 rfl (lv_at hl 1 rfl) ?_
  exact hx_callT (As := [.int x]) ⟨hx, hb, hml, hown, hts⟩ (tX1_figureAt l D d L σ A hl0 x h0) (cwV 1 hts gX4_show_X1_figureAt rfl rfl rfl (by decide +kernel) ⟨Nat.le_of_ble_eq_true rfl, Nat.le_of_ble_eq_true rfl⟩) hK hX hW hS hs_ix0 (ci := cHo) (r := (RX1, TX1, 11)) rfl rfl rfl rfl hl.1 (Nat.le_of_ble_eq_true rfl) dX4_show_5 ⟨Nat.le_of_ble_eq_true rfl, Nat.le_of_ble_eq_true rfl⟩ rfl (fun ce q9 H1 locs1 hW hS hce hcv hcl => hx_out htb hlocks hK hW hS hce hcv hcl (by decide) (by decide))
set_option maxHeartbeats 4000000 in
set_option maxRecDepth 100000 in
/-- take throws -/
theorem iX4_take (l : Launch) (D : va_G) (d : hs_Dm) (L : hs_Lo) (σ : hs_St) (A : Nat → Prop) (w : Nat) (L2 : hs_Lo) (hwA : ¬ A w) (hl0 : l.stackTraces = false) (x : Int32) (h0 : x < 0 ∨ ¬ x < σ 0 0 4) : wx_T l yX4_take wsX4_take ({ frames := 8, cells := 1, slots := 6, locals := 150 }) D d w L L2 σ A [.ref w, .int x] "java/lang/IndexOutOfBoundsException" := by
  refine vx_ofW (cc := cX4_take) (maxL := 4) (ret := (some .int)) (by decide) rfl ?_
  intro p e s m args below meth c s₁ B hml htb hv
  obtain ⟨rfl, ⟨⟨hW, hK⟩, hX⟩, hV⟩ := hv
  have hE := hX.1
  have hx := B.exec
  have hb := B.bytes
  have hr := B.returns
  have hts := atoms_spec (ws := wsX4_take) B.pre
  have hown : s.vm.findClass RX4 = some m.cls := findClass_of_methodNamed B.named
  have hlocks := B.notSynchronized
  have hS : va_S A s.heap s.heap [] := va_S.rf
  have hW : hs_W D d L σ A s.heap := hW
  have hl := lv_entry ([.ref w, .int x]) (n := 4) (Nat.le_of_ble_eq_true rfl)
  rw [lg_entry_eq]
  generalize (lg_sl ([.ref w, .int x]) ++ List.replicate (4 - (lg_sl ([.ref w, .int x])).length) Slot.unset).toArray = ls at hl ⊢
  have hl : lv_has ls 4 [(0, .ref w), (1, .int x)] := hl
  refine lv_aload_n hx hb dX4_take_0 rfl (lv_at hl 0 rfl) ?_
  refine va_get (D := D) (ci := cWx) (C := RX4) (T := TX4) (N := 2) (ws := [(w, .inr (cWx, [.ref (L 0 0), .ref (L2 0 0)]))]) (v := .ref (L 0 0)) hx hb hts (by decide +kernel) hown hK (wx_one hV hS hwA) 0 rfl rfl 0 (by decide) (hts (.fieldLink RX4 10 "Waxrow" "house" "LWaxrow$House;") (by decide +kernel)) (fun _ h9 => h9) rfl dX4_take_1 ?_
  refine lv_iload_n hx hb dX4_take_4 rfl (lv_at hl 1 rfl) ?_
  exact hx_callT (As := [.int x]) ⟨hx, hb, hml, hown, hts⟩ (tX1_figureAt l D d L σ A hl0 x h0) (cwV 1 hts gX4_take_X1_figureAt rfl rfl rfl (by decide +kernel) ⟨Nat.le_of_ble_eq_true rfl, Nat.le_of_ble_eq_true rfl⟩) hK hX hW hS hs_ix0 (ci := cHo) (r := (RX1, TX1, 11)) rfl rfl rfl rfl hl.1 (Nat.le_of_ble_eq_true rfl) dX4_take_5 ⟨Nat.le_of_ble_eq_true rfl, Nat.le_of_ble_eq_true rfl⟩ rfl (fun ce q9 H1 locs1 hW hS hce hcv hcl => hx_out htb hlocks hK hW hS hce hcv hcl (by decide) (by decide))
set_option maxHeartbeats 4000000 in
set_option maxRecDepth 100000 in
/-- ofFigure throws -/
theorem iX4_ofFigure (l : Launch) (D : va_G) (d : hs_Dm) (L : hs_Lo) (σ : hs_St) (A : Nat → Prop) (w : Nat) (L2 : hs_Lo) (hwA : ¬ A w) (hl0 : l.stackTraces = false) (x : Int32) (h0 : x < 0 ∨ ¬ x < σ 0 0 4) (y : Int32) : wx_T l yX4_ofFigure wsX4_ofFigure ({ frames := 8, cells := 1, slots := 6, locals := 150 }) D d w L L2 σ A [.ref w, .int x, .int y] "java/lang/IndexOutOfBoundsException" := by
  refine vx_ofW (cc := cX4_ofFigure) (maxL := 4) (ret := (some .int)) (by decide) rfl ?_
  intro p e s m args below meth c s₁ B hml htb hv
  obtain ⟨rfl, ⟨⟨hW, hK⟩, hX⟩, hV⟩ := hv
  have hE := hX.1
  have hx := B.exec
  have hb := B.bytes
  have hr := B.returns
  have hts := atoms_spec (ws := wsX4_ofFigure) B.pre
  have hown : s.vm.findClass RX4 = some m.cls := findClass_of_methodNamed B.named
  have hlocks := B.notSynchronized
  have hS : va_S A s.heap s.heap [] := va_S.rf
  have hW : hs_W D d L σ A s.heap := hW
  have hl := lv_entry ([.ref w, .int x, .int y]) (n := 4) (Nat.le_of_ble_eq_true rfl)
  rw [lg_entry_eq]
  generalize (lg_sl ([.ref w, .int x, .int y]) ++ List.replicate (4 - (lg_sl ([.ref w, .int x, .int y])).length) Slot.unset).toArray = ls at hl ⊢
  have hl : lv_has ls 4 [(0, .ref w), (1, .int x), (2, .int y)] := hl
  refine lv_aload_n hx hb dX4_ofFigure_0 rfl (lv_at hl 0 rfl) ?_
  refine va_get (D := D) (ci := cWx) (C := RX4) (T := TX4) (N := 2) (ws := [(w, .inr (cWx, [.ref (L 0 0), .ref (L2 0 0)]))]) (v := .ref (L 0 0)) hx hb hts (by decide +kernel) hown hK (wx_one hV hS hwA) 0 rfl rfl 0 (by decide) (hts (.fieldLink RX4 10 "Waxrow" "house" "LWaxrow$House;") (by decide +kernel)) (fun _ h9 => h9) rfl dX4_ofFigure_1 ?_
  refine lv_iload_n hx hb dX4_ofFigure_4 rfl (lv_at hl 1 rfl) ?_
  exact hx_callT (As := [.int x]) ⟨hx, hb, hml, hown, hts⟩ (tX1_figureAt l D d L σ A hl0 x h0) (cwV 1 hts gX4_ofFigure_X1_figureAt rfl rfl rfl (by decide +kernel) ⟨Nat.le_of_ble_eq_true rfl, Nat.le_of_ble_eq_true rfl⟩) hK hX hW hS hs_ix0 (ci := cHo) (r := (RX1, TX1, 11)) rfl rfl rfl rfl hl.1 (Nat.le_of_ble_eq_true rfl) dX4_ofFigure_5 ⟨Nat.le_of_ble_eq_true rfl, Nat.le_of_ble_eq_true rfl⟩ rfl (fun ce q9 H1 locs1 hW hS hce hcv hcl => hx_out htb hlocks hK hW hS hce hcv hcl (by decide) (by decide))
set_option maxHeartbeats 4000000 in
set_option maxRecDepth 100000 in
/-- readyIn throws -/
theorem iX4_readyIn (l : Launch) (D : va_G) (d : hs_Dm) (L : hs_Lo) (σ : hs_St) (A : Nat → Prop) (w : Nat) (L2 : hs_Lo) (hwA : ¬ A w) (hl0 : l.stackTraces = false) (x : Int32) (h0 : x < 0 ∨ ¬ x < σ 0 0 4) : wx_T l yX4_readyIn wsX4_readyIn ({ frames := 8, cells := 1, slots := 6, locals := 150 }) D d w L L2 σ A [.ref w, .int x] "java/lang/IndexOutOfBoundsException" := by
  refine vx_ofW (cc := cX4_readyIn) (maxL := 2) (ret := (some .int)) (by decide) rfl ?_
  intro p e s m args below meth c s₁ B hml htb hv
  obtain ⟨rfl, ⟨⟨hW, hK⟩, hX⟩, hV⟩ := hv
  have hE := hX.1
  have hx := B.exec
  have hb := B.bytes
  have hr := B.returns
  have hts := atoms_spec (ws := wsX4_readyIn) B.pre
  have hown : s.vm.findClass RX4 = some m.cls := findClass_of_methodNamed B.named
  have hlocks := B.notSynchronized
  have hS : va_S A s.heap s.heap [] := va_S.rf
  have hW : hs_W D d L σ A s.heap := hW
  have hl := lv_entry ([.ref w, .int x]) (n := 2) (Nat.le_of_ble_eq_true rfl)
  rw [lg_entry_eq]
  generalize (lg_sl ([.ref w, .int x]) ++ List.replicate (2 - (lg_sl ([.ref w, .int x])).length) Slot.unset).toArray = ls at hl ⊢
  have hl : lv_has ls 2 [(0, .ref w), (1, .int x)] := hl
  refine lv_aload_n hx hb dX4_readyIn_0 rfl (lv_at hl 0 rfl) ?_
  refine va_get (D := D) (ci := cWx) (C := RX4) (T := TX4) (N := 2) (ws := [(w, .inr (cWx, [.ref (L 0 0), .ref (L2 0 0)]))]) (v := .ref (L 0 0)) hx hb hts (by decide +kernel) hown hK (wx_one hV hS hwA) 0 rfl rfl 0 (by decide) (hts (.fieldLink RX4 10 "Waxrow" "house" "LWaxrow$House;") (by decide +kernel)) (fun _ h9 => h9) rfl dX4_readyIn_1 ?_
  refine lv_iload_n hx hb dX4_readyIn_4 rfl (lv_at hl 1 rfl) ?_
  exact hx_callT (As := [.int x]) ⟨hx, hb, hml, hown, hts⟩ (tX1_figureAt l D d L σ A hl0 x h0) (cwV 1 hts gX4_readyIn_X1_figureAt rfl rfl rfl (by decide +kernel) ⟨Nat.le_of_ble_eq_true rfl, Nat.le_of_ble_eq_true rfl⟩) hK hX hW hS hs_ix0 (ci := cHo) (r := (RX1, TX1, 11)) rfl rfl rfl rfl hl.1 (Nat.le_of_ble_eq_true rfl) dX4_readyIn_5 ⟨Nat.le_of_ble_eq_true rfl, Nat.le_of_ble_eq_true rfl⟩ rfl (fun ce q9 H1 locs1 hW hS hce hcv hcl => hx_out htb hlocks hK hW hS hce hcv hcl (by decide) (by decide))
set_option maxHeartbeats 4000000 in
set_option maxRecDepth 100000 in
/-- meltsIn throws -/
theorem iX4_meltsIn (l : Launch) (D : va_G) (d : hs_Dm) (L : hs_Lo) (σ : hs_St) (A : Nat → Prop) (w : Nat) (L2 : hs_Lo) (hwA : ¬ A w) (hl0 : l.stackTraces = false) (x : Int32) (h0 : x < 0 ∨ ¬ x < σ 0 0 4) (y : Int32) (z : Int32) : wx_T l yX4_meltsIn wsX4_meltsIn ({ frames := 8, cells := 1, slots := 6, locals := 150 }) D d w L L2 σ A [.ref w, .int x, .int y, .int z] "java/lang/IndexOutOfBoundsException" := by
  refine vx_ofW (cc := cX4_meltsIn) (maxL := 7) (ret := (some .int)) (by decide) rfl ?_
  intro p e s m args below meth c s₁ B hml htb hv
  obtain ⟨rfl, ⟨⟨hW, hK⟩, hX⟩, hV⟩ := hv
  have hE := hX.1
  have hx := B.exec
  have hb := B.bytes
  have hr := B.returns
  have hts := atoms_spec (ws := wsX4_meltsIn) B.pre
  have hown : s.vm.findClass RX4 = some m.cls := findClass_of_methodNamed B.named
  have hlocks := B.notSynchronized
  have hS : va_S A s.heap s.heap [] := va_S.rf
  have hW : hs_W D d L σ A s.heap := hW
  have hl := lv_entry ([.ref w, .int x, .int y, .int z]) (n := 7) (Nat.le_of_ble_eq_true rfl)
  rw [lg_entry_eq]
  generalize (lg_sl ([.ref w, .int x, .int y, .int z]) ++ List.replicate (7 - (lg_sl ([.ref w, .int x, .int y, .int z])).length) Slot.unset).toArray = ls at hl ⊢
  have hl : lv_has ls 7 [(0, .ref w), (1, .int x), (2, .int y), (3, .int z)] := hl
  refine lv_aload_n hx hb dX4_meltsIn_0 rfl (lv_at hl 0 rfl) ?_
  refine va_get (D := D) (ci := cWx) (C := RX4) (T := TX4) (N := 2) (ws := [(w, .inr (cWx, [.ref (L 0 0), .ref (L2 0 0)]))]) (v := .ref (L 0 0)) hx hb hts (by decide +kernel) hown hK (wx_one hV hS hwA) 0 rfl rfl 0 (by decide) (hts (.fieldLink RX4 10 "Waxrow" "house" "LWaxrow$House;") (by decide +kernel)) (fun _ h9 => h9) rfl dX4_meltsIn_1 ?_
  refine lv_iload_n hx hb dX4_meltsIn_4 rfl (lv_at hl 1 rfl) ?_
  exact hx_callT (As := [.int x]) ⟨hx, hb, hml, hown, hts⟩ (tX1_figureAt l D d L σ A hl0 x h0) (cwV 1 hts gX4_meltsIn_X1_figureAt rfl rfl rfl (by decide +kernel) ⟨Nat.le_of_ble_eq_true rfl, Nat.le_of_ble_eq_true rfl⟩) hK hX hW hS hs_ix0 (ci := cHo) (r := (RX1, TX1, 11)) rfl rfl rfl rfl hl.1 (Nat.le_of_ble_eq_true rfl) dX4_meltsIn_5 ⟨Nat.le_of_ble_eq_true rfl, Nat.le_of_ble_eq_true rfl⟩ rfl (fun ce q9 H1 locs1 hW hS hce hcv hcl => hx_out htb hlocks hK hW hS hce hcv hcl (by decide) (by decide))
set_option maxHeartbeats 4000000 in
set_option maxRecDepth 100000 in
/-- lamps throws -/
theorem iX4_lamps (l : Launch) (D : va_G) (d : hs_Dm) (L : hs_Lo) (σ : hs_St) (A : Nat → Prop) (w : Nat) (L2 : hs_Lo) (hwA : ¬ A w) (hl0 : l.stackTraces = false) (x : Int32) (h0 : x < 0 ∨ ¬ x < σ 0 0 5) (y : Int32) : wx_T l yX4_lamps wsX4_lamps ({ frames := 8, cells := 1, slots := 6, locals := 150 }) D d w L L2 σ A [.ref w, .int x, .int y] "java/lang/IndexOutOfBoundsException" := by
  refine vx_ofW (cc := cX4_lamps) (maxL := 5) (ret := (some .int)) (by decide) rfl ?_
  intro p e s m args below meth c s₁ B hml htb hv
  obtain ⟨rfl, ⟨⟨hW, hK⟩, hX⟩, hV⟩ := hv
  have hE := hX.1
  have hx := B.exec
  have hb := B.bytes
  have hr := B.returns
  have hts := atoms_spec (ws := wsX4_lamps) B.pre
  have hown : s.vm.findClass RX4 = some m.cls := findClass_of_methodNamed B.named
  have hlocks := B.notSynchronized
  have hS : va_S A s.heap s.heap [] := va_S.rf
  have hW : hs_W D d L σ A s.heap := hW
  have hl := lv_entry ([.ref w, .int x, .int y]) (n := 5) (Nat.le_of_ble_eq_true rfl)
  rw [lg_entry_eq]
  generalize (lg_sl ([.ref w, .int x, .int y]) ++ List.replicate (5 - (lg_sl ([.ref w, .int x, .int y])).length) Slot.unset).toArray = ls at hl ⊢
  have hl : lv_has ls 5 [(0, .ref w), (1, .int x), (2, .int y)] := hl
  refine lv_aload_n hx hb dX4_lamps_0 rfl (lv_at hl 0 rfl) ?_
  refine va_get (D := D) (ci := cWx) (C := RX4) (T := TX4) (N := 2) (ws := [(w, .inr (cWx, [.ref (L 0 0), .ref (L2 0 0)]))]) (v := .ref (L 0 0)) hx hb hts (by decide +kernel) hown hK (wx_one hV hS hwA) 0 rfl rfl 0 (by decide) (hts (.fieldLink RX4 10 "Waxrow" "house" "LWaxrow$House;") (by decide +kernel)) (fun _ h9 => h9) rfl dX4_lamps_1 ?_
  refine lv_iload_n hx hb dX4_lamps_4 rfl (lv_at hl 1 rfl) ?_
  exact hx_callT (As := [.int x]) ⟨hx, hb, hml, hown, hts⟩ (tX1_roomAt l D d L σ A hl0 x h0) (cwV 1 hts gX4_lamps_X1_roomAt rfl rfl rfl (by decide +kernel) ⟨Nat.le_of_ble_eq_true rfl, Nat.le_of_ble_eq_true rfl⟩) hK hX hW hS hs_ix0 (ci := cHo) (r := (RX1, TX1, 11)) rfl rfl rfl rfl hl.1 (Nat.le_of_ble_eq_true rfl) dX4_lamps_5 ⟨Nat.le_of_ble_eq_true rfl, Nat.le_of_ble_eq_true rfl⟩ rfl (fun ce q9 H1 locs1 hW hS hce hcv hcl => hx_out htb hlocks hK hW hS hce hcv hcl (by decide) (by decide))
set_option maxHeartbeats 4000000 in
set_option maxRecDepth 100000 in
/-- ofRoom throws -/
theorem iX4_ofRoom (l : Launch) (D : va_G) (d : hs_Dm) (L : hs_Lo) (σ : hs_St) (A : Nat → Prop) (w : Nat) (L2 : hs_Lo) (hwA : ¬ A w) (hl0 : l.stackTraces = false) (x : Int32) (h0 : x < 0 ∨ ¬ x < σ 0 0 5) (y : Int32) : wx_T l yX4_ofRoom wsX4_ofRoom ({ frames := 8, cells := 1, slots := 6, locals := 150 }) D d w L L2 σ A [.ref w, .int x, .int y] "java/lang/IndexOutOfBoundsException" := by
  refine vx_ofW (cc := cX4_ofRoom) (maxL := 4) (ret := (some .int)) (by decide) rfl ?_
  intro p e s m args below meth c s₁ B hml htb hv
  obtain ⟨rfl, ⟨⟨hW, hK⟩, hX⟩, hV⟩ := hv
  have hE := hX.1
  have hx := B.exec
  have hb := B.bytes
  have hr := B.returns
  have hts := atoms_spec (ws := wsX4_ofRoom) B.pre
  have hown : s.vm.findClass RX4 = some m.cls := findClass_of_methodNamed B.named
  have hlocks := B.notSynchronized
  have hS : va_S A s.heap s.heap [] := va_S.rf
  have hW : hs_W D d L σ A s.heap := hW
  have hl := lv_entry ([.ref w, .int x, .int y]) (n := 4) (Nat.le_of_ble_eq_true rfl)
  rw [lg_entry_eq]
  generalize (lg_sl ([.ref w, .int x, .int y]) ++ List.replicate (4 - (lg_sl ([.ref w, .int x, .int y])).length) Slot.unset).toArray = ls at hl ⊢
  have hl : lv_has ls 4 [(0, .ref w), (1, .int x), (2, .int y)] := hl
  refine lv_aload_n hx hb dX4_ofRoom_0 rfl (lv_at hl 0 rfl) ?_
  refine va_get (D := D) (ci := cWx) (C := RX4) (T := TX4) (N := 2) (ws := [(w, .inr (cWx, [.ref (L 0 0), .ref (L2 0 0)]))]) (v := .ref (L 0 0)) hx hb hts (by decide +kernel) hown hK (wx_one hV hS hwA) 0 rfl rfl 0 (by decide) (hts (.fieldLink RX4 10 "Waxrow" "house" "LWaxrow$House;") (by decide +kernel)) (fun _ h9 => h9) rfl dX4_ofRoom_1 ?_
  refine lv_iload_n hx hb dX4_ofRoom_4 rfl (lv_at hl 1 rfl) ?_
  exact hx_callT (As := [.int x]) ⟨hx, hb, hml, hown, hts⟩ (tX1_roomAt l D d L σ A hl0 x h0) (cwV 1 hts gX4_ofRoom_X1_roomAt rfl rfl rfl (by decide +kernel) ⟨Nat.le_of_ble_eq_true rfl, Nat.le_of_ble_eq_true rfl⟩) hK hX hW hS hs_ix0 (ci := cHo) (r := (RX1, TX1, 11)) rfl rfl rfl rfl hl.1 (Nat.le_of_ble_eq_true rfl) dX4_ofRoom_5 ⟨Nat.le_of_ble_eq_true rfl, Nat.le_of_ble_eq_true rfl⟩ rfl (fun ce q9 H1 locs1 hW hS hce hcv hcl => hx_out htb hlocks hK hW hS hce hcv hcl (by decide) (by decide))
set_option maxHeartbeats 4000000 in
set_option maxRecDepth 100000 in
/-- clean throws -/
theorem iX4_clean (l : Launch) (D : va_G) (d : hs_Dm) (L : hs_Lo) (σ : hs_St) (A : Nat → Prop) (w : Nat) (L2 : hs_Lo) (hwA : ¬ A w) (hl0 : l.stackTraces = false) (x : Int32) (h0 : x < 0 ∨ ¬ x < σ 0 0 5) : wx_T l yX4_clean wsX4_clean ({ frames := 8, cells := 1, slots := 6, locals := 150 }) D d w L L2 σ A [.ref w, .int x] "java/lang/IndexOutOfBoundsException" := by
  refine vx_ofW (cc := cX4_clean) (maxL := 2) (ret := (some .int)) (by decide) rfl ?_
  intro p e s m args below meth c s₁ B hml htb hv
  obtain ⟨rfl, ⟨⟨hW, hK⟩, hX⟩, hV⟩ := hv
  have hE := hX.1
  have hx := B.exec
  have hb := B.bytes
  have hr := B.returns
  have hts := atoms_spec (ws := wsX4_clean) B.pre
  have hown : s.vm.findClass RX4 = some m.cls := findClass_of_methodNamed B.named
  have hlocks := B.notSynchronized
  have hS : va_S A s.heap s.heap [] := va_S.rf
  have hW : hs_W D d L σ A s.heap := hW
  have hl := lv_entry ([.ref w, .int x]) (n := 2) (Nat.le_of_ble_eq_true rfl)
  rw [lg_entry_eq]
  generalize (lg_sl ([.ref w, .int x]) ++ List.replicate (2 - (lg_sl ([.ref w, .int x])).length) Slot.unset).toArray = ls at hl ⊢
  have hl : lv_has ls 2 [(0, .ref w), (1, .int x)] := hl
  refine lv_iload_n hx hb dX4_clean_0 rfl (lv_at hl 1 rfl) ?_
  refine lv_aload_n hx hb dX4_clean_1 rfl (lv_at hl 0 rfl) ?_
  refine va_get (D := D) (ci := cWx) (C := RX4) (T := TX4) (N := 2) (ws := [(w, .inr (cWx, [.ref (L 0 0), .ref (L2 0 0)]))]) (v := .ref (L 0 0)) hx hb hts (by decide +kernel) hown hK (wx_one hV hS hwA) 0 rfl rfl 0 (by decide) (hts (.fieldLink RX4 10 "Waxrow" "house" "LWaxrow$House;") (by decide +kernel)) (fun _ h9 => h9) rfl dX4_clean_2 ?_
  refine va_get (D := D) (ci := cHo) (C := RX1) (T := TX1) (N := 11) (ws := [(L 0 0, hs_ct d L σ 0 0)]) (v := .int (σ 0 0 5)) hx hb hts (by decide +kernel) hown hK (hW.one hs_ix0) 0 rfl rfl 5 (by decide) (hts (.fieldLink RX4 150 "Waxrow$House" "roomCount" "I") (by decide +kernel)) (fun _ h9 => h9) rfl dX4_clean_5 ?_
  exact hx_runT (As := [.int x, .int (σ 0 0 5)]) ⟨hx, hb, hml, hown, hts⟩ (tX4_checkIndex l D d L σ A hl0 x (σ 0 0 5) h0) (va_cwS 2 hts gX4_clean_X4_checkIndex rfl rfl rfl (by decide +kernel) ⟨Nat.le_of_ble_eq_true rfl, Nat.le_of_ble_eq_true rfl⟩) hK hX hW hS rfl hl.1 (Nat.le_of_ble_eq_true rfl) dX4_clean_8 ⟨Nat.le_of_ble_eq_true rfl, Nat.le_of_ble_eq_true rfl⟩ rfl (fun ce q9 H1 locs1 hW hS hce hcv hcl => hx_out htb hlocks hK hW hS hce hcv hcl (by decide) (by decide))
set_option maxHeartbeats 4000000 in
set_option maxRecDepth 100000 in
/-- person throws -/
theorem aX4_person_0 (l : Launch) (D : va_G) (d : hs_Dm) (L : hs_Lo) (σ : hs_St) (A : Nat → Prop) (w : Nat) (L2 : hs_Lo) (hwA : ¬ A w) (hl0 : l.stackTraces = false) (x y z : Int32) (h0 : x < 0 ∨ ¬ x ≤ 999) : wx_T l yX4_person wsX4_person ({ frames := 8, cells := 1, slots := 6, locals := 150 }) D d w L L2 σ A [.ref w, .int x, .int y, .int z] "java/lang/IllegalArgumentException" := by
  refine vx_ofW (cc := cX4_person) (maxL := 4) (ret := (some .int)) (by decide) rfl ?_
  intro p e s m args below meth c s₁ B hml htb hv
  obtain ⟨rfl, ⟨⟨hW, hK⟩, hX⟩, hV⟩ := hv
  have hE := hX.1
  have hx := B.exec
  have hb := B.bytes
  have hr := B.returns
  have hts := atoms_spec (ws := wsX4_person) B.pre
  have hown : s.vm.findClass RX4 = some m.cls := findClass_of_methodNamed B.named
  have hlocks := B.notSynchronized
  have hS : va_S A s.heap s.heap [] := va_S.rf
  have hW : hs_W D d L σ A s.heap := hW
  have hl := lv_entry ([.ref w, .int x, .int y, .int z]) (n := 4) (Nat.le_of_ble_eq_true rfl)
  rw [lg_entry_eq]
  generalize (lg_sl ([.ref w, .int x, .int y, .int z]) ++ List.replicate (4 - (lg_sl ([.ref w, .int x, .int y, .int z])).length) Slot.unset).toArray = ls at hl ⊢
  have hl : lv_has ls 4 [(0, .ref w), (1, .int x), (2, .int y), (3, .int z)] := hl
  refine lv_iload_n hx hb dX4_person_0 rfl (lv_at hl 1 rfl) ?_
  refine lv_iconst (v := 0) hx hb dX4_person_1 (by decide) ?_
  refine lv_sipush (v := 999) hx hb dX4_person_2 (by decide) ?_
  exact hx_runT (As := [.int x, .int 0, .int 999]) ⟨hx, hb, hml, hown, hts⟩ (tX4_checkArgument l D d L σ A hl0 x 0 999 h0) (va_cwS 3 hts gX4_person_X4_checkArgument rfl rfl rfl (by decide +kernel) ⟨Nat.le_of_ble_eq_true rfl, Nat.le_of_ble_eq_true rfl⟩) hK hX hW hS rfl hl.1 (Nat.le_of_ble_eq_true rfl) dX4_person_5 ⟨Nat.le_of_ble_eq_true rfl, Nat.le_of_ble_eq_true rfl⟩ rfl (fun ce q9 H1 locs1 hW hS hce hcv hcl => hx_out htb hlocks hK hW hS hce hcv hcl (by decide) (by decide))
set_option maxHeartbeats 4000000 in
set_option maxRecDepth 100000 in
/-- person throws -/
theorem aX4_person_1 (l : Launch) (D : va_G) (d : hs_Dm) (L : hs_Lo) (σ : hs_St) (A : Nat → Prop) (w : Nat) (L2 : hs_Lo) (hwA : ¬ A w) (hl0 : l.stackTraces = false) (x y z : Int32) (h1 : ¬ x < 0) (g1 : x ≤ 999) (h0 : y < 0 ∨ ¬ y ≤ 999) : wx_T l yX4_person wsX4_person ({ frames := 8, cells := 1, slots := 6, locals := 150 }) D d w L L2 σ A [.ref w, .int x, .int y, .int z] "java/lang/IllegalArgumentException" := by
  refine vx_ofW (cc := cX4_person) (maxL := 4) (ret := (some .int)) (by decide) rfl ?_
  intro p e s m args below meth c s₁ B hml htb hv
  obtain ⟨rfl, ⟨⟨hW, hK⟩, hX⟩, hV⟩ := hv
  have hE := hX.1
  have hx := B.exec
  have hb := B.bytes
  have hr := B.returns
  have hts := atoms_spec (ws := wsX4_person) B.pre
  have hown : s.vm.findClass RX4 = some m.cls := findClass_of_methodNamed B.named
  have hlocks := B.notSynchronized
  have hS : va_S A s.heap s.heap [] := va_S.rf
  have hW : hs_W D d L σ A s.heap := hW
  have hl := lv_entry ([.ref w, .int x, .int y, .int z]) (n := 4) (Nat.le_of_ble_eq_true rfl)
  rw [lg_entry_eq]
  generalize (lg_sl ([.ref w, .int x, .int y, .int z]) ++ List.replicate (4 - (lg_sl ([.ref w, .int x, .int y, .int z])).length) Slot.unset).toArray = ls at hl ⊢
  have hl : lv_has ls 4 [(0, .ref w), (1, .int x), (2, .int y), (3, .int z)] := hl
  refine lv_iload_n hx hb dX4_person_0 rfl (lv_at hl 1 rfl) ?_
  refine lv_iconst (v := 0) hx hb dX4_person_1 (by decide) ?_
  refine lv_sipush (v := 999) hx hb dX4_person_2 (by decide) ?_
  refine hs_runv (As := [.int x, .int 0, .int 999]) ⟨hx, hb, hml, hown, hts⟩ (kX4_checkArgument l D d L σ A x 0 999 h1 g1) (va_cwS 3 hts gX4_person_X4_checkArgument rfl rfl rfl (by decide +kernel) ⟨Nat.le_of_ble_eq_true rfl, Nat.le_of_ble_eq_true rfl⟩) hK hE hW hS rfl hl.1 (Nat.le_of_ble_eq_true rfl) dX4_person_5 ⟨Nat.zero_le _, Nat.zero_le _⟩ rfl (fun τ_ H locs hp hW hS => ?_)
  obtain rfl := hp
  refine lv_iload_n hx hb dX4_person_8 rfl (lv_at hl 2 rfl) ?_
  refine lv_iconst (v := 0) hx hb dX4_person_9 (by decide) ?_
  refine lv_sipush (v := 999) hx hb dX4_person_10 (by decide) ?_
  exact hx_runT (As := [.int y, .int 0, .int 999]) ⟨hx, hb, hml, hown, hts⟩ (tX4_checkArgument l D d L σ A hl0 y 0 999 h0) (va_cwS 3 hts gX4_person_X4_checkArgument rfl rfl rfl (by decide +kernel) ⟨Nat.le_of_ble_eq_true rfl, Nat.le_of_ble_eq_true rfl⟩) hK hX hW hS rfl hl.1 (Nat.le_of_ble_eq_true rfl) dX4_person_13 ⟨Nat.le_of_ble_eq_true rfl, Nat.le_of_ble_eq_true rfl⟩ rfl (fun ce q9 H1 locs1 hW hS hce hcv hcl => hx_out htb hlocks hK hW hS hce hcv hcl (by decide) (by decide))
set_option maxHeartbeats 4000000 in
set_option maxRecDepth 100000 in
/-- person throws -/
theorem aX4_person_2 (l : Launch) (D : va_G) (d : hs_Dm) (L : hs_Lo) (σ : hs_St) (A : Nat → Prop) (w : Nat) (L2 : hs_Lo) (hwA : ¬ A w) (hl0 : l.stackTraces = false) (x y z : Int32) (h1 : ¬ x < 0) (g1 : x ≤ 999) (h2 : ¬ y < 0) (g2 : y ≤ 999) (h0 : z < 0 ∨ ¬ z ≤ 999) : wx_T l yX4_person wsX4_person ({ frames := 8, cells := 1, slots := 6, locals := 150 }) D d w L L2 σ A [.ref w, .int x, .int y, .int z] "java/lang/IllegalArgumentException" := by
  refine vx_ofW (cc := cX4_person) (maxL := 4) (ret := (some .int)) (by decide) rfl ?_
  intro p e s m args below meth c s₁ B hml htb hv
  obtain ⟨rfl, ⟨⟨hW, hK⟩, hX⟩, hV⟩ := hv
  have hE := hX.1
  have hx := B.exec
  have hb := B.bytes
  have hr := B.returns
  have hts := atoms_spec (ws := wsX4_person) B.pre
  have hown : s.vm.findClass RX4 = some m.cls := findClass_of_methodNamed B.named
  have hlocks := B.notSynchronized
  have hS : va_S A s.heap s.heap [] := va_S.rf
  have hW : hs_W D d L σ A s.heap := hW
  have hl := lv_entry ([.ref w, .int x, .int y, .int z]) (n := 4) (Nat.le_of_ble_eq_true rfl)
  rw [lg_entry_eq]
  generalize (lg_sl ([.ref w, .int x, .int y, .int z]) ++ List.replicate (4 - (lg_sl ([.ref w, .int x, .int y, .int z])).length) Slot.unset).toArray = ls at hl ⊢
  have hl : lv_has ls 4 [(0, .ref w), (1, .int x), (2, .int y), (3, .int z)] := hl
  refine lv_iload_n hx hb dX4_person_0 rfl (lv_at hl 1 rfl) ?_
  refine lv_iconst (v := 0) hx hb dX4_person_1 (by decide) ?_
  refine lv_sipush (v := 999) hx hb dX4_person_2 (by decide) ?_
  refine hs_runv (As := [.int x, .int 0, .int 999]) ⟨hx, hb, hml, hown, hts⟩ (kX4_checkArgument l D d L σ A x 0 999 h1 g1) (va_cwS 3 hts gX4_person_X4_checkArgument rfl rfl rfl (by decide +kernel) ⟨Nat.le_of_ble_eq_true rfl, Nat.le_of_ble_eq_true rfl⟩) hK hE hW hS rfl hl.1 (Nat.le_of_ble_eq_true rfl) dX4_person_5 ⟨Nat.zero_le _, Nat.zero_le _⟩ rfl (fun τ_ H locs hp hW hS => ?_)
  obtain rfl := hp
  refine lv_iload_n hx hb dX4_person_8 rfl (lv_at hl 2 rfl) ?_
  refine lv_iconst (v := 0) hx hb dX4_person_9 (by decide) ?_
  refine lv_sipush (v := 999) hx hb dX4_person_10 (by decide) ?_
  refine hs_runv (As := [.int y, .int 0, .int 999]) ⟨hx, hb, hml, hown, hts⟩ (kX4_checkArgument l D d L σ A y 0 999 h2 g2) (va_cwS 3 hts gX4_person_X4_checkArgument rfl rfl rfl (by decide +kernel) ⟨Nat.le_of_ble_eq_true rfl, Nat.le_of_ble_eq_true rfl⟩) hK hE hW hS rfl hl.1 (Nat.le_of_ble_eq_true rfl) dX4_person_13 ⟨Nat.zero_le _, Nat.zero_le _⟩ rfl (fun τ_ H locs hp hW hS => ?_)
  obtain rfl := hp
  refine lv_iload_n hx hb dX4_person_16 rfl (lv_at hl 3 rfl) ?_
  refine lv_iconst (v := 0) hx hb dX4_person_17 (by decide) ?_
  refine lv_sipush (v := 999) hx hb dX4_person_18 (by decide) ?_
  exact hx_runT (As := [.int z, .int 0, .int 999]) ⟨hx, hb, hml, hown, hts⟩ (tX4_checkArgument l D d L σ A hl0 z 0 999 h0) (va_cwS 3 hts gX4_person_X4_checkArgument rfl rfl rfl (by decide +kernel) ⟨Nat.le_of_ble_eq_true rfl, Nat.le_of_ble_eq_true rfl⟩) hK hX hW hS rfl hl.1 (Nat.le_of_ble_eq_true rfl) dX4_person_21 ⟨Nat.le_of_ble_eq_true rfl, Nat.le_of_ble_eq_true rfl⟩ rfl (fun ce q9 H1 locs1 hW hS hce hcv hcl => hx_out htb hlocks hK hW hS hce hcv hcl (by decide) (by decide))
set_option maxHeartbeats 4000000 in
set_option maxRecDepth 100000 in
/-- room throws -/
theorem aX4_room_0 (l : Launch) (D : va_G) (d : hs_Dm) (L : hs_Lo) (σ : hs_St) (A : Nat → Prop) (w : Nat) (L2 : hs_Lo) (hwA : ¬ A w) (hl0 : l.stackTraces = false) (x y : Int32) (h0 : x < 0 ∨ ¬ x ≤ 9) : wx_T l yX4_room wsX4_room ({ frames := 8, cells := 1, slots := 6, locals := 150 }) D d w L L2 σ A [.ref w, .int x, .int y] "java/lang/IllegalArgumentException" := by
  refine vx_ofW (cc := cX4_room) (maxL := 3) (ret := (some .int)) (by decide) rfl ?_
  intro p e s m args below meth c s₁ B hml htb hv
  obtain ⟨rfl, ⟨⟨hW, hK⟩, hX⟩, hV⟩ := hv
  have hE := hX.1
  have hx := B.exec
  have hb := B.bytes
  have hr := B.returns
  have hts := atoms_spec (ws := wsX4_room) B.pre
  have hown : s.vm.findClass RX4 = some m.cls := findClass_of_methodNamed B.named
  have hlocks := B.notSynchronized
  have hS : va_S A s.heap s.heap [] := va_S.rf
  have hW : hs_W D d L σ A s.heap := hW
  have hl := lv_entry ([.ref w, .int x, .int y]) (n := 3) (Nat.le_of_ble_eq_true rfl)
  rw [lg_entry_eq]
  generalize (lg_sl ([.ref w, .int x, .int y]) ++ List.replicate (3 - (lg_sl ([.ref w, .int x, .int y])).length) Slot.unset).toArray = ls at hl ⊢
  have hl : lv_has ls 3 [(0, .ref w), (1, .int x), (2, .int y)] := hl
  refine lv_iload_n hx hb dX4_room_0 rfl (lv_at hl 1 rfl) ?_
  refine lv_iconst (v := 0) hx hb dX4_room_1 (by decide) ?_
  refine lv_bipush (v := 9) hx hb dX4_room_2 (by decide) ?_
  exact hx_runT (As := [.int x, .int 0, .int 9]) ⟨hx, hb, hml, hown, hts⟩ (tX4_checkArgument l D d L σ A hl0 x 0 9 h0) (va_cwS 3 hts gX4_room_X4_checkArgument rfl rfl rfl (by decide +kernel) ⟨Nat.le_of_ble_eq_true rfl, Nat.le_of_ble_eq_true rfl⟩) hK hX hW hS rfl hl.1 (Nat.le_of_ble_eq_true rfl) dX4_room_4 ⟨Nat.le_of_ble_eq_true rfl, Nat.le_of_ble_eq_true rfl⟩ rfl (fun ce q9 H1 locs1 hW hS hce hcv hcl => hx_out htb hlocks hK hW hS hce hcv hcl (by decide) (by decide))
set_option maxHeartbeats 4000000 in
set_option maxRecDepth 100000 in
/-- room throws -/
theorem aX4_room_1 (l : Launch) (D : va_G) (d : hs_Dm) (L : hs_Lo) (σ : hs_St) (A : Nat → Prop) (w : Nat) (L2 : hs_Lo) (hwA : ¬ A w) (hl0 : l.stackTraces = false) (x y : Int32) (h1 : ¬ x < 0) (g1 : x ≤ 9) (h0 : y < 1 ∨ ¬ y ≤ 4) : wx_T l yX4_room wsX4_room ({ frames := 8, cells := 1, slots := 6, locals := 150 }) D d w L L2 σ A [.ref w, .int x, .int y] "java/lang/IllegalArgumentException" := by
  refine vx_ofW (cc := cX4_room) (maxL := 3) (ret := (some .int)) (by decide) rfl ?_
  intro p e s m args below meth c s₁ B hml htb hv
  obtain ⟨rfl, ⟨⟨hW, hK⟩, hX⟩, hV⟩ := hv
  have hE := hX.1
  have hx := B.exec
  have hb := B.bytes
  have hr := B.returns
  have hts := atoms_spec (ws := wsX4_room) B.pre
  have hown : s.vm.findClass RX4 = some m.cls := findClass_of_methodNamed B.named
  have hlocks := B.notSynchronized
  have hS : va_S A s.heap s.heap [] := va_S.rf
  have hW : hs_W D d L σ A s.heap := hW
  have hl := lv_entry ([.ref w, .int x, .int y]) (n := 3) (Nat.le_of_ble_eq_true rfl)
  rw [lg_entry_eq]
  generalize (lg_sl ([.ref w, .int x, .int y]) ++ List.replicate (3 - (lg_sl ([.ref w, .int x, .int y])).length) Slot.unset).toArray = ls at hl ⊢
  have hl : lv_has ls 3 [(0, .ref w), (1, .int x), (2, .int y)] := hl
  refine lv_iload_n hx hb dX4_room_0 rfl (lv_at hl 1 rfl) ?_
  refine lv_iconst (v := 0) hx hb dX4_room_1 (by decide) ?_
  refine lv_bipush (v := 9) hx hb dX4_room_2 (by decide) ?_
  refine hs_runv (As := [.int x, .int 0, .int 9]) ⟨hx, hb, hml, hown, hts⟩ (kX4_checkArgument l D d L σ A x 0 9 h1 g1) (va_cwS 3 hts gX4_room_X4_checkArgument rfl rfl rfl (by decide +kernel) ⟨Nat.le_of_ble_eq_true rfl, Nat.le_of_ble_eq_true rfl⟩) hK hE hW hS rfl hl.1 (Nat.le_of_ble_eq_true rfl) dX4_room_4 ⟨Nat.zero_le _, Nat.zero_le _⟩ rfl (fun τ_ H locs hp hW hS => ?_)
  obtain rfl := hp
  refine lv_iload_n hx hb dX4_room_7 rfl (lv_at hl 2 rfl) ?_
  refine lv_iconst (v := 1) hx hb dX4_room_8 (by decide) ?_
  refine lv_iconst (v := 4) hx hb dX4_room_9 (by decide) ?_
  exact hx_runT (As := [.int y, .int 1, .int 4]) ⟨hx, hb, hml, hown, hts⟩ (tX4_checkArgument l D d L σ A hl0 y 1 4 h0) (va_cwS 3 hts gX4_room_X4_checkArgument rfl rfl rfl (by decide +kernel) ⟨Nat.le_of_ble_eq_true rfl, Nat.le_of_ble_eq_true rfl⟩) hK hX hW hS rfl hl.1 (Nat.le_of_ble_eq_true rfl) dX4_room_10 ⟨Nat.le_of_ble_eq_true rfl, Nat.le_of_ble_eq_true rfl⟩ rfl (fun ce q9 H1 locs1 hW hS hce hcv hcl => hx_out htb hlocks hK hW hS hce hcv hcl (by decide) (by decide))
set_option maxHeartbeats 4000000 in
set_option maxRecDepth 100000 in
/-- price throws -/
theorem aX4_price_0 (l : Launch) (D : va_G) (d : hs_Dm) (L : hs_Lo) (σ : hs_St) (A : Nat → Prop) (w : Nat) (L2 : hs_Lo) (hwA : ¬ A w) (hl0 : l.stackTraces = false) (x : Int32) (h0 : x < 0 ∨ ¬ x ≤ 20) : wx_T l yX4_price wsX4_price ({ frames := 8, cells := 1, slots := 6, locals := 150 }) D d w L L2 σ A [.ref w, .int x] "java/lang/IllegalArgumentException" := by
  refine vx_ofW (cc := cX4_price) (maxL := 3) (ret := (some .int)) (by decide) rfl ?_
  intro p e s m args below meth c s₁ B hml htb hv
  obtain ⟨rfl, ⟨⟨hW, hK⟩, hX⟩, hV⟩ := hv
  have hE := hX.1
  have hx := B.exec
  have hb := B.bytes
  have hr := B.returns
  have hts := atoms_spec (ws := wsX4_price) B.pre
  have hown : s.vm.findClass RX4 = some m.cls := findClass_of_methodNamed B.named
  have hlocks := B.notSynchronized
  have hS : va_S A s.heap s.heap [] := va_S.rf
  have hW : hs_W D d L σ A s.heap := hW
  have hl := lv_entry ([.ref w, .int x]) (n := 3) (Nat.le_of_ble_eq_true rfl)
  rw [lg_entry_eq]
  generalize (lg_sl ([.ref w, .int x]) ++ List.replicate (3 - (lg_sl ([.ref w, .int x])).length) Slot.unset).toArray = ls at hl ⊢
  have hl : lv_has ls 3 [(0, .ref w), (1, .int x)] := hl
  refine lv_iload_n hx hb dX4_price_0 rfl (lv_at hl 1 rfl) ?_
  refine lv_iconst (v := 0) hx hb dX4_price_1 (by decide) ?_
  refine lv_bipush (v := 20) hx hb dX4_price_2 (by decide) ?_
  exact hx_runT (As := [.int x, .int 0, .int 20]) ⟨hx, hb, hml, hown, hts⟩ (tX4_checkArgument l D d L σ A hl0 x 0 20 h0) (va_cwS 3 hts gX4_price_X4_checkArgument rfl rfl rfl (by decide +kernel) ⟨Nat.le_of_ble_eq_true rfl, Nat.le_of_ble_eq_true rfl⟩) hK hX hW hS rfl hl.1 (Nat.le_of_ble_eq_true rfl) dX4_price_4 ⟨Nat.le_of_ble_eq_true rfl, Nat.le_of_ble_eq_true rfl⟩ rfl (fun ce q9 H1 locs1 hW hS hce hcv hcl => hx_out htb hlocks hK hW hS hce hcv hcl (by decide) (by decide))
set_option maxHeartbeats 4000000 in
set_option maxRecDepth 100000 in
/-- pass throws -/
theorem aX4_pass_0 (l : Launch) (D : va_G) (d : hs_Dm) (L : hs_Lo) (σ : hs_St) (A : Nat → Prop) (w : Nat) (L2 : hs_Lo) (hwA : ¬ A w) (hl0 : l.stackTraces = false) (x y z : Int32) (h0 : x < 1 ∨ ¬ x ≤ 40) : wx_T l yX4_pass wsX4_pass ({ frames := 8, cells := 1, slots := 6, locals := 150 }) D d w L L2 σ A [.ref w, .int x, .int y, .int z] "java/lang/IllegalArgumentException" := by
  refine vx_ofW (cc := cX4_pass) (maxL := 6) (ret := (some .int)) (by decide) rfl ?_
  intro p e s m args below meth c s₁ B hml htb hv
  obtain ⟨rfl, ⟨⟨hW, hK⟩, hX⟩, hV⟩ := hv
  have hE := hX.1
  have hx := B.exec
  have hb := B.bytes
  have hr := B.returns
  have hts := atoms_spec (ws := wsX4_pass) B.pre
  have hown : s.vm.findClass RX4 = some m.cls := findClass_of_methodNamed B.named
  have hlocks := B.notSynchronized
  have hS : va_S A s.heap s.heap [] := va_S.rf
  have hW : hs_W D d L σ A s.heap := hW
  have hl := lv_entry ([.ref w, .int x, .int y, .int z]) (n := 6) (Nat.le_of_ble_eq_true rfl)
  rw [lg_entry_eq]
  generalize (lg_sl ([.ref w, .int x, .int y, .int z]) ++ List.replicate (6 - (lg_sl ([.ref w, .int x, .int y, .int z])).length) Slot.unset).toArray = ls at hl ⊢
  have hl : lv_has ls 6 [(0, .ref w), (1, .int x), (2, .int y), (3, .int z)] := hl
  refine lv_iload_n hx hb dX4_pass_0 rfl (lv_at hl 1 rfl) ?_
  refine lv_iconst (v := 1) hx hb dX4_pass_1 (by decide) ?_
  refine lv_bipush (v := 40) hx hb dX4_pass_2 (by decide) ?_
  exact hx_runT (As := [.int x, .int 1, .int 40]) ⟨hx, hb, hml, hown, hts⟩ (tX4_checkArgument l D d L σ A hl0 x 1 40 h0) (va_cwS 3 hts gX4_pass_X4_checkArgument rfl rfl rfl (by decide +kernel) ⟨Nat.le_of_ble_eq_true rfl, Nat.le_of_ble_eq_true rfl⟩) hK hX hW hS rfl hl.1 (Nat.le_of_ble_eq_true rfl) dX4_pass_4 ⟨Nat.le_of_ble_eq_true rfl, Nat.le_of_ble_eq_true rfl⟩ rfl (fun ce q9 H1 locs1 hW hS hce hcv hcl => hx_out htb hlocks hK hW hS hce hcv hcl (by decide) (by decide))
set_option maxHeartbeats 4000000 in
set_option maxRecDepth 100000 in
/-- pass throws -/
theorem aX4_pass_1 (l : Launch) (D : va_G) (d : hs_Dm) (L : hs_Lo) (σ : hs_St) (A : Nat → Prop) (w : Nat) (L2 : hs_Lo) (hwA : ¬ A w) (hl0 : l.stackTraces = false) (x y z : Int32) (h1 : ¬ x < 1) (g1 : x ≤ 40) (h0 : y < 0 ∨ ¬ y ≤ 2000) : wx_T l yX4_pass wsX4_pass ({ frames := 8, cells := 1, slots := 6, locals := 150 }) D d w L L2 σ A [.ref w, .int x, .int y, .int z] "java/lang/IllegalArgumentException" := by
  refine vx_ofW (cc := cX4_pass) (maxL := 6) (ret := (some .int)) (by decide) rfl ?_
  intro p e s m args below meth c s₁ B hml htb hv
  obtain ⟨rfl, ⟨⟨hW, hK⟩, hX⟩, hV⟩ := hv
  have hE := hX.1
  have hx := B.exec
  have hb := B.bytes
  have hr := B.returns
  have hts := atoms_spec (ws := wsX4_pass) B.pre
  have hown : s.vm.findClass RX4 = some m.cls := findClass_of_methodNamed B.named
  have hlocks := B.notSynchronized
  have hS : va_S A s.heap s.heap [] := va_S.rf
  have hW : hs_W D d L σ A s.heap := hW
  have hl := lv_entry ([.ref w, .int x, .int y, .int z]) (n := 6) (Nat.le_of_ble_eq_true rfl)
  rw [lg_entry_eq]
  generalize (lg_sl ([.ref w, .int x, .int y, .int z]) ++ List.replicate (6 - (lg_sl ([.ref w, .int x, .int y, .int z])).length) Slot.unset).toArray = ls at hl ⊢
  have hl : lv_has ls 6 [(0, .ref w), (1, .int x), (2, .int y), (3, .int z)] := hl
  refine lv_iload_n hx hb dX4_pass_0 rfl (lv_at hl 1 rfl) ?_
  refine lv_iconst (v := 1) hx hb dX4_pass_1 (by decide) ?_
  refine lv_bipush (v := 40) hx hb dX4_pass_2 (by decide) ?_
  refine hs_runv (As := [.int x, .int 1, .int 40]) ⟨hx, hb, hml, hown, hts⟩ (kX4_checkArgument l D d L σ A x 1 40 h1 g1) (va_cwS 3 hts gX4_pass_X4_checkArgument rfl rfl rfl (by decide +kernel) ⟨Nat.le_of_ble_eq_true rfl, Nat.le_of_ble_eq_true rfl⟩) hK hE hW hS rfl hl.1 (Nat.le_of_ble_eq_true rfl) dX4_pass_4 ⟨Nat.zero_le _, Nat.zero_le _⟩ rfl (fun τ_ H locs hp hW hS => ?_)
  obtain rfl := hp
  refine lv_iload_n hx hb dX4_pass_7 rfl (lv_at hl 2 rfl) ?_
  refine lv_iconst (v := 0) hx hb dX4_pass_8 (by decide) ?_
  refine lv_sipush (v := 2000) hx hb dX4_pass_9 (by decide) ?_
  exact hx_runT (As := [.int y, .int 0, .int 2000]) ⟨hx, hb, hml, hown, hts⟩ (tX4_checkArgument l D d L σ A hl0 y 0 2000 h0) (va_cwS 3 hts gX4_pass_X4_checkArgument rfl rfl rfl (by decide +kernel) ⟨Nat.le_of_ble_eq_true rfl, Nat.le_of_ble_eq_true rfl⟩) hK hX hW hS rfl hl.1 (Nat.le_of_ble_eq_true rfl) dX4_pass_12 ⟨Nat.le_of_ble_eq_true rfl, Nat.le_of_ble_eq_true rfl⟩ rfl (fun ce q9 H1 locs1 hW hS hce hcv hcl => hx_out htb hlocks hK hW hS hce hcv hcl (by decide) (by decide))
set_option maxHeartbeats 4000000 in
set_option maxRecDepth 100000 in
/-- pass throws -/
theorem aX4_pass_2 (l : Launch) (D : va_G) (d : hs_Dm) (L : hs_Lo) (σ : hs_St) (A : Nat → Prop) (w : Nat) (L2 : hs_Lo) (hwA : ¬ A w) (hl0 : l.stackTraces = false) (x y z : Int32) (h1 : ¬ x < 1) (g1 : x ≤ 40) (h2 : ¬ y < 0) (g2 : y ≤ 2000) (h0 : z < 0 ∨ ¬ z ≤ 40) : wx_T l yX4_pass wsX4_pass ({ frames := 8, cells := 1, slots := 6, locals := 150 }) D d w L L2 σ A [.ref w, .int x, .int y, .int z] "java/lang/IllegalArgumentException" := by
  refine vx_ofW (cc := cX4_pass) (maxL := 6) (ret := (some .int)) (by decide) rfl ?_
  intro p e s m args below meth c s₁ B hml htb hv
  obtain ⟨rfl, ⟨⟨hW, hK⟩, hX⟩, hV⟩ := hv
  have hE := hX.1
  have hx := B.exec
  have hb := B.bytes
  have hr := B.returns
  have hts := atoms_spec (ws := wsX4_pass) B.pre
  have hown : s.vm.findClass RX4 = some m.cls := findClass_of_methodNamed B.named
  have hlocks := B.notSynchronized
  have hS : va_S A s.heap s.heap [] := va_S.rf
  have hW : hs_W D d L σ A s.heap := hW
  have hl := lv_entry ([.ref w, .int x, .int y, .int z]) (n := 6) (Nat.le_of_ble_eq_true rfl)
  rw [lg_entry_eq]
  generalize (lg_sl ([.ref w, .int x, .int y, .int z]) ++ List.replicate (6 - (lg_sl ([.ref w, .int x, .int y, .int z])).length) Slot.unset).toArray = ls at hl ⊢
  have hl : lv_has ls 6 [(0, .ref w), (1, .int x), (2, .int y), (3, .int z)] := hl
  refine lv_iload_n hx hb dX4_pass_0 rfl (lv_at hl 1 rfl) ?_
  refine lv_iconst (v := 1) hx hb dX4_pass_1 (by decide) ?_
  refine lv_bipush (v := 40) hx hb dX4_pass_2 (by decide) ?_
  refine hs_runv (As := [.int x, .int 1, .int 40]) ⟨hx, hb, hml, hown, hts⟩ (kX4_checkArgument l D d L σ A x 1 40 h1 g1) (va_cwS 3 hts gX4_pass_X4_checkArgument rfl rfl rfl (by decide +kernel) ⟨Nat.le_of_ble_eq_true rfl, Nat.le_of_ble_eq_true rfl⟩) hK hE hW hS rfl hl.1 (Nat.le_of_ble_eq_true rfl) dX4_pass_4 ⟨Nat.zero_le _, Nat.zero_le _⟩ rfl (fun τ_ H locs hp hW hS => ?_)
  obtain rfl := hp
  refine lv_iload_n hx hb dX4_pass_7 rfl (lv_at hl 2 rfl) ?_
  refine lv_iconst (v := 0) hx hb dX4_pass_8 (by decide) ?_
  refine lv_sipush (v := 2000) hx hb dX4_pass_9 (by decide) ?_
  refine hs_runv (As := [.int y, .int 0, .int 2000]) ⟨hx, hb, hml, hown, hts⟩ (kX4_checkArgument l D d L σ A y 0 2000 h2 g2) (va_cwS 3 hts gX4_pass_X4_checkArgument rfl rfl rfl (by decide +kernel) ⟨Nat.le_of_ble_eq_true rfl, Nat.le_of_ble_eq_true rfl⟩) hK hE hW hS rfl hl.1 (Nat.le_of_ble_eq_true rfl) dX4_pass_12 ⟨Nat.zero_le _, Nat.zero_le _⟩ rfl (fun τ_ H locs hp hW hS => ?_)
  obtain rfl := hp
  refine lv_iload_n hx hb dX4_pass_15 rfl (lv_at hl 3 rfl) ?_
  refine lv_iconst (v := 0) hx hb dX4_pass_16 (by decide) ?_
  refine lv_bipush (v := 40) hx hb dX4_pass_17 (by decide) ?_
  exact hx_runT (As := [.int z, .int 0, .int 40]) ⟨hx, hb, hml, hown, hts⟩ (tX4_checkArgument l D d L σ A hl0 z 0 40 h0) (va_cwS 3 hts gX4_pass_X4_checkArgument rfl rfl rfl (by decide +kernel) ⟨Nat.le_of_ble_eq_true rfl, Nat.le_of_ble_eq_true rfl⟩) hK hX hW hS rfl hl.1 (Nat.le_of_ble_eq_true rfl) dX4_pass_19 ⟨Nat.le_of_ble_eq_true rfl, Nat.le_of_ble_eq_true rfl⟩ rfl (fun ce q9 H1 locs1 hW hS hce hcv hcl => hx_out htb hlocks hK hW hS hce hcv hcl (by decide) (by decide))
set_option maxHeartbeats 4000000 in
set_option maxRecDepth 100000 in
/-- many throws -/
theorem aX4_many_0 (l : Launch) (D : va_G) (d : hs_Dm) (L : hs_Lo) (σ : hs_St) (A : Nat → Prop) (w : Nat) (L2 : hs_Lo) (hwA : ¬ A w) (hl0 : l.stackTraces = false) (x : Int32) (h0 : x < 0 ∨ ¬ x ≤ 14) : wx_T l yX4_many wsX4_many ({ frames := 8, cells := 1, slots := 6, locals := 150 }) D d w L L2 σ A [.ref w, .int x] "java/lang/IllegalArgumentException" := by
  refine vx_ofW (cc := cX4_many) (maxL := 2) (ret := (some .int)) (by decide) rfl ?_
  intro p e s m args below meth c s₁ B hml htb hv
  obtain ⟨rfl, ⟨⟨hW, hK⟩, hX⟩, hV⟩ := hv
  have hE := hX.1
  have hx := B.exec
  have hb := B.bytes
  have hr := B.returns
  have hts := atoms_spec (ws := wsX4_many) B.pre
  have hown : s.vm.findClass RX4 = some m.cls := findClass_of_methodNamed B.named
  have hlocks := B.notSynchronized
  have hS : va_S A s.heap s.heap [] := va_S.rf
  have hW : hs_W D d L σ A s.heap := hW
  have hl := lv_entry ([.ref w, .int x]) (n := 2) (Nat.le_of_ble_eq_true rfl)
  rw [lg_entry_eq]
  generalize (lg_sl ([.ref w, .int x]) ++ List.replicate (2 - (lg_sl ([.ref w, .int x])).length) Slot.unset).toArray = ls at hl ⊢
  have hl : lv_has ls 2 [(0, .ref w), (1, .int x)] := hl
  refine lv_iload_n hx hb dX4_many_0 rfl (lv_at hl 1 rfl) ?_
  refine lv_iconst (v := 0) hx hb dX4_many_1 (by decide) ?_
  refine lv_bipush (v := 14) hx hb dX4_many_2 (by decide) ?_
  exact hx_runT (As := [.int x, .int 0, .int 14]) ⟨hx, hb, hml, hown, hts⟩ (tX4_checkArgument l D d L σ A hl0 x 0 14 h0) (va_cwS 3 hts gX4_many_X4_checkArgument rfl rfl rfl (by decide +kernel) ⟨Nat.le_of_ble_eq_true rfl, Nat.le_of_ble_eq_true rfl⟩) hK hX hW hS rfl hl.1 (Nat.le_of_ble_eq_true rfl) dX4_many_4 ⟨Nat.le_of_ble_eq_true rfl, Nat.le_of_ble_eq_true rfl⟩ rfl (fun ce q9 H1 locs1 hW hS hce hcv hcl => hx_out htb hlocks hK hW hS hce hcv hcl (by decide) (by decide))
