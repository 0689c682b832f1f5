/-! THE REFERENCE'S SMALL METHODS -/
theorem mp_in_n (k lo hi : Int32) : narrow FieldType.boolean (Value.int (mp_in k lo hi)) = Value.int (mp_in k lo hi) := by
  unfold mp_in
  split
  · rfl
  · split
    · rfl
    · rfl
set_option maxHeartbeats 4000000 in
set_option maxRecDepth 100000 in
/-- the reference: X6_no -/
theorem kX6_no (l : Launch) (D : va_G) (d : hs_Dm) (cB : ClassId) (L : hs_Lo) (m0 : Nat) (th : Int32) (ρ : hs_St) (A : Nat → Prop) (sz : Nat) (x : Int32) : mm_Mi l yX6_no wsX6_no ({ frames := 0, cells := 0, slots := 0, locals := 0 } : Room) D d cB L m0 th ρ A sz [.ref m0, .int x] (fun r X => (0 : Int32) = r ∧ x = X.1 ∧ ρ = X.2) 0 0 := by
  refine Met.ofW (cc := cX6_no) (maxL := 2) (ret := (some .int)) (by decide) rfl ?_
  intro p e s m args below meth c0 s₁ B hml hv
  obtain ⟨rfl, hsz, hM, hKK⟩ := hv
  have hx := B.exec
  have hb := B.bytes
  have hr := B.returns
  have hts := atoms_spec (ws := wsX6_no) B.pre
  have hown : s.vm.findClass RX6 = some m.cls := findClass_of_methodNamed B.named
  have hlocks := B.notSynchronized
  have hS : va_S A s.heap s.heap [] := va_S.rf
  have hl := lv_entry ([.ref m0, .int x]) (n := 2) (Nat.le_of_ble_eq_true rfl)
  rw [lg_entry_eq]
  generalize (lg_sl ([.ref m0, .int x]) ++ List.replicate (2 - (lg_sl ([.ref m0, .int x])).length) Slot.unset).toArray = ls at hl ⊢
  have hl : lv_has ls 2 [(0, .ref m0), (1, .int x)] := hl
  refine lv_aload_n hx hb dX6_no_0 rfl (lv_at hl 0 rfl) ?_
  refine lv_iload_n hx hb dX6_no_1 rfl (lv_at hl 1 rfl) ?_
  refine mm_putt hx hb hts (by decide +kernel) hown hKK.1 hM hS (hts (.fieldLink RX6 16 "WaxrowModel" "thrown" "I") (by decide +kernel)) x dX6_no_2 (fun H locs hM hS hz => ?_)
  have hM : mm_W D d cB L m0 x ρ A H := hM
  have hW := hM.2.1
  refine lv_iconst (v := 0) hx hb dX6_no_5 (by decide) ?_
  exact W.iret (v := 0) hx hb hr (fun t ht hW9 => ⟨⟨0, (x, ρ), rfl, ⟨rfl, rfl, rfl⟩, by show mm_W D d cB L m0 _ _ A t.heap; rw [ht]; exact hM⟩, hS.F ht⟩) hS.2.2 dX6_no_6
set_option maxHeartbeats 4000000 in
set_option maxRecDepth 100000 in
/-- the reference: X6_isPerson -/
theorem kX6_isPerson (l : Launch) (D : va_G) (d : hs_Dm) (cB : ClassId) (L : hs_Lo) (m0 : Nat) (th : Int32) (ρ : hs_St) (A : Nat → Prop) (sz : Nat) (P F R : Nat) (hok : mh_ok P F R ρ) (x : Int32) : mm_Mi l yX6_isPerson wsX6_isPerson ({ frames := 1, cells := 0, slots := 0, locals := 30 } : Room) D d cB L m0 th ρ A sz [.ref m0, .int x] (fun r X => mp_in x 0 (nI P - 1) = r ∧ th = X.1 ∧ ρ = X.2) 0 0 := by
  refine Met.ofW (cc := cX6_isPerson) (maxL := 2) (ret := (some .boolean)) (by decide) rfl ?_
  intro p e s m args below meth c0 s₁ B hml hv
  obtain ⟨rfl, hsz, hM, hKK⟩ := hv
  have hx := B.exec
  have hb := B.bytes
  have hr := B.returns
  have hts := atoms_spec (ws := wsX6_isPerson) B.pre
  have hown : s.vm.findClass RX6 = some m.cls := findClass_of_methodNamed B.named
  have hlocks := B.notSynchronized
  have hS : va_S A s.heap s.heap [] := va_S.rf
  have hl := lv_entry ([.ref m0, .int x]) (n := 2) (Nat.le_of_ble_eq_true rfl)
  rw [lg_entry_eq]
  generalize (lg_sl ([.ref m0, .int x]) ++ List.replicate (2 - (lg_sl ([.ref m0, .int x])).length) Slot.unset).toArray = ls at hl ⊢
  have hl : lv_has ls 2 [(0, .ref m0), (1, .int x)] := hl
  refine lv_iload_n hx hb dX6_isPerson_0 rfl (lv_at hl 1 rfl) ?_
  refine lv_iconst (v := 0) hx hb dX6_isPerson_1 (by decide) ?_
  refine lv_aload_n hx hb dX6_isPerson_2 rfl (lv_at hl 0 rfl) ?_
  refine mm_house hx hb hts (by decide +kernel) hown hKK.1 hM (hts (.fieldLink RX6 10 "WaxrowModel" "house" "LWaxrowModel$House;") (by decide +kernel)) dX6_isPerson_3 ?_
  have hW := hM.2.1
  refine mh_get hx hb hts (by decide +kernel) hown hKK.1 hW 6 (by decide) (hts (.fieldLink RX6 29 "WaxrowModel$House" "personCount" "I") (by decide +kernel)) rfl (v := .int (ρ 0 0 6)) rfl dX6_isPerson_6 ?_
  rw [show ρ 0 0 6 = nI P from hok.2.2.2.1]
  refine lv_iconst (v := 1) hx hb dX6_isPerson_9 (by decide) ?_
  refine lv_isub hx hb dX6_isPerson_10 ?_
  refine mm_pure (As := [.int x, .int 0, .int ((nI P) - 1)]) ⟨hx, hb, hml, hown, hts⟩ (kX6_in l (x) (0) ((nI P) - 1)) (va_cwS 3 hts gX6_isPerson_X6_in rfl rfl rfl (by decide +kernel) ⟨Nat.le_of_ble_eq_true rfl, Nat.le_of_ble_eq_true rfl⟩) hM hS rfl hl.1 (Nat.le_of_ble_eq_true rfl) dX6_isPerson_11 ⟨Nat.le_of_ble_eq_true rfl, Nat.le_of_ble_eq_true rfl⟩ rfl (fun r_ H locs hp hM hz hS => ?_)
  subst hp
  have hM : mm_W D d cB L m0 th ρ A H := hM
  have hW := hM.2.1
  exact W.zret (v := mp_in x (0 : Int32) ((nI P) - 1)) (ty := .boolean) hx hb hr (mp_in_n _ _ _) (fun t ht hW9 => ⟨⟨mp_in x (0 : Int32) ((nI P) - 1), (th, ρ), rfl, ⟨rfl, rfl, rfl⟩, by show mm_W D d cB L m0 _ _ A t.heap; rw [ht]; exact hM⟩, hS.F ht⟩) hS.2.2 dX6_isPerson_14
set_option maxHeartbeats 4000000 in
set_option maxRecDepth 100000 in
/-- the reference: X6_isFigure -/
theorem kX6_isFigure (l : Launch) (D : va_G) (d : hs_Dm) (cB : ClassId) (L : hs_Lo) (m0 : Nat) (th : Int32) (ρ : hs_St) (A : Nat → Prop) (sz : Nat) (P F R : Nat) (hok : mh_ok P F R ρ) (x : Int32) : mm_Mi l yX6_isFigure wsX6_isFigure ({ frames := 1, cells := 0, slots := 0, locals := 30 } : Room) D d cB L m0 th ρ A sz [.ref m0, .int x] (fun r X => mp_in x 0 (nI F - 1) = r ∧ th = X.1 ∧ ρ = X.2) 0 0 := by
  refine Met.ofW (cc := cX6_isFigure) (maxL := 2) (ret := (some .boolean)) (by decide) rfl ?_
  intro p e s m args below meth c0 s₁ B hml hv
  obtain ⟨rfl, hsz, hM, hKK⟩ := hv
  have hx := B.exec
  have hb := B.bytes
  have hr := B.returns
  have hts := atoms_spec (ws := wsX6_isFigure) B.pre
  have hown : s.vm.findClass RX6 = some m.cls := findClass_of_methodNamed B.named
  have hlocks := B.notSynchronized
  have hS : va_S A s.heap s.heap [] := va_S.rf
  have hl := lv_entry ([.ref m0, .int x]) (n := 2) (Nat.le_of_ble_eq_true rfl)
  rw [lg_entry_eq]
  generalize (lg_sl ([.ref m0, .int x]) ++ List.replicate (2 - (lg_sl ([.ref m0, .int x])).length) Slot.unset).toArray = ls at hl ⊢
  have hl : lv_has ls 2 [(0, .ref m0), (1, .int x)] := hl
  refine lv_iload_n hx hb dX6_isFigure_0 rfl (lv_at hl 1 rfl) ?_
  refine lv_iconst (v := 0) hx hb dX6_isFigure_1 (by decide) ?_
  refine lv_aload_n hx hb dX6_isFigure_2 rfl (lv_at hl 0 rfl) ?_
  refine mm_house hx hb hts (by decide +kernel) hown hKK.1 hM (hts (.fieldLink RX6 10 "WaxrowModel" "house" "LWaxrowModel$House;") (by decide +kernel)) dX6_isFigure_3 ?_
  have hW := hM.2.1
  refine mh_get hx hb hts (by decide +kernel) hown hKK.1 hW 7 (by decide) (hts (.fieldLink RX6 36 "WaxrowModel$House" "figureCount" "I") (by decide +kernel)) rfl (v := .int (ρ 0 0 7)) rfl dX6_isFigure_6 ?_
  rw [show ρ 0 0 7 = nI F from hok.2.2.2.2.1]
  refine lv_iconst (v := 1) hx hb dX6_isFigure_9 (by decide) ?_
  refine lv_isub hx hb dX6_isFigure_10 ?_
  refine mm_pure (As := [.int x, .int 0, .int ((nI F) - 1)]) ⟨hx, hb, hml, hown, hts⟩ (kX6_in l (x) (0) ((nI F) - 1)) (va_cwS 3 hts gX6_isFigure_X6_in rfl rfl rfl (by decide +kernel) ⟨Nat.le_of_ble_eq_true rfl, Nat.le_of_ble_eq_true rfl⟩) hM hS rfl hl.1 (Nat.le_of_ble_eq_true rfl) dX6_isFigure_11 ⟨Nat.le_of_ble_eq_true rfl, Nat.le_of_ble_eq_true rfl⟩ rfl (fun r_ H locs hp hM hz hS => ?_)
  subst hp
  have hM : mm_W D d cB L m0 th ρ A H := hM
  have hW := hM.2.1
  exact W.zret (v := mp_in x (0 : Int32) ((nI F) - 1)) (ty := .boolean) hx hb hr (mp_in_n _ _ _) (fun t ht hW9 => ⟨⟨mp_in x (0 : Int32) ((nI F) - 1), (th, ρ), rfl, ⟨rfl, rfl, rfl⟩, by show mm_W D d cB L m0 _ _ A t.heap; rw [ht]; exact hM⟩, hS.F ht⟩) hS.2.2 dX6_isFigure_14
set_option maxHeartbeats 4000000 in
set_option maxRecDepth 100000 in
/-- the reference: X6_isRoom -/
theorem kX6_isRoom (l : Launch) (D : va_G) (d : hs_Dm) (cB : ClassId) (L : hs_Lo) (m0 : Nat) (th : Int32) (ρ : hs_St) (A : Nat → Prop) (sz : Nat) (P F R : Nat) (hok : mh_ok P F R ρ) (x : Int32) : mm_Mi l yX6_isRoom wsX6_isRoom ({ frames := 1, cells := 0, slots := 0, locals := 30 } : Room) D d cB L m0 th ρ A sz [.ref m0, .int x] (fun r X => mp_in x 0 (nI R - 1) = r ∧ th = X.1 ∧ ρ = X.2) 0 0 := by
  refine Met.ofW (cc := cX6_isRoom) (maxL := 2) (ret := (some .boolean)) (by decide) rfl ?_
  intro p e s m args below meth c0 s₁ B hml hv
  obtain ⟨rfl, hsz, hM, hKK⟩ := hv
  have hx := B.exec
  have hb := B.bytes
  have hr := B.returns
  have hts := atoms_spec (ws := wsX6_isRoom) B.pre
  have hown : s.vm.findClass RX6 = some m.cls := findClass_of_methodNamed B.named
  have hlocks := B.notSynchronized
  have hS : va_S A s.heap s.heap [] := va_S.rf
  have hl := lv_entry ([.ref m0, .int x]) (n := 2) (Nat.le_of_ble_eq_true rfl)
  rw [lg_entry_eq]
  generalize (lg_sl ([.ref m0, .int x]) ++ List.replicate (2 - (lg_sl ([.ref m0, .int x])).length) Slot.unset).toArray = ls at hl ⊢
  have hl : lv_has ls 2 [(0, .ref m0), (1, .int x)] := hl
  refine lv_iload_n hx hb dX6_isRoom_0 rfl (lv_at hl 1 rfl) ?_
  refine lv_iconst (v := 0) hx hb dX6_isRoom_1 (by decide) ?_
  refine lv_aload_n hx hb dX6_isRoom_2 rfl (lv_at hl 0 rfl) ?_
  refine mm_house hx hb hts (by decide +kernel) hown hKK.1 hM (hts (.fieldLink RX6 10 "WaxrowModel" "house" "LWaxrowModel$House;") (by decide +kernel)) dX6_isRoom_3 ?_
  have hW := hM.2.1
  refine mh_get hx hb hts (by decide +kernel) hown hKK.1 hW 8 (by decide) (hts (.fieldLink RX6 39 "WaxrowModel$House" "roomCount" "I") (by decide +kernel)) rfl (v := .int (ρ 0 0 8)) rfl dX6_isRoom_6 ?_
  rw [show ρ 0 0 8 = nI R from hok.2.2.2.2.2.1]
  refine lv_iconst (v := 1) hx hb dX6_isRoom_9 (by decide) ?_
  refine lv_isub hx hb dX6_isRoom_10 ?_
  refine mm_pure (As := [.int x, .int 0, .int ((nI R) - 1)]) ⟨hx, hb, hml, hown, hts⟩ (kX6_in l (x) (0) ((nI R) - 1)) (va_cwS 3 hts gX6_isRoom_X6_in rfl rfl rfl (by decide +kernel) ⟨Nat.le_of_ble_eq_true rfl, Nat.le_of_ble_eq_true rfl⟩) hM hS rfl hl.1 (Nat.le_of_ble_eq_true rfl) dX6_isRoom_11 ⟨Nat.le_of_ble_eq_true rfl, Nat.le_of_ble_eq_true rfl⟩ rfl (fun r_ H locs hp hM hz hS => ?_)
  subst hp
  have hM : mm_W D d cB L m0 th ρ A H := hM
  have hW := hM.2.1
  exact W.zret (v := mp_in x (0 : Int32) ((nI R) - 1)) (ty := .boolean) hx hb hr (mp_in_n _ _ _) (fun t ht hW9 => ⟨⟨mp_in x (0 : Int32) ((nI R) - 1), (th, ρ), rfl, ⟨rfl, rfl, rfl⟩, by show mm_W D d cB L m0 _ _ A t.heap; rw [ht]; exact hM⟩, hS.F ht⟩) hS.2.2 dX6_isRoom_14
set_option maxHeartbeats 4000000 in
set_option maxRecDepth 100000 in
/-- the reference: X6_price -/
theorem kX6_price (l : Launch) (D : va_G) (d : hs_Dm) (cB : ClassId) (L : hs_Lo) (m0 : Nat) (th : Int32) (ρ : hs_St) (A : Nat → Prop) (sz : Nat) (x : Int32) : mm_Mi l yX6_price wsX6_price ({ frames := 1, cells := 0, slots := 0, locals := 40 } : Room) D d cB L m0 th ρ A sz [.ref m0, .int x] (fun r X => if mp_in x 0 20 = 0 then (0 : Int32) = r ∧ (1 : Int32) = X.1 ∧ ρ = X.2 else ρ 0 0 11 = r ∧ (0 : Int32) = X.1 ∧ hs_sg ρ 0 0 11 x = X.2) 0 0 := by
  refine Met.ofW (cc := cX6_price) (maxL := 3) (ret := (some .int)) (by decide) rfl ?_
  intro p e s m args below meth c0 s₁ B hml hv
  obtain ⟨rfl, hsz, hM, hKK⟩ := hv
  have hx := B.exec
  have hb := B.bytes
  have hr := B.returns
  have hts := atoms_spec (ws := wsX6_price) B.pre
  have hown : s.vm.findClass RX6 = some m.cls := findClass_of_methodNamed B.named
  have hlocks := B.notSynchronized
  have hS : va_S A s.heap s.heap [] := va_S.rf
  have hl := lv_entry ([.ref m0, .int x]) (n := 3) (Nat.le_of_ble_eq_true rfl)
  rw [lg_entry_eq]
  generalize (lg_sl ([.ref m0, .int x]) ++ List.replicate (3 - (lg_sl ([.ref m0, .int x])).length) Slot.unset).toArray = ls at hl ⊢
  have hl : lv_has ls 3 [(0, .ref m0), (1, .int x)] := hl
  refine lv_aload_n hx hb dX6_price_0 rfl (lv_at hl 0 rfl) ?_
  refine lv_iconst (v := 0) hx hb dX6_price_1 (by decide) ?_
  refine mm_putt hx hb hts (by decide +kernel) hown hKK.1 hM hS (hts (.fieldLink RX6 16 "WaxrowModel" "thrown" "I") (by decide +kernel)) (0 : Int32) dX6_price_2 (fun H locs hM hS hz => ?_)
  have hM : mm_W D d cB L m0 0 ρ A H := hM
  have hW := hM.2.1
  refine lv_iload_n hx hb dX6_price_5 rfl (lv_at hl 1 rfl) ?_
  refine lv_iconst (v := 0) hx hb dX6_price_6 (by decide) ?_
  refine lv_bipush (v := 20) hx hb dX6_price_7 (by decide) ?_
  refine mm_pure (As := [.int x, .int 0, .int 20]) ⟨hx, hb, hml, hown, hts⟩ (kX6_in l (x) (0) (20)) (va_cwS 3 hts gX6_price_X6_in rfl rfl rfl (by decide +kernel) ⟨Nat.le_of_ble_eq_true rfl, Nat.le_of_ble_eq_true rfl⟩) hM hS rfl hl.1 (Nat.le_of_ble_eq_true rfl) dX6_price_9 ⟨Nat.le_of_ble_eq_true rfl, Nat.le_of_ble_eq_true rfl⟩ rfl (fun r_ H locs hp hM hz hS => ?_)
  subst hp
  have hM : mm_W D d cB L m0 0 ρ A H := hM
  have hW := hM.2.1
  refine lv_if_ne (tgt := 21) hx hb dX6_price_12 (by decide) (fun c_12 => ?_) (fun c_12 => ?_)
  · refine lv_aload_n hx hb dX6_price_21 rfl (lv_at hl 0 rfl) ?_
    refine mm_house hx hb hts (by decide +kernel) hown hKK.1 hM (hts (.fieldLink RX6 10 "WaxrowModel" "house" "LWaxrowModel$House;") (by decide +kernel)) dX6_price_22 ?_
    have hW := hM.2.1
    refine mh_get hx hb hts (by decide +kernel) hown hKK.1 hW 11 (by decide) (hts (.fieldLink RX6 121 "WaxrowModel$House" "price" "I") (by decide +kernel)) rfl (v := .int (ρ 0 0 11)) rfl dX6_price_25 ?_
    refine lv_istore_n (lv' := [(2, .int (ρ 0 0 11)), (0, .ref m0), (1, .int x)]) hx hb dX6_price_28 rfl hl (by decide) rfl (fun ls hl => ?_)
    refine lv_aload_n hx hb dX6_price_29 rfl (lv_at hl 1 rfl) ?_
    refine mm_house hx hb hts (by decide +kernel) hown hKK.1 hM (hts (.fieldLink RX6 10 "WaxrowModel" "house" "LWaxrowModel$House;") (by decide +kernel)) dX6_price_30 ?_
    have hW := hM.2.1
    refine lv_iload_n hx hb dX6_price_33 rfl (lv_at hl 2 rfl) ?_
    have hW := hM.2.1
    refine mh_puti hx hb hts (by decide +kernel) hown hKK.1 hW hS 11 (by decide) (hts (.fieldLink RX6 121 "WaxrowModel$House" "price" "I") (by decide +kernel)) rfl rfl x (by decide +kernel) rfl dX6_price_34 (fun H locs hW hS hz hq => ?_)
    have hW : mh_W D d.1 cB L (hs_sg ρ 0 0 11 x) A H := hW
    have hM : mm_W D d cB L m0 0 (hs_sg ρ 0 0 11 x) A H := ⟨hM.1.kept (hq _ (fun z => hM.2.2.2 0 0 (mh_ixO (by decide)) z.symm)), hW, hM.2.2⟩
    refine lv_iload_n hx hb dX6_price_37 rfl (lv_at hl 0 rfl) ?_
    exact W.iret (v := ρ 0 0 11) hx hb hr (fun t ht hW9 => ⟨⟨ρ 0 0 11, (0, hs_sg ρ 0 0 11 x), rfl, (by show if mp_in x 0 20 = 0 then _ else _; rw [if_neg c_12]; exact ⟨rfl, rfl, rfl⟩), by show mm_W D d cB L m0 _ _ A t.heap; rw [ht]; exact hM⟩, hS.F ht⟩) hS.2.2 dX6_price_38
  · refine lv_aload_n hx hb dX6_price_15 rfl (lv_at hl 0 rfl) ?_
    refine lv_iconst (v := 1) hx hb dX6_price_16 (by decide) ?_
    refine mm_calli (As := [.int 1]) ⟨hx, hb, hml, hown, hts⟩ (kX6_no l D d cB L m0 (0 : Int32) ρ A H.size 1) (cwV 1 hts gX6_price_X6_no rfl rfl rfl (by decide +kernel) ⟨Nat.le_of_ble_eq_true rfl, Nat.le_of_ble_eq_true rfl⟩) hKK hM hS rfl hl.1 (Nat.le_of_ble_eq_true rfl) dX6_price_17 ⟨Nat.le_of_ble_eq_true rfl, Nat.le_of_ble_eq_true rfl⟩ rfl (fun r_ X_ H locs hp hM hz hS => ?_)
    obtain ⟨t_, τ_⟩ := X_
    obtain ⟨e1_, e2_, e3_⟩ := hp
    have e2_ : (1 : Int32) = t_ := e2_
    have e3_ : ρ = τ_ := e3_
    subst e1_ e2_ e3_
    have hM : mm_W D d cB L m0 1 ρ A H := hM
    have hW := hM.2.1
    exact W.iret (v := 0) hx hb hr (fun t ht hW9 => ⟨⟨0, (1, ρ), rfl, (by show if mp_in x 0 20 = 0 then _ else _; rw [if_pos c_12]; exact ⟨rfl, rfl, rfl⟩), by show mm_W D d cB L m0 _ _ A t.heap; rw [ht]; exact hM⟩, hS.F ht⟩) hS.2.2 dX6_price_20
theorem mp_in_ix {x : Int32} {n : Nat} (hn : n < 2 ^ 31) (h : ¬ mp_in x 0 (nI n - 1) = 0) : ∃ j, j < n ∧ x = nI j := by
  unfold mp_in at h
  by_cases a : x < 0
  · rw [if_pos a] at h
    exact absurd rfl h
  · rw [if_neg a] at h
    by_cases b : nI n - 1 < x
    · rw [if_pos b] at h
      exact absurd rfl h
    · obtain ⟨j, hj, e⟩ := nI_of a
      subst e
      refine ⟨j, ?_, rfl⟩
      cases n with
      | zero =>
        exfalso
        apply b
        have := nI_pos' hj
        rw [Int32.le_iff_toInt_le] at this
        rw [Int32.lt_iff_toInt_lt, show nI 0 - 1 = (-1 : Int32) from by decide +kernel, show (-1 : Int32).toInt = -1 from by decide]
        rw [show (0 : Int32).toInt = 0 from by decide] at this
        omega
      | succ n =>
        rw [nI_pred] at b
        exact Nat.lt_succ_of_le (Nat.le_of_not_lt (fun z => b (nI_lt z hj)))
set_option maxHeartbeats 4000000 in
set_option maxRecDepth 100000 in
/-- the reference: X6_lamps -/
theorem kX6_lamps (l : Launch) (D : va_G) (d : hs_Dm) (cB : ClassId) (L : hs_Lo) (m0 : Nat) (th : Int32) (ρ : hs_St) (A : Nat → Prop) (sz : Nat) (P F R : Nat) (hok : mh_ok P F R ρ) (x y : Int32) : mm_Mi l yX6_lamps wsX6_lamps ({ frames := 2, cells := 0, slots := 0, locals := 60 } : Room) D d cB L m0 th ρ A sz [.ref m0, .int x, .int y] (fun r X => if mp_in x 0 (nI R - 1) = 0 then (0 : Int32) = r ∧ (1 : Int32) = X.1 ∧ ρ = X.2 else if mp_in y 0 9 = 0 then (0 : Int32) = r ∧ (2 : Int32) = X.1 ∧ ρ = X.2 else ρ 5 0 x.toNatClampNeg = r ∧ (0 : Int32) = X.1 ∧ hs_sg ρ 5 0 x.toNatClampNeg y = X.2) 0 0 := by
  refine Met.ofW (cc := cX6_lamps) (maxL := 4) (ret := (some .int)) (by decide) rfl ?_
  intro p e s m args below meth c0 s₁ B hml hv
  obtain ⟨rfl, hsz, hM, hKK⟩ := hv
  have hx := B.exec
  have hb := B.bytes
  have hr := B.returns
  have hts := atoms_spec (ws := wsX6_lamps) B.pre
  have hown : s.vm.findClass RX6 = some m.cls := findClass_of_methodNamed B.named
  have hlocks := B.notSynchronized
  have hS : va_S A s.heap s.heap [] := va_S.rf
  have hl := lv_entry ([.ref m0, .int x, .int y]) (n := 4) (Nat.le_of_ble_eq_true rfl)
  rw [lg_entry_eq]
  generalize (lg_sl ([.ref m0, .int x, .int y]) ++ List.replicate (4 - (lg_sl ([.ref m0, .int x, .int y])).length) Slot.unset).toArray = ls at hl ⊢
  have hl : lv_has ls 4 [(0, .ref m0), (1, .int x), (2, .int y)] := hl
  refine lv_aload_n hx hb dX6_lamps_0 rfl (lv_at hl 0 rfl) ?_
  refine lv_iconst (v := 0) hx hb dX6_lamps_1 (by decide) ?_
  refine mm_putt hx hb hts (by decide +kernel) hown hKK.1 hM hS (hts (.fieldLink RX6 16 "WaxrowModel" "thrown" "I") (by decide +kernel)) (0 : Int32) dX6_lamps_2 (fun H locs hM hS hz => ?_)
  have hM : mm_W D d cB L m0 0 ρ A H := hM
  have hW := hM.2.1
  refine lv_aload_n hx hb dX6_lamps_5 rfl (lv_at hl 0 rfl) ?_
  refine lv_iload_n hx hb dX6_lamps_6 rfl (lv_at hl 1 rfl) ?_
  refine mm_calli (As := [.int x]) ⟨hx, hb, hml, hown, hts⟩ (kX6_isRoom l D d cB L m0 (0 : Int32) ρ A H.size P F R hok x) (cwV 1 hts gX6_lamps_X6_isRoom rfl rfl rfl (by decide +kernel) ⟨Nat.le_of_ble_eq_true rfl, Nat.le_of_ble_eq_true rfl⟩) hKK hM hS rfl hl.1 (Nat.le_of_ble_eq_true rfl) dX6_lamps_7 ⟨Nat.le_of_ble_eq_true rfl, Nat.le_of_ble_eq_true rfl⟩ rfl (fun r_ X_ H locs hp hM hz hS => ?_)
  obtain ⟨t_, τ_⟩ := X_
  obtain ⟨e1_, e2_, e3_⟩ := hp
  have e2_ : (0 : Int32) = t_ := e2_
  have e3_ : ρ = τ_ := e3_
  subst e1_ e2_ e3_
  have hM : mm_W D d cB L m0 0 ρ A H := hM
  have hW := hM.2.1
  refine lv_if_ne (tgt := 19) hx hb dX6_lamps_10 (by decide) (fun c_10 => ?_) (fun c_10 => ?_)
  · refine lv_iload_n hx hb dX6_lamps_19 rfl (lv_at hl 2 rfl) ?_
    refine lv_iconst (v := 0) hx hb dX6_lamps_20 (by decide) ?_
    refine lv_bipush (v := 9) hx hb dX6_lamps_21 (by decide) ?_
    refine mm_pure (As := [.int y, .int 0, .int 9]) ⟨hx, hb, hml, hown, hts⟩ (kX6_in l (y) (0) (9)) (va_cwS 3 hts gX6_lamps_X6_in rfl rfl rfl (by decide +kernel) ⟨Nat.le_of_ble_eq_true rfl, Nat.le_of_ble_eq_true rfl⟩) hM hS rfl hl.1 (Nat.le_of_ble_eq_true rfl) dX6_lamps_23 ⟨Nat.le_of_ble_eq_true rfl, Nat.le_of_ble_eq_true rfl⟩ rfl (fun r_ H locs hp hM hz hS => ?_)
    subst hp
    have hM : mm_W D d cB L m0 0 ρ A H := hM
    have hW := hM.2.1
    refine lv_if_ne (tgt := 35) hx hb dX6_lamps_26 (by decide) (fun c_26 => ?_) (fun c_26 => ?_)
    · obtain ⟨j, hj, ej⟩ := mp_in_ix (by have := hok.2.2.1; omega) c_10
      have hR5 := hok.2.2.1
      subst ej
      refine lv_aload_n hx hb dX6_lamps_35 rfl (lv_at hl 0 rfl) ?_
      refine mm_house hx hb hts (by decide +kernel) hown hKK.1 hM (hts (.fieldLink RX6 10 "WaxrowModel" "house" "LWaxrowModel$House;") (by decide +kernel)) dX6_lamps_36 ?_
      have hW := hM.2.1
      refine mh_get hx hb hts (by decide +kernel) hown hKK.1 hW 4 (by decide) (hts (.fieldLink RX6 102 "WaxrowModel$House" "lamps" "[I") (by decide +kernel)) rfl (v := .ref (L 5 0)) rfl dX6_lamps_39 ?_
      refine lv_iload_n hx hb dX6_lamps_42 rfl (lv_at hl 1 rfl) ?_
      refine mh_iald hx hb hKK.1 hW 5 0 (by decide) (mh_ixO (by decide)) (i := nI j) (by unfold vp_in; exact nI_in (show j < 5 by omega) (by decide)) dX6_lamps_43 ?_
      rw [show (nI j : Int32).toNatClampNeg = j from nI_clamp (by omega)]
      refine lv_istore_n (lv' := [(3, .int (ρ 5 0 j)), (0, .ref m0), (1, .int (nI j)), (2, .int y)]) hx hb dX6_lamps_44 rfl hl (by decide) rfl (fun ls hl => ?_)
      refine lv_aload_n hx hb dX6_lamps_45 rfl (lv_at hl 1 rfl) ?_
      refine mm_house hx hb hts (by decide +kernel) hown hKK.1 hM (hts (.fieldLink RX6 10 "WaxrowModel" "house" "LWaxrowModel$House;") (by decide +kernel)) dX6_lamps_46 ?_
      have hW := hM.2.1
      refine mh_get hx hb hts (by decide +kernel) hown hKK.1 hW 4 (by decide) (hts (.fieldLink RX6 102 "WaxrowModel$House" "lamps" "[I") (by decide +kernel)) rfl (v := .ref (L 5 0)) rfl dX6_lamps_49 ?_
      refine lv_iload_n hx hb dX6_lamps_52 rfl (lv_at hl 2 rfl) ?_
      refine lv_iload_n hx hb dX6_lamps_53 rfl (lv_at hl 3 rfl) ?_
      have hW := hM.2.1
      refine mh_iast hx hb hKK.1 hW hS 5 0 (by decide) (mh_ixO (by decide)) (i := nI j) (x := y) (by unfold vp_in; exact nI_in (show j < 5 by omega) (by decide)) dX6_lamps_54 (fun H locs hW hS hz hq => ?_)
      rw [show (nI j : Int32).toNatClampNeg = j from nI_clamp (by omega)] at hW
      have hW : mh_W D d.1 cB L (hs_sg ρ 5 0 j y) A H := hW
      have hM : mm_W D d cB L m0 0 (hs_sg ρ 5 0 j y) A H := ⟨hM.1.kept (hq _ (fun z => hM.2.2.2 5 0 (mh_ixO (by decide)) z.symm)), hW, hM.2.2⟩
      refine lv_iload_n hx hb dX6_lamps_55 rfl (lv_at hl 0 rfl) ?_
      exact W.iret (v := ρ 5 0 j) hx hb hr (fun t ht hW9 => ⟨⟨ρ 5 0 j, (0, hs_sg ρ 5 0 j y), rfl, (by show if mp_in (nI j) 0 (nI R - 1) = 0 then _ else if mp_in y 0 9 = 0 then _ else _; rw [if_neg c_10, if_neg c_26]; exact ⟨rfl, rfl, rfl⟩), by show mm_W D d cB L m0 _ _ A t.heap; rw [ht]; exact hM⟩, hS.F ht⟩) hS.2.2 dX6_lamps_56
    · refine lv_aload_n hx hb dX6_lamps_29 rfl (lv_at hl 0 rfl) ?_
      refine lv_iconst (v := 2) hx hb dX6_lamps_30 (by decide) ?_
      refine mm_calli (As := [.int 2]) ⟨hx, hb, hml, hown, hts⟩ (kX6_no l D d cB L m0 (0 : Int32) ρ A H.size 2) (cwV 1 hts gX6_lamps_X6_no rfl rfl rfl (by decide +kernel) ⟨Nat.le_of_ble_eq_true rfl, Nat.le_of_ble_eq_true rfl⟩) hKK hM hS rfl hl.1 (Nat.le_of_ble_eq_true rfl) dX6_lamps_31 ⟨Nat.le_of_ble_eq_true rfl, Nat.le_of_ble_eq_true rfl⟩ rfl (fun r_ X_ H locs hp hM hz hS => ?_)
      obtain ⟨t_, τ_⟩ := X_
      obtain ⟨e1_, e2_, e3_⟩ := hp
      have e2_ : (2 : Int32) = t_ := e2_
      have e3_ : ρ = τ_ := e3_
      subst e1_ e2_ e3_
      have hM : mm_W D d cB L m0 2 ρ A H := hM
      have hW := hM.2.1
      exact W.iret (v := 0) hx hb hr (fun t ht hW9 => ⟨⟨0, (2, ρ), rfl, (by show if mp_in x 0 (nI R - 1) = 0 then _ else if mp_in y 0 9 = 0 then _ else _; rw [if_neg c_10, if_pos c_26]; exact ⟨rfl, rfl, rfl⟩), by show mm_W D d cB L m0 _ _ A t.heap; rw [ht]; exact hM⟩, hS.F ht⟩) hS.2.2 dX6_lamps_34
  · refine lv_aload_n hx hb dX6_lamps_13 rfl (lv_at hl 0 rfl) ?_
    refine lv_iconst (v := 1) hx hb dX6_lamps_14 (by decide) ?_
    refine mm_calli (As := [.int 1]) ⟨hx, hb, hml, hown, hts⟩ (kX6_no l D d cB L m0 (0 : Int32) ρ A H.size 1) (cwV 1 hts gX6_lamps_X6_no rfl rfl rfl (by decide +kernel) ⟨Nat.le_of_ble_eq_true rfl, Nat.le_of_ble_eq_true rfl⟩) hKK hM hS rfl hl.1 (Nat.le_of_ble_eq_true rfl) dX6_lamps_15 ⟨Nat.le_of_ble_eq_true rfl, Nat.le_of_ble_eq_true rfl⟩ rfl (fun r_ X_ H locs hp hM hz hS => ?_)
    obtain ⟨t_, τ_⟩ := X_
    obtain ⟨e1_, e2_, e3_⟩ := hp
    have e2_ : (1 : Int32) = t_ := e2_
    have e3_ : ρ = τ_ := e3_
    subst e1_ e2_ e3_
    have hM : mm_W D d cB L m0 1 ρ A H := hM
    have hW := hM.2.1
    exact W.iret (v := 0) hx hb hr (fun t ht hW9 => ⟨⟨0, (1, ρ), rfl, (by show if mp_in x 0 (nI R - 1) = 0 then _ else _; rw [if_pos c_10]; exact ⟨rfl, rfl, rfl⟩), by show mm_W D d cB L m0 _ _ A t.heap; rw [ht]; exact hM⟩, hS.F ht⟩) hS.2.2 dX6_lamps_18
theorem mp_in_le {x : Int32} {n : Nat} (hn : n < 2 ^ 31) (h : ¬ mp_in x 0 (nI n) = 0) : ∃ j, j ≤ n ∧ x = nI j := by
  unfold mp_in at h
  by_cases a : x < 0
  · rw [if_pos a] at h
    exact absurd rfl h
  · rw [if_neg a] at h
    by_cases b : nI n < x
    · rw [if_pos b] at h
      exact absurd rfl h
    · obtain ⟨j, hj, e⟩ := nI_of a
      subst e
      exact ⟨j, Nat.le_of_not_lt (fun z => b (nI_lt z hj)), rfl⟩
set_option maxHeartbeats 4000000 in
set_option maxRecDepth 100000 in
/-- the reference: X6_pay -/
theorem kX6_pay (l : Launch) (D : va_G) (d : hs_Dm) (cB : ClassId) (L : hs_Lo) (m0 : Nat) (th : Int32) (ρ : hs_St) (A : Nat → Prop) (sz : Nat) (P F R : Nat) (hok : mh_ok P F R ρ) (x : Int32) : mm_Mi l yX6_pay wsX6_pay ({ frames := 2, cells := 0, slots := 0, locals := 60 } : Room) D d cB L m0 th ρ A sz [.ref m0, .int x] (fun r X => if mp_in x 0 (nI P - 1) = 0 then (0 : Int32) = r ∧ (1 : Int32) = X.1 ∧ ρ = X.2 else ρ 11 x.toNatClampNeg 7 = r ∧ (0 : Int32) = X.1 ∧ hs_sg (hs_sg ρ 11 x.toNatClampNeg 7 0) 0 0 12 (ρ 0 0 12 - ρ 11 x.toNatClampNeg 7) = X.2) 0 0 := by
  refine Met.ofW (cc := cX6_pay) (maxL := 3) (ret := (some .int)) (by decide) rfl ?_
  intro p e s m args below meth c0 s₁ B hml hv
  obtain ⟨rfl, hsz, hM, hKK⟩ := hv
  have hx := B.exec
  have hb := B.bytes
  have hr := B.returns
  have hts := atoms_spec (ws := wsX6_pay) B.pre
  have hown : s.vm.findClass RX6 = some m.cls := findClass_of_methodNamed B.named
  have hlocks := B.notSynchronized
  have hS : va_S A s.heap s.heap [] := va_S.rf
  have hl := lv_entry ([.ref m0, .int x]) (n := 3) (Nat.le_of_ble_eq_true rfl)
  rw [lg_entry_eq]
  generalize (lg_sl ([.ref m0, .int x]) ++ List.replicate (3 - (lg_sl ([.ref m0, .int x])).length) Slot.unset).toArray = ls at hl ⊢
  have hl : lv_has ls 3 [(0, .ref m0), (1, .int x)] := hl
  refine lv_aload_n hx hb dX6_pay_0 rfl (lv_at hl 0 rfl) ?_
  refine lv_iconst (v := 0) hx hb dX6_pay_1 (by decide) ?_
  refine mm_putt hx hb hts (by decide +kernel) hown hKK.1 hM hS (hts (.fieldLink RX6 16 "WaxrowModel" "thrown" "I") (by decide +kernel)) (0 : Int32) dX6_pay_2 (fun H locs hM hS hz => ?_)
  have hM : mm_W D d cB L m0 0 ρ A H := hM
  have hW := hM.2.1
  refine lv_aload_n hx hb dX6_pay_5 rfl (lv_at hl 0 rfl) ?_
  refine lv_iload_n hx hb dX6_pay_6 rfl (lv_at hl 1 rfl) ?_
  refine mm_calli (As := [.int x]) ⟨hx, hb, hml, hown, hts⟩ (kX6_isPerson l D d cB L m0 (0 : Int32) ρ A H.size P F R hok x) (cwV 1 hts gX6_pay_X6_isPerson rfl rfl rfl (by decide +kernel) ⟨Nat.le_of_ble_eq_true rfl, Nat.le_of_ble_eq_true rfl⟩) hKK hM hS rfl hl.1 (Nat.le_of_ble_eq_true rfl) dX6_pay_7 ⟨Nat.le_of_ble_eq_true rfl, Nat.le_of_ble_eq_true rfl⟩ rfl (fun r_ X_ H locs hp hM hz hS => ?_)
  obtain ⟨t_, τ_⟩ := X_
  obtain ⟨e1_, e2_, e3_⟩ := hp
  have e2_ : (0 : Int32) = t_ := e2_
  have e3_ : ρ = τ_ := e3_
  subst e1_ e2_ e3_
  have hM : mm_W D d cB L m0 0 ρ A H := hM
  have hW := hM.2.1
  refine lv_if_ne (tgt := 19) hx hb dX6_pay_10 (by decide) (fun c_10 => ?_) (fun c_10 => ?_)
  · have hb9 := hok.1
    obtain ⟨j, hj, ej⟩ := mp_in_ix (by omega) c_10
    subst ej
    refine lv_aload_n hx hb dX6_pay_19 rfl (lv_at hl 0 rfl) ?_
    refine mm_house hx hb hts (by decide +kernel) hown hKK.1 hM (hts (.fieldLink RX6 10 "WaxrowModel" "house" "LWaxrowModel$House;") (by decide +kernel)) dX6_pay_20 ?_
    have hW := hM.2.1
    refine mh_get hx hb hts (by decide +kernel) hown hKK.1 hW 0 (by decide) (hts (.fieldLink RX6 46 "WaxrowModel$House" "persons" "[[I") (by decide +kernel)) rfl (v := .ref (L 1 0)) rfl dX6_pay_23 ?_
    refine lv_iload_n hx hb dX6_pay_26 rfl (lv_at hl 1 rfl) ?_
    refine mh_aald hx hb hKK.2.1 hW 1 j (by decide) (by decide) (by show j < mh_n 1; unfold mh_n; simp; omega) dX6_pay_27 ?_
    refine lv_bipush (v := 7) hx hb dX6_pay_28 (by decide) ?_
    refine mh_iald hx hb hKK.1 hW 11 j (by decide) (mh_ixR (k := 1) (by decide) (by decide) (by show j < mh_n 1; unfold mh_n; simp; omega)) (i := 7) (by unfold vp_in; decide) dX6_pay_30 ?_
    rw [show (7 : Int32).toNatClampNeg = 7 from by decide]
    refine lv_istore_n (lv' := [(2, .int (ρ 11 j 7)), (0, .ref m0), (1, .int (nI j))]) hx hb dX6_pay_31 rfl hl (by decide) rfl (fun ls hl => ?_)
    refine lv_aload_n hx hb dX6_pay_32 rfl (lv_at hl 1 rfl) ?_
    refine mm_house hx hb hts (by decide +kernel) hown hKK.1 hM (hts (.fieldLink RX6 10 "WaxrowModel" "house" "LWaxrowModel$House;") (by decide +kernel)) dX6_pay_33 ?_
    have hW := hM.2.1
    refine mh_get hx hb hts (by decide +kernel) hown hKK.1 hW 0 (by decide) (hts (.fieldLink RX6 46 "WaxrowModel$House" "persons" "[[I") (by decide +kernel)) rfl (v := .ref (L 1 0)) rfl dX6_pay_36 ?_
    refine lv_iload_n hx hb dX6_pay_39 rfl (lv_at hl 2 rfl) ?_
    refine mh_aald hx hb hKK.2.1 hW 1 j (by decide) (by decide) (by show j < mh_n 1; unfold mh_n; simp; omega) dX6_pay_40 ?_
    refine lv_bipush (v := 7) hx hb dX6_pay_41 (by decide) ?_
    refine lv_iconst (v := 0) hx hb dX6_pay_43 (by decide) ?_
    have hW := hM.2.1
    refine mh_iast hx hb hKK.1 hW hS 11 j (by decide) (mh_ixR (k := 1) (by decide) (by decide) (by show j < mh_n 1; unfold mh_n; simp; omega)) (i := 7) (x := 0) (by unfold vp_in; decide) dX6_pay_44 (fun H locs hW hS hz hq => ?_)
    rw [show (7 : Int32).toNatClampNeg = 7 from by decide] at hW
    have hW : mh_W D d.1 cB L (hs_sg ρ 11 j 7 (0 : Int32)) A H := hW
    have hM : mm_W D d cB L m0 0 (hs_sg ρ 11 j 7 (0 : Int32)) A H := ⟨hM.1.kept (hq _ (fun z => hM.2.2.2 11 j (mh_ixR (k := 1) (by decide) (by decide) (by show j < mh_n 1; unfold mh_n; simp; omega)) z.symm)), hW, hM.2.2⟩
    refine lv_aload_n hx hb dX6_pay_45 rfl (lv_at hl 1 rfl) ?_
    refine mm_house hx hb hts (by decide +kernel) hown hKK.1 hM (hts (.fieldLink RX6 10 "WaxrowModel" "house" "LWaxrowModel$House;") (by decide +kernel)) dX6_pay_46 ?_
    have hW := hM.2.1
    refine lv_dup hx hb dX6_pay_49 rfl ?_
    refine mh_get hx hb hts (by decide +kernel) hown hKK.1 hW 12 (by decide) (hts (.fieldLink RX6 70 "WaxrowModel$House" "money" "I") (by decide +kernel)) rfl (v := .int ((hs_sg ρ 11 j 7 (0 : Int32)) 0 0 12)) rfl dX6_pay_50 ?_
    rw [show (hs_sg ρ 11 j 7 (0 : Int32)) 0 0 12 = ρ 0 0 12 from by rw [pc9, if_neg (by omega)]]
    refine lv_iload_n hx hb dX6_pay_53 rfl (lv_at hl 0 rfl) ?_
    refine lv_isub hx hb dX6_pay_54 ?_
    have hW := hM.2.1
    refine mh_puti hx hb hts (by decide +kernel) hown hKK.1 hW hS 12 (by decide) (hts (.fieldLink RX6 70 "WaxrowModel$House" "money" "I") (by decide +kernel)) rfl rfl ((ρ 0 0 12) - (ρ 11 j 7)) (by decide +kernel) rfl dX6_pay_55 (fun H locs hW hS hz hq => ?_)
    have hW : mh_W D d.1 cB L (hs_sg (hs_sg ρ 11 j 7 (0 : Int32)) 0 0 12 ((ρ 0 0 12) - (ρ 11 j 7))) A H := hW
    have hM : mm_W D d cB L m0 0 (hs_sg (hs_sg ρ 11 j 7 (0 : Int32)) 0 0 12 ((ρ 0 0 12) - (ρ 11 j 7))) A H := ⟨hM.1.kept (hq _ (fun z => hM.2.2.2 0 0 (mh_ixO (by decide)) z.symm)), hW, hM.2.2⟩
    refine lv_iload_n hx hb dX6_pay_58 rfl (lv_at hl 0 rfl) ?_
    exact W.iret (v := ρ 11 j 7) hx hb hr (fun t ht hW9 => ⟨⟨ρ 11 j 7, (0, hs_sg (hs_sg ρ 11 j 7 (0 : Int32)) 0 0 12 ((ρ 0 0 12) - (ρ 11 j 7))), rfl, (by have hcl := nI_clamp (n := j) (by omega); show if mp_in (nI j) 0 (nI P - 1) = 0 then _ else ρ 11 (nI j).toNatClampNeg 7 = _ ∧ _ ∧ hs_sg (hs_sg ρ 11 (nI j).toNatClampNeg 7 0) 0 0 12 (ρ 0 0 12 - ρ 11 (nI j).toNatClampNeg 7) = _; rw [if_neg c_10, hcl]; exact ⟨rfl, rfl, rfl⟩), by show mm_W D d cB L m0 _ _ A t.heap; rw [ht]; exact hM⟩, hS.F ht⟩) hS.2.2 dX6_pay_59
  · refine lv_aload_n hx hb dX6_pay_13 rfl (lv_at hl 0 rfl) ?_
    refine lv_iconst (v := 1) hx hb dX6_pay_14 (by decide) ?_
    refine mm_calli (As := [.int 1]) ⟨hx, hb, hml, hown, hts⟩ (kX6_no l D d cB L m0 (0 : Int32) ρ A H.size 1) (cwV 1 hts gX6_pay_X6_no rfl rfl rfl (by decide +kernel) ⟨Nat.le_of_ble_eq_true rfl, Nat.le_of_ble_eq_true rfl⟩) hKK hM hS rfl hl.1 (Nat.le_of_ble_eq_true rfl) dX6_pay_15 ⟨Nat.le_of_ble_eq_true rfl, Nat.le_of_ble_eq_true rfl⟩ rfl (fun r_ X_ H locs hp hM hz hS => ?_)
    obtain ⟨t_, τ_⟩ := X_
    obtain ⟨e1_, e2_, e3_⟩ := hp
    have e2_ : (1 : Int32) = t_ := e2_
    have e3_ : ρ = τ_ := e3_
    subst e1_ e2_ e3_
    have hM : mm_W D d cB L m0 1 ρ A H := hM
    have hW := hM.2.1
    exact W.iret (v := 0) hx hb hr (fun t ht hW9 => ⟨⟨0, (1, ρ), rfl, (by show if mp_in x 0 (nI P - 1) = 0 then _ else _; rw [if_pos c_10]; exact ⟨rfl, rfl, rfl⟩), by show mm_W D d cB L m0 _ _ A t.heap; rw [ht]; exact hM⟩, hS.F ht⟩) hS.2.2 dX6_pay_18
set_option maxHeartbeats 4000000 in
set_option maxRecDepth 100000 in
/-- the reference: X6_take -/
theorem kX6_take (l : Launch) (D : va_G) (d : hs_Dm) (cB : ClassId) (L : hs_Lo) (m0 : Nat) (th : Int32) (ρ : hs_St) (A : Nat → Prop) (sz : Nat) (P F R : Nat) (hok : mh_ok P F R ρ) (x : Int32) : mm_Mi l yX6_take wsX6_take ({ frames := 2, cells := 0, slots := 0, locals := 60 } : Room) D d cB L m0 th ρ A sz [.ref m0, .int x] (fun r X => if mp_in x 0 (nI F - 1) = 0 then (0 : Int32) = r ∧ (1 : Int32) = X.1 ∧ ρ = X.2 else if ρ 14 x.toNatClampNeg 7 < 5 then ρ 14 x.toNatClampNeg 7 = r ∧ (0 : Int32) = X.1 ∧ hs_sg ρ 14 x.toNatClampNeg 7 5 = X.2 else (0 : Int32) = r ∧ (2 : Int32) = X.1 ∧ ρ = X.2) 0 0 := by
  refine Met.ofW (cc := cX6_take) (maxL := 3) (ret := (some .int)) (by decide) rfl ?_
  intro p e s m args below meth c0 s₁ B hml hv
  obtain ⟨rfl, hsz, hM, hKK⟩ := hv
  have hx := B.exec
  have hb := B.bytes
  have hr := B.returns
  have hts := atoms_spec (ws := wsX6_take) B.pre
  have hown : s.vm.findClass RX6 = some m.cls := findClass_of_methodNamed B.named
  have hlocks := B.notSynchronized
  have hS : va_S A s.heap s.heap [] := va_S.rf
  have hl := lv_entry ([.ref m0, .int x]) (n := 3) (Nat.le_of_ble_eq_true rfl)
  rw [lg_entry_eq]
  generalize (lg_sl ([.ref m0, .int x]) ++ List.replicate (3 - (lg_sl ([.ref m0, .int x])).length) Slot.unset).toArray = ls at hl ⊢
  have hl : lv_has ls 3 [(0, .ref m0), (1, .int x)] := hl
  refine lv_aload_n hx hb dX6_take_0 rfl (lv_at hl 0 rfl) ?_
  refine lv_iconst (v := 0) hx hb dX6_take_1 (by decide) ?_
  refine mm_putt hx hb hts (by decide +kernel) hown hKK.1 hM hS (hts (.fieldLink RX6 16 "WaxrowModel" "thrown" "I") (by decide +kernel)) (0 : Int32) dX6_take_2 (fun H locs hM hS hz => ?_)
  have hM : mm_W D d cB L m0 0 ρ A H := hM
  have hW := hM.2.1
  refine lv_aload_n hx hb dX6_take_5 rfl (lv_at hl 0 rfl) ?_
  refine lv_iload_n hx hb dX6_take_6 rfl (lv_at hl 1 rfl) ?_
  refine mm_calli (As := [.int x]) ⟨hx, hb, hml, hown, hts⟩ (kX6_isFigure l D d cB L m0 (0 : Int32) ρ A H.size P F R hok x) (cwV 1 hts gX6_take_X6_isFigure rfl rfl rfl (by decide +kernel) ⟨Nat.le_of_ble_eq_true rfl, Nat.le_of_ble_eq_true rfl⟩) hKK hM hS rfl hl.1 (Nat.le_of_ble_eq_true rfl) dX6_take_7 ⟨Nat.le_of_ble_eq_true rfl, Nat.le_of_ble_eq_true rfl⟩ rfl (fun r_ X_ H locs hp hM hz hS => ?_)
  obtain ⟨t_, τ_⟩ := X_
  obtain ⟨e1_, e2_, e3_⟩ := hp
  have e2_ : (0 : Int32) = t_ := e2_
  have e3_ : ρ = τ_ := e3_
  subst e1_ e2_ e3_
  have hM : mm_W D d cB L m0 0 ρ A H := hM
  have hW := hM.2.1
  refine lv_if_ne (tgt := 19) hx hb dX6_take_10 (by decide) (fun c_10 => ?_) (fun c_10 => ?_)
  · have hb9 := hok.2.1
    obtain ⟨j, hj, ej⟩ := mp_in_ix (by omega) c_10
    subst ej
    refine lv_aload_n hx hb dX6_take_19 rfl (lv_at hl 0 rfl) ?_
    refine mm_house hx hb hts (by decide +kernel) hown hKK.1 hM (hts (.fieldLink RX6 10 "WaxrowModel" "house" "LWaxrowModel$House;") (by decide +kernel)) dX6_take_20 ?_
    have hW := hM.2.1
    refine mh_get hx hb hts (by decide +kernel) hown hKK.1 hW 3 (by decide) (hts (.fieldLink RX6 60 "WaxrowModel$House" "figures" "[[I") (by decide +kernel)) rfl (v := .ref (L 4 0)) rfl dX6_take_23 ?_
    refine lv_iload_n hx hb dX6_take_26 rfl (lv_at hl 1 rfl) ?_
    refine mh_aald hx hb hKK.2.1 hW 4 j (by decide) (by decide) (by show j < mh_n 4; unfold mh_n; simp; omega) dX6_take_27 ?_
    refine lv_bipush (v := 7) hx hb dX6_take_28 (by decide) ?_
    refine mh_iald hx hb hKK.1 hW 14 j (by decide) (mh_ixR (k := 4) (by decide) (by decide) (by show j < mh_n 4; unfold mh_n; simp; omega)) (i := 7) (by unfold vp_in; decide) dX6_take_30 ?_
    rw [show (7 : Int32).toNatClampNeg = 7 from by decide]
    refine lv_istore_n (lv' := [(2, .int (ρ 14 j 7)), (0, .ref m0), (1, .int (nI j))]) hx hb dX6_take_31 rfl hl (by decide) rfl (fun ls hl => ?_)
    refine lv_iload_n hx hb dX6_take_32 rfl (lv_at hl 0 rfl) ?_
    refine lv_iconst (v := 5) hx hb dX6_take_33 (by decide) ?_
    refine lv_icmp_lt (tgt := 43) hx hb dX6_take_34 (by decide) (fun c_34 => ?_) (fun c_34 => ?_)
    · refine lv_aload_n hx hb dX6_take_43 rfl (lv_at hl 1 rfl) ?_
      refine mm_house hx hb hts (by decide +kernel) hown hKK.1 hM (hts (.fieldLink RX6 10 "WaxrowModel" "house" "LWaxrowModel$House;") (by decide +kernel)) dX6_take_44 ?_
      have hW := hM.2.1
      refine mh_get hx hb hts (by decide +kernel) hown hKK.1 hW 3 (by decide) (hts (.fieldLink RX6 60 "WaxrowModel$House" "figures" "[[I") (by decide +kernel)) rfl (v := .ref (L 4 0)) rfl dX6_take_47 ?_
      refine lv_iload_n hx hb dX6_take_50 rfl (lv_at hl 2 rfl) ?_
      refine mh_aald hx hb hKK.2.1 hW 4 j (by decide) (by decide) (by show j < mh_n 4; unfold mh_n; simp; omega) dX6_take_51 ?_
      refine lv_bipush (v := 7) hx hb dX6_take_52 (by decide) ?_
      refine lv_iconst (v := 5) hx hb dX6_take_54 (by decide) ?_
      have hW := hM.2.1
      refine mh_iast hx hb hKK.1 hW hS 14 j (by decide) (mh_ixR (k := 4) (by decide) (by decide) (by show j < mh_n 4; unfold mh_n; simp; omega)) (i := 7) (x := 5) (by unfold vp_in; decide) dX6_take_55 (fun H locs hW hS hz hq => ?_)
      rw [show (7 : Int32).toNatClampNeg = 7 from by decide] at hW
      have hW : mh_W D d.1 cB L (hs_sg ρ 14 j 7 (5 : Int32)) A H := hW
      have hM : mm_W D d cB L m0 0 (hs_sg ρ 14 j 7 (5 : Int32)) A H := ⟨hM.1.kept (hq _ (fun z => hM.2.2.2 14 j (mh_ixR (k := 4) (by decide) (by decide) (by show j < mh_n 4; unfold mh_n; simp; omega)) z.symm)), hW, hM.2.2⟩
      refine lv_iload_n hx hb dX6_take_56 rfl (lv_at hl 0 rfl) ?_
      exact W.iret (v := ρ 14 j 7) hx hb hr (fun t ht hW9 => ⟨⟨ρ 14 j 7, (0, hs_sg ρ 14 j 7 (5 : Int32)), rfl, (by have hcl := nI_clamp (n := j) (by omega); show if mp_in (nI j) 0 (nI F - 1) = 0 then _ else if ρ 14 (nI j).toNatClampNeg 7 < 5 then ρ 14 (nI j).toNatClampNeg 7 = _ ∧ _ ∧ hs_sg ρ 14 (nI j).toNatClampNeg 7 5 = _ else _; rw [if_neg c_10, hcl, if_pos c_34]; exact ⟨rfl, rfl, rfl⟩), by show mm_W D d cB L m0 _ _ A t.heap; rw [ht]; exact hM⟩, hS.F ht⟩) hS.2.2 dX6_take_57
    · refine lv_aload_n hx hb dX6_take_37 rfl (lv_at hl 1 rfl) ?_
      refine lv_iconst (v := 2) hx hb dX6_take_38 (by decide) ?_
      refine mm_calli (As := [.int 2]) ⟨hx, hb, hml, hown, hts⟩ (kX6_no l D d cB L m0 (0 : Int32) ρ A H.size 2) (cwV 1 hts gX6_take_X6_no rfl rfl rfl (by decide +kernel) ⟨Nat.le_of_ble_eq_true rfl, Nat.le_of_ble_eq_true rfl⟩) hKK hM hS rfl hl.1 (Nat.le_of_ble_eq_true rfl) dX6_take_39 ⟨Nat.le_of_ble_eq_true rfl, Nat.le_of_ble_eq_true rfl⟩ rfl (fun r_ X_ H locs hp hM hz hS => ?_)
      obtain ⟨t_, τ_⟩ := X_
      obtain ⟨e1_, e2_, e3_⟩ := hp
      have e2_ : (2 : Int32) = t_ := e2_
      have e3_ : ρ = τ_ := e3_
      subst e1_ e2_ e3_
      have hM : mm_W D d cB L m0 2 ρ A H := hM
      have hW := hM.2.1
      exact W.iret (v := 0) hx hb hr (fun t ht hW9 => ⟨⟨0, (2, ρ), rfl, (by have hcl := nI_clamp (n := j) (by omega); show if mp_in (nI j) 0 (nI F - 1) = 0 then _ else if ρ 14 (nI j).toNatClampNeg 7 < 5 then ρ 14 (nI j).toNatClampNeg 7 = _ ∧ _ ∧ hs_sg ρ 14 (nI j).toNatClampNeg 7 5 = _ else _; rw [if_neg c_10, hcl, if_neg c_34]; exact ⟨rfl, rfl, rfl⟩), by show mm_W D d cB L m0 _ _ A t.heap; rw [ht]; exact hM⟩, hS.F ht⟩) hS.2.2 dX6_take_42
  · refine lv_aload_n hx hb dX6_take_13 rfl (lv_at hl 0 rfl) ?_
    refine lv_iconst (v := 1) hx hb dX6_take_14 (by decide) ?_
    refine mm_calli (As := [.int 1]) ⟨hx, hb, hml, hown, hts⟩ (kX6_no l D d cB L m0 (0 : Int32) ρ A H.size 1) (cwV 1 hts gX6_take_X6_no rfl rfl rfl (by decide +kernel) ⟨Nat.le_of_ble_eq_true rfl, Nat.le_of_ble_eq_true rfl⟩) hKK hM hS rfl hl.1 (Nat.le_of_ble_eq_true rfl) dX6_take_15 ⟨Nat.le_of_ble_eq_true rfl, Nat.le_of_ble_eq_true rfl⟩ rfl (fun r_ X_ H locs hp hM hz hS => ?_)
    obtain ⟨t_, τ_⟩ := X_
    obtain ⟨e1_, e2_, e3_⟩ := hp
    have e2_ : (1 : Int32) = t_ := e2_
    have e3_ : ρ = τ_ := e3_
    subst e1_ e2_ e3_
    have hM : mm_W D d cB L m0 1 ρ A H := hM
    have hW := hM.2.1
    exact W.iret (v := 0) hx hb hr (fun t ht hW9 => ⟨⟨0, (1, ρ), rfl, (by show if mp_in x 0 (nI F - 1) = 0 then _ else _; rw [if_pos c_10]; exact ⟨rfl, rfl, rfl⟩), by show mm_W D d cB L m0 _ _ A t.heap; rw [ht]; exact hM⟩, hS.F ht⟩) hS.2.2 dX6_take_18
def mp_melt (ρ : hs_St) (f : Nat) : hs_St := hs_sg (hs_sg (hs_sg ρ 14 f 7 7) 14 f 4 0) 0 0 13 (ρ 0 0 13 + (if ρ 14 f 2 ≤ 3 then 0 else 20))
set_option maxHeartbeats 4000000 in
set_option maxRecDepth 100000 in
/-- the reference: X6_melt -/
theorem kX6_melt (l : Launch) (D : va_G) (d : hs_Dm) (cB : ClassId) (L : hs_Lo) (m0 : Nat) (th : Int32) (ρ : hs_St) (A : Nat → Prop) (sz : Nat) (P F R : Nat) (hok : mh_ok P F R ρ) (x : Int32) : mm_Mi l yX6_melt wsX6_melt ({ frames := 2, cells := 0, slots := 0, locals := 60 } : Room) D d cB L m0 th ρ A sz [.ref m0, .int x] (fun r X => if mp_in x 0 (nI F - 1) = 0 then (0 : Int32) = r ∧ (1 : Int32) = X.1 ∧ ρ = X.2 else if ρ 14 x.toNatClampNeg 7 = 5 then mp_melt ρ x.toNatClampNeg 0 0 13 = r ∧ (0 : Int32) = X.1 ∧ mp_melt ρ x.toNatClampNeg = X.2 else (0 : Int32) = r ∧ (2 : Int32) = X.1 ∧ ρ = X.2) 0 0 := by
  refine Met.ofW (cc := cX6_melt) (maxL := 3) (ret := (some .int)) (by decide) rfl ?_
  intro p e s m args below meth c0 s₁ B hml hv
  obtain ⟨rfl, hsz, hM, hKK⟩ := hv
  have hx := B.exec
  have hb := B.bytes
  have hr := B.returns
  have hts := atoms_spec (ws := wsX6_melt) B.pre
  have hown : s.vm.findClass RX6 = some m.cls := findClass_of_methodNamed B.named
  have hlocks := B.notSynchronized
  have hS : va_S A s.heap s.heap [] := va_S.rf
  have hl := lv_entry ([.ref m0, .int x]) (n := 3) (Nat.le_of_ble_eq_true rfl)
  rw [lg_entry_eq]
  generalize (lg_sl ([.ref m0, .int x]) ++ List.replicate (3 - (lg_sl ([.ref m0, .int x])).length) Slot.unset).toArray = ls at hl ⊢
  have hl : lv_has ls 3 [(0, .ref m0), (1, .int x)] := hl
  refine lv_aload_n hx hb dX6_melt_0 rfl (lv_at hl 0 rfl) ?_
  refine lv_iconst (v := 0) hx hb dX6_melt_1 (by decide) ?_
  refine mm_putt hx hb hts (by decide +kernel) hown hKK.1 hM hS (hts (.fieldLink RX6 16 "WaxrowModel" "thrown" "I") (by decide +kernel)) (0 : Int32) dX6_melt_2 (fun H locs hM hS hz => ?_)
  have hM : mm_W D d cB L m0 0 ρ A H := hM
  have hW := hM.2.1
  refine lv_aload_n hx hb dX6_melt_5 rfl (lv_at hl 0 rfl) ?_
  refine lv_iload_n hx hb dX6_melt_6 rfl (lv_at hl 1 rfl) ?_
  refine mm_calli (As := [.int x]) ⟨hx, hb, hml, hown, hts⟩ (kX6_isFigure l D d cB L m0 (0 : Int32) ρ A H.size P F R hok x) (cwV 1 hts gX6_melt_X6_isFigure rfl rfl rfl (by decide +kernel) ⟨Nat.le_of_ble_eq_true rfl, Nat.le_of_ble_eq_true rfl⟩) hKK hM hS rfl hl.1 (Nat.le_of_ble_eq_true rfl) dX6_melt_7 ⟨Nat.le_of_ble_eq_true rfl, Nat.le_of_ble_eq_true rfl⟩ rfl (fun r_ X_ H locs hp hM hz hS => ?_)
  obtain ⟨t_, τ_⟩ := X_
  obtain ⟨e1_, e2_, e3_⟩ := hp
  have e2_ : (0 : Int32) = t_ := e2_
  have e3_ : ρ = τ_ := e3_
  subst e1_ e2_ e3_
  have hM : mm_W D d cB L m0 0 ρ A H := hM
  have hW := hM.2.1
  refine lv_if_ne (tgt := 19) hx hb dX6_melt_10 (by decide) (fun c_10 => ?_) (fun c_10 => ?_)
  · have hb9 := hok.2.1
    obtain ⟨j, hj, ej⟩ := mp_in_ix (by omega) c_10
    subst ej
    refine lv_aload_n hx hb dX6_melt_19 rfl (lv_at hl 0 rfl) ?_
    refine mm_house hx hb hts (by decide +kernel) hown hKK.1 hM (hts (.fieldLink RX6 10 "WaxrowModel" "house" "LWaxrowModel$House;") (by decide +kernel)) dX6_melt_20 ?_
    have hW := hM.2.1
    refine mh_get hx hb hts (by decide +kernel) hown hKK.1 hW 3 (by decide) (hts (.fieldLink RX6 60 "WaxrowModel$House" "figures" "[[I") (by decide +kernel)) rfl (v := .ref (L 4 0)) rfl dX6_melt_23 ?_
    refine lv_iload_n hx hb dX6_melt_26 rfl (lv_at hl 1 rfl) ?_
    refine mh_aald hx hb hKK.2.1 hW 4 j (by decide) (by decide) (by show j < mh_n 4; unfold mh_n; simp; omega) dX6_melt_27 ?_
    refine lv_astore_n (lv' := [(2, .ref (L 14 j)), (0, .ref m0), (1, .int (nI j))]) hx hb dX6_melt_28 rfl hl (by decide) rfl (fun ls hl => ?_)
    refine lv_aload_n hx hb dX6_melt_29 rfl (lv_at hl 0 rfl) ?_
    refine lv_bipush (v := 7) hx hb dX6_melt_30 (by decide) ?_
    refine mh_iald hx hb hKK.1 hW 14 j (by decide) (mh_ixR (k := 4) (by decide) (by decide) (by show j < mh_n 4; unfold mh_n; simp; omega)) (i := 7) (by unfold vp_in; decide) dX6_melt_32 ?_
    rw [show (7 : Int32).toNatClampNeg = 7 from by decide]
    refine lv_iconst (v := 5) hx hb dX6_melt_33 (by decide) ?_
    refine lv_icmp_eq (tgt := 43) hx hb dX6_melt_34 (by decide) (fun c_34 => ?_) (fun c_34 => ?_)
    · refine lv_aload_n hx hb dX6_melt_43 rfl (lv_at hl 0 rfl) ?_
      refine lv_bipush (v := 7) hx hb dX6_melt_44 (by decide) ?_
      refine lv_bipush (v := 7) hx hb dX6_melt_46 (by decide) ?_
      have hW := hM.2.1
      refine mh_iast hx hb hKK.1 hW hS 14 j (by decide) (mh_ixR (k := 4) (by decide) (by decide) (by show j < mh_n 4; unfold mh_n; simp; omega)) (i := 7) (x := 7) (by unfold vp_in; decide) dX6_melt_48 (fun H locs hW hS hz hq => ?_)
      rw [show (7 : Int32).toNatClampNeg = 7 from by decide] at hW
      have hW : mh_W D d.1 cB L (hs_sg ρ 14 j 7 (7 : Int32)) A H := hW
      have hM : mm_W D d cB L m0 0 (hs_sg ρ 14 j 7 (7 : Int32)) A H := ⟨hM.1.kept (hq _ (fun z => hM.2.2.2 14 j (mh_ixR (k := 4) (by decide) (by decide) (by show j < mh_n 4; unfold mh_n; simp; omega)) z.symm)), hW, hM.2.2⟩
      refine lv_aload_n hx hb dX6_melt_49 rfl (lv_at hl 0 rfl) ?_
      refine lv_iconst (v := 4) hx hb dX6_melt_50 (by decide) ?_
      refine lv_iconst (v := 0) hx hb dX6_melt_51 (by decide) ?_
      have hW := hM.2.1
      refine mh_iast hx hb hKK.1 hW hS 14 j (by decide) (mh_ixR (k := 4) (by decide) (by decide) (by show j < mh_n 4; unfold mh_n; simp; omega)) (i := 4) (x := 0) (by unfold vp_in; decide) dX6_melt_52 (fun H locs hW hS hz hq => ?_)
      rw [show (4 : Int32).toNatClampNeg = 4 from by decide] at hW
      have hW : mh_W D d.1 cB L (hs_sg (hs_sg ρ 14 j 7 (7 : Int32)) 14 j 4 (0 : Int32)) A H := hW
      have hM : mm_W D d cB L m0 0 (hs_sg (hs_sg ρ 14 j 7 (7 : Int32)) 14 j 4 (0 : Int32)) A H := ⟨hM.1.kept (hq _ (fun z => hM.2.2.2 14 j (mh_ixR (k := 4) (by decide) (by decide) (by show j < mh_n 4; unfold mh_n; simp; omega)) z.symm)), hW, hM.2.2⟩
      refine lv_aload_n hx hb dX6_melt_53 rfl (lv_at hl 1 rfl) ?_
      refine mm_house hx hb hts (by decide +kernel) hown hKK.1 hM (hts (.fieldLink RX6 10 "WaxrowModel" "house" "LWaxrowModel$House;") (by decide +kernel)) dX6_melt_54 ?_
      have hW := hM.2.1
      refine lv_dup hx hb dX6_melt_57 rfl ?_
      refine mh_get hx hb hts (by decide +kernel) hown hKK.1 hW 13 (by decide) (hts (.fieldLink RX6 99 "WaxrowModel$House" "wax" "I") (by decide +kernel)) rfl (v := .int ((hs_sg (hs_sg ρ 14 j 7 (7 : Int32)) 14 j 4 (0 : Int32)) 0 0 13)) rfl dX6_melt_58 ?_
      rw [show (hs_sg (hs_sg ρ 14 j 7 (7 : Int32)) 14 j 4 (0 : Int32)) 0 0 13 = ρ 0 0 13 from by rw [pc9, if_neg (by omega), pc9, if_neg (by omega)]]
      refine lv_aload_n hx hb dX6_melt_61 rfl (lv_at hl 0 rfl) ?_
      refine lv_iconst (v := 2) hx hb dX6_melt_62 (by decide) ?_
      refine mh_iald hx hb hKK.1 hW 14 j (by decide) (mh_ixR (k := 4) (by decide) (by decide) (by show j < mh_n 4; unfold mh_n; simp; omega)) (i := 2) (by unfold vp_in; decide) dX6_melt_63 ?_
      rw [show (2 : Int32).toNatClampNeg = 2 from by decide]
      rw [show (hs_sg (hs_sg ρ 14 j 7 (7 : Int32)) 14 j 4 (0 : Int32)) 14 j 2 = ρ 14 j 2 from by rw [pc9, if_neg (by omega), pc9, if_neg (by omega)]]
      refine lv_iconst (v := 3) hx hb dX6_melt_64 (by decide) ?_
      refine lv_icmp_le (tgt := 73) hx hb dX6_melt_65 (by decide) (fun c_65 => ?_) (fun c_65 => ?_)
      · refine lv_iconst (v := 0) hx hb dX6_melt_73 (by decide) ?_
        refine lv_iadd hx hb dX6_melt_74 ?_
        have hW := hM.2.1
        refine mh_puti hx hb hts (by decide +kernel) hown hKK.1 hW hS 13 (by decide) (hts (.fieldLink RX6 99 "WaxrowModel$House" "wax" "I") (by decide +kernel)) rfl rfl ((ρ 0 0 13) + 0) (by decide +kernel) rfl dX6_melt_75 (fun H locs hW hS hz hq => ?_)
        have hW : mh_W D d.1 cB L (hs_sg (hs_sg (hs_sg ρ 14 j 7 (7 : Int32)) 14 j 4 (0 : Int32)) 0 0 13 ((ρ 0 0 13) + 0)) A H := hW
        have hM : mm_W D d cB L m0 0 (hs_sg (hs_sg (hs_sg ρ 14 j 7 (7 : Int32)) 14 j 4 (0 : Int32)) 0 0 13 ((ρ 0 0 13) + 0)) A H := ⟨hM.1.kept (hq _ (fun z => hM.2.2.2 0 0 (mh_ixO (by decide)) z.symm)), hW, hM.2.2⟩
        refine lv_aload_n hx hb dX6_melt_78 rfl (lv_at hl 1 rfl) ?_
        refine mm_house hx hb hts (by decide +kernel) hown hKK.1 hM (hts (.fieldLink RX6 10 "WaxrowModel" "house" "LWaxrowModel$House;") (by decide +kernel)) dX6_melt_79 ?_
        have hW := hM.2.1
        refine mh_get hx hb hts (by decide +kernel) hown hKK.1 hW 13 (by decide) (hts (.fieldLink RX6 99 "WaxrowModel$House" "wax" "I") (by decide +kernel)) rfl (v := .int ((hs_sg (hs_sg (hs_sg ρ 14 j 7 (7 : Int32)) 14 j 4 (0 : Int32)) 0 0 13 ((ρ 0 0 13) + 0)) 0 0 13)) rfl dX6_melt_82 ?_
        exact W.iret (v := (hs_sg (hs_sg (hs_sg ρ 14 j 7 (7 : Int32)) 14 j 4 (0 : Int32)) 0 0 13 ((ρ 0 0 13) + 0)) 0 0 13) hx hb hr (fun t ht hW9 => ⟨⟨(hs_sg (hs_sg (hs_sg ρ 14 j 7 (7 : Int32)) 14 j 4 (0 : Int32)) 0 0 13 ((ρ 0 0 13) + 0)) 0 0 13, (0, hs_sg (hs_sg (hs_sg ρ 14 j 7 (7 : Int32)) 14 j 4 (0 : Int32)) 0 0 13 ((ρ 0 0 13) + 0)), rfl, (by have hcl := nI_clamp (n := j) (by omega); show if mp_in (nI j) 0 (nI F - 1) = 0 then _ else if ρ 14 (nI j).toNatClampNeg 7 = 5 then mp_melt ρ (nI j).toNatClampNeg 0 0 13 = _ ∧ _ ∧ mp_melt ρ (nI j).toNatClampNeg = _ else _; rw [if_neg c_10, hcl, if_pos c_34]; unfold mp_melt; rw [if_pos c_65]; exact ⟨rfl, rfl, rfl⟩), by show mm_W D d cB L m0 _ _ A t.heap; rw [ht]; exact hM⟩, hS.F ht⟩) hS.2.2 dX6_melt_85
      · refine lv_bipush (v := 20) hx hb dX6_melt_68 (by decide) ?_
        refine lv_goto (tgt := 74) hx hb dX6_melt_70 (by decide) ?_
        refine lv_iadd hx hb dX6_melt_74 ?_
        have hW := hM.2.1
        refine mh_puti hx hb hts (by decide +kernel) hown hKK.1 hW hS 13 (by decide) (hts (.fieldLink RX6 99 "WaxrowModel$House" "wax" "I") (by decide +kernel)) rfl rfl ((ρ 0 0 13) + 20) (by decide +kernel) rfl dX6_melt_75 (fun H locs hW hS hz hq => ?_)
        have hW : mh_W D d.1 cB L (hs_sg (hs_sg (hs_sg ρ 14 j 7 (7 : Int32)) 14 j 4 (0 : Int32)) 0 0 13 ((ρ 0 0 13) + 20)) A H := hW
        have hM : mm_W D d cB L m0 0 (hs_sg (hs_sg (hs_sg ρ 14 j 7 (7 : Int32)) 14 j 4 (0 : Int32)) 0 0 13 ((ρ 0 0 13) + 20)) A H := ⟨hM.1.kept (hq _ (fun z => hM.2.2.2 0 0 (mh_ixO (by decide)) z.symm)), hW, hM.2.2⟩
        refine lv_aload_n hx hb dX6_melt_78 rfl (lv_at hl 1 rfl) ?_
        refine mm_house hx hb hts (by decide +kernel) hown hKK.1 hM (hts (.fieldLink RX6 10 "WaxrowModel" "house" "LWaxrowModel$House;") (by decide +kernel)) dX6_melt_79 ?_
        have hW := hM.2.1
        refine mh_get hx hb hts (by decide +kernel) hown hKK.1 hW 13 (by decide) (hts (.fieldLink RX6 99 "WaxrowModel$House" "wax" "I") (by decide +kernel)) rfl (v := .int ((hs_sg (hs_sg (hs_sg ρ 14 j 7 (7 : Int32)) 14 j 4 (0 : Int32)) 0 0 13 ((ρ 0 0 13) + 20)) 0 0 13)) rfl dX6_melt_82 ?_
        exact W.iret (v := (hs_sg (hs_sg (hs_sg ρ 14 j 7 (7 : Int32)) 14 j 4 (0 : Int32)) 0 0 13 ((ρ 0 0 13) + 20)) 0 0 13) hx hb hr (fun t ht hW9 => ⟨⟨(hs_sg (hs_sg (hs_sg ρ 14 j 7 (7 : Int32)) 14 j 4 (0 : Int32)) 0 0 13 ((ρ 0 0 13) + 20)) 0 0 13, (0, hs_sg (hs_sg (hs_sg ρ 14 j 7 (7 : Int32)) 14 j 4 (0 : Int32)) 0 0 13 ((ρ 0 0 13) + 20)), rfl, (by have hcl := nI_clamp (n := j) (by omega); show if mp_in (nI j) 0 (nI F - 1) = 0 then _ else if ρ 14 (nI j).toNatClampNeg 7 = 5 then mp_melt ρ (nI j).toNatClampNeg 0 0 13 = _ ∧ _ ∧ mp_melt ρ (nI j).toNatClampNeg = _ else _; rw [if_neg c_10, hcl, if_pos c_34]; unfold mp_melt; rw [if_neg c_65]; exact ⟨rfl, rfl, rfl⟩), by show mm_W D d cB L m0 _ _ A t.heap; rw [ht]; exact hM⟩, hS.F ht⟩) hS.2.2 dX6_melt_85
    · refine lv_aload_n hx hb dX6_melt_37 rfl (lv_at hl 1 rfl) ?_
      refine lv_iconst (v := 2) hx hb dX6_melt_38 (by decide) ?_
      refine mm_calli (As := [.int 2]) ⟨hx, hb, hml, hown, hts⟩ (kX6_no l D d cB L m0 (0 : Int32) ρ A H.size 2) (cwV 1 hts gX6_melt_X6_no rfl rfl rfl (by decide +kernel) ⟨Nat.le_of_ble_eq_true rfl, Nat.le_of_ble_eq_true rfl⟩) hKK hM hS rfl hl.1 (Nat.le_of_ble_eq_true rfl) dX6_melt_39 ⟨Nat.le_of_ble_eq_true rfl, Nat.le_of_ble_eq_true rfl⟩ rfl (fun r_ X_ H locs hp hM hz hS => ?_)
      obtain ⟨t_, τ_⟩ := X_
      obtain ⟨e1_, e2_, e3_⟩ := hp
      have e2_ : (2 : Int32) = t_ := e2_
      have e3_ : ρ = τ_ := e3_
      subst e1_ e2_ e3_
      have hM : mm_W D d cB L m0 2 ρ A H := hM
      have hW := hM.2.1
      exact W.iret (v := 0) hx hb hr (fun t ht hW9 => ⟨⟨0, (2, ρ), rfl, (by have hcl := nI_clamp (n := j) (by omega); show if mp_in (nI j) 0 (nI F - 1) = 0 then _ else if ρ 14 (nI j).toNatClampNeg 7 = 5 then _ else _; rw [if_neg c_10, hcl, if_neg c_34]; exact ⟨rfl, rfl, rfl⟩), by show mm_W D d cB L m0 _ _ A t.heap; rw [ht]; exact hM⟩, hS.F ht⟩) hS.2.2 dX6_melt_42
  · refine lv_aload_n hx hb dX6_melt_13 rfl (lv_at hl 0 rfl) ?_
    refine lv_iconst (v := 1) hx hb dX6_melt_14 (by decide) ?_
    refine mm_calli (As := [.int 1]) ⟨hx, hb, hml, hown, hts⟩ (kX6_no l D d cB L m0 (0 : Int32) ρ A H.size 1) (cwV 1 hts gX6_melt_X6_no rfl rfl rfl (by decide +kernel) ⟨Nat.le_of_ble_eq_true rfl, Nat.le_of_ble_eq_true rfl⟩) hKK hM hS rfl hl.1 (Nat.le_of_ble_eq_true rfl) dX6_melt_15 ⟨Nat.le_of_ble_eq_true rfl, Nat.le_of_ble_eq_true rfl⟩ rfl (fun r_ X_ H locs hp hM hz hS => ?_)
    obtain ⟨t_, τ_⟩ := X_
    obtain ⟨e1_, e2_, e3_⟩ := hp
    have e2_ : (1 : Int32) = t_ := e2_
    have e3_ : ρ = τ_ := e3_
    subst e1_ e2_ e3_
    have hM : mm_W D d cB L m0 1 ρ A H := hM
    have hW := hM.2.1
    exact W.iret (v := 0) hx hb hr (fun t ht hW9 => ⟨⟨0, (1, ρ), rfl, (by show if mp_in x 0 (nI F - 1) = 0 then _ else _; rw [if_pos c_10]; exact ⟨rfl, rfl, rfl⟩), by show mm_W D d cB L m0 _ _ A t.heap; rw [ht]; exact hM⟩, hS.F ht⟩) hS.2.2 dX6_melt_18
