/-! WHAT ONE ASKS THE REFERENCE -/
def mp_pnow (ρ : hs_St) (F q j : Nat) : Int32 := if 8 ≤ nI j then (if nI j = 8 then mp_doubt ρ q else if nI j = 9 then ρ 11 q 8 else mp_shownOf ρ (nI q) F 0) else ρ 11 q j
set_option maxHeartbeats 4000000 in
set_option maxRecDepth 100000 in
/-- the reference: X6_personNow -/
theorem kX6_personNow (l : Launch) (D : va_G) (d : hs_Dm) (cB : ClassId) (L : hs_Lo) (m0 : Nat) (th : Int32) (ρ : hs_St) (A : Nat → Prop) (sz : Nat) (P F R : Nat) (hok : mh_ok P F R ρ) (q : Nat) (hq : q < P) (j : Nat) (hj : j ≤ 10) : mm_Mi l yX6_personNow wsX6_personNow ({ frames := 2, cells := 0, slots := 0, locals := 80 } : Room) D d cB L m0 th ρ A sz [.ref m0, .int (nI q), .int (nI j)] (fun r X => mp_pnow ρ F q j = r ∧ th = X.1 ∧ ρ = X.2) 0 0 := by
  refine Met.ofW (cc := cX6_personNow) (maxL := 4) (ret := (some .int)) (by decide) rfl ?_
  intro p e s m args below meth c0 s₁ B hml hv
  obtain ⟨rfl, hsz, hM, hKK⟩ := hv
  have hx := B.exec
  have hb := B.bytes
  have hr := B.returns
  have hts := atoms_spec (ws := wsX6_personNow) B.pre
  have hown : s.vm.findClass RX6 = some m.cls := findClass_of_methodNamed B.named
  have hlocks := B.notSynchronized
  have hS : va_S A s.heap s.heap [] := va_S.rf
  have hl := lv_entry ([.ref m0, .int (nI q), .int (nI j)]) (n := 4) (Nat.le_of_ble_eq_true rfl)
  rw [lg_entry_eq]
  generalize (lg_sl ([.ref m0, .int (nI q), .int (nI j)]) ++ List.replicate (4 - (lg_sl ([.ref m0, .int (nI q), .int (nI j)])).length) Slot.unset).toArray = ls at hl ⊢
  have hl : lv_has ls 4 [(0, .ref m0), (1, .int (nI q)), (2, .int (nI j))] := hl
  have h10 := hok.1
  refine lv_aload_n hx hb dX6_personNow_0 rfl (lv_at hl 0 rfl) ?_
  refine mm_house hx hb hts (by decide +kernel) hown hKK.1 hM (hts (.fieldLink RX6 10 "WaxrowModel" "house" "LWaxrowModel$House;") (by decide +kernel)) dX6_personNow_1 ?_
  have hW := hM.2.1
  refine mh_get hx hb hts (by decide +kernel) hown hKK.1 hW 0 (by decide) (hts (.fieldLink RX6 46 "WaxrowModel$House" "persons" "[[I") (by decide +kernel)) rfl (v := .ref (L 1 0)) rfl dX6_personNow_4 ?_
  refine lv_iload_n hx hb dX6_personNow_7 rfl (lv_at hl 1 rfl) ?_
  refine mh_aald hx hb hKK.2.1 hW 1 q (by decide) (by decide) (by have := hok.1; show q < mh_n 1; unfold mh_n; simp; omega) dX6_personNow_8 ?_
  refine lv_astore_n (lv' := [(3, .ref (L 11 q)), (0, .ref m0), (1, .int (nI q)), (2, .int (nI j))]) hx hb dX6_personNow_9 rfl hl (by decide) rfl (fun ls hl => ?_)
  refine lv_iload_n hx hb dX6_personNow_10 rfl (lv_at hl 3 rfl) ?_
  refine lv_bipush (v := 8) hx hb dX6_personNow_11 (by decide) ?_
  refine lv_icmp_ge (tgt := 22) hx hb dX6_personNow_13 (by decide) (fun c_13 => ?_) (fun c_13 => ?_)
  · refine lv_iload_n hx hb dX6_personNow_22 rfl (lv_at hl 3 rfl) ?_
    refine lv_bipush (v := 8) hx hb dX6_personNow_23 (by decide) ?_
    refine lv_icmp_ne (tgt := 39) hx hb dX6_personNow_25 (by decide) (fun c_25 => ?_) (fun c_25 => ?_)
    · refine lv_iload_n hx hb dX6_personNow_39 rfl (lv_at hl 3 rfl) ?_
      refine lv_bipush (v := 9) hx hb dX6_personNow_40 (by decide) ?_
      refine lv_icmp_ne (tgt := 52) hx hb dX6_personNow_42 (by decide) (fun c_42 => ?_) (fun c_42 => ?_)
      · refine lv_aload_n hx hb dX6_personNow_52 rfl (lv_at hl 1 rfl) ?_
        refine mm_house hx hb hts (by decide +kernel) hown hKK.1 hM (hts (.fieldLink RX6 10 "WaxrowModel" "house" "LWaxrowModel$House;") (by decide +kernel)) dX6_personNow_53 ?_
        have hW := hM.2.1
        refine lv_iload_n hx hb dX6_personNow_56 rfl (lv_at hl 2 rfl) ?_
        refine mh_callo (As := [.int (nI q)]) ⟨hx, hb, hml, hown, hts⟩ (kX5_shownOf l D d cB L ρ (mh_own L) s.heap.size P F R hok (nI q)) (cwV 1 hts gX6_personNow_X5_shownOf rfl rfl rfl (by decide +kernel) ⟨Nat.le_of_ble_eq_true rfl, Nat.le_of_ble_eq_true rfl⟩) hKK hW hS rfl hl.1 (Nat.le_of_ble_eq_true rfl) dX6_personNow_57 ⟨Nat.le_of_ble_eq_true rfl, Nat.le_of_ble_eq_true rfl⟩ rfl (fun r_ τ_ H locs hp hW hz hqq hS => ?_)
        obtain ⟨e1_, e2_⟩ := hp
        subst e1_ e2_
        have hM : mm_W D d cB L m0 (th : Int32) ρ A H := ⟨hM.1.kept (hqq _ hM.1.lt (fun ⟨k9, i9, hx9, e9⟩ => hM.2.2.2 k9 i9 hx9 e9.symm)), hW, hM.2.2⟩
        exact W.iret (v := mp_shownOf ρ (nI q) F 0) hx hb hr (fun t ht hW9 => ⟨⟨mp_shownOf ρ (nI q) F 0, (th, ρ), rfl, (by refine ⟨?_, rfl, rfl⟩; unfold mp_pnow; rw [if_pos c_13, if_neg c_25, if_neg c_42]), by show mm_W D d cB L m0 _ _ A t.heap; rw [ht]; exact hM⟩, hS.F ht⟩) hS.2.2 dX6_personNow_60
      · refine lv_aload_n hx hb dX6_personNow_45 rfl (lv_at hl 0 rfl) ?_
        refine lv_bipush (v := 8) hx hb dX6_personNow_46 (by decide) ?_
        refine mh_iald hx hb hKK.1 hW 11 q (by decide) (mh_ixR (k := 1) (by decide) (by decide) (by have := hok.1; show q < mh_n 1; unfold mh_n; simp; omega)) (i := 8) (by unfold vp_in; decide) dX6_personNow_48 ?_
        rw [show (8 : Int32).toNatClampNeg = 8 from by decide]
        refine lv_goto (tgt := 60) hx hb dX6_personNow_49 (by decide) ?_
        exact W.iret (v := ρ 11 q 8) hx hb hr (fun t ht hW9 => ⟨⟨ρ 11 q 8, (th, ρ), rfl, (by refine ⟨?_, rfl, rfl⟩; unfold mp_pnow; rw [if_pos c_13, if_neg c_25, if_pos c_42]), by show mm_W D d cB L m0 _ _ A t.heap; rw [ht]; exact hM⟩, hS.F ht⟩) hS.2.2 dX6_personNow_60
    · refine lv_aload_n hx hb dX6_personNow_28 rfl (lv_at hl 1 rfl) ?_
      refine mm_house hx hb hts (by decide +kernel) hown hKK.1 hM (hts (.fieldLink RX6 10 "WaxrowModel" "house" "LWaxrowModel$House;") (by decide +kernel)) dX6_personNow_29 ?_
      have hW := hM.2.1
      refine lv_iload_n hx hb dX6_personNow_32 rfl (lv_at hl 2 rfl) ?_
      refine mh_callo (As := [.int (nI q)]) ⟨hx, hb, hml, hown, hts⟩ (kX5_doubt l D d cB L ρ (mh_own L) s.heap.size q (by omega)) (cwV 1 hts gX6_personNow_X5_doubt rfl rfl rfl (by decide +kernel) ⟨Nat.le_of_ble_eq_true rfl, Nat.le_of_ble_eq_true rfl⟩) hKK hW hS rfl hl.1 (Nat.le_of_ble_eq_true rfl) dX6_personNow_33 ⟨Nat.le_of_ble_eq_true rfl, Nat.le_of_ble_eq_true rfl⟩ rfl (fun r_ τ_ H locs hp hW hz hqq hS => ?_)
      obtain ⟨e1_, e2_⟩ := hp
      subst e1_ e2_
      have hM : mm_W D d cB L m0 (th : Int32) ρ A H := ⟨hM.1.kept (hqq _ hM.1.lt (fun ⟨k9, i9, hx9, e9⟩ => hM.2.2.2 k9 i9 hx9 e9.symm)), hW, hM.2.2⟩
      refine lv_goto (tgt := 60) hx hb dX6_personNow_36 (by decide) ?_
      exact W.iret (v := mp_doubt ρ q) hx hb hr (fun t ht hW9 => ⟨⟨mp_doubt ρ q, (th, ρ), rfl, (by refine ⟨?_, rfl, rfl⟩; unfold mp_pnow; rw [if_pos c_13, if_pos c_25]), by show mm_W D d cB L m0 _ _ A t.heap; rw [ht]; exact hM⟩, hS.F ht⟩) hS.2.2 dX6_personNow_60
  · have hj8 : j < 8 := Nat.lt_of_not_le (fun h9 => c_13 (nI_le (a := 8) h9 (by omega)))
    refine lv_aload_n hx hb dX6_personNow_16 rfl (lv_at hl 0 rfl) ?_
    refine lv_iload_n hx hb dX6_personNow_17 rfl (lv_at hl 3 rfl) ?_
    refine mh_iald hx hb hKK.1 hW 11 q (by decide) (mh_ixR (k := 1) (by decide) (by decide) (by have := hok.1; show q < mh_n 1; unfold mh_n; simp; omega)) (i := nI j) (by unfold vp_in; exact nI_in (show j < 9 by omega) (by decide)) dX6_personNow_18 ?_
    rw [show (nI j : Int32).toNatClampNeg = j from nI_clamp (by omega)]
    refine lv_goto (tgt := 60) hx hb dX6_personNow_19 (by decide) ?_
    exact W.iret (v := ρ 11 q j) hx hb hr (fun t ht hW9 => ⟨⟨ρ 11 q j, (th, ρ), rfl, (by refine ⟨?_, rfl, rfl⟩; unfold mp_pnow; rw [if_neg c_13]), by show mm_W D d cB L m0 _ _ A t.heap; rw [ht]; exact hM⟩, hS.F ht⟩) hS.2.2 dX6_personNow_60
def mp_ofPersonP (P F : Nat) (ρ : hs_St) (x y : Int32) (r : Int32) (X : mm_X) : Prop := if mp_in x 0 (nI P - 1) = 0 then ((0 : Int32) = r ∧ (1 : Int32) = X.1 ∧ ρ = X.2) else if mp_in y 0 10 = 0 then ((0 : Int32) = r ∧ (2 : Int32) = X.1 ∧ ρ = X.2) else (mp_pnow ρ F x.toNatClampNeg y.toNatClampNeg = r ∧ (0 : Int32) = X.1 ∧ ρ = X.2)
set_option maxHeartbeats 4000000 in
set_option maxRecDepth 100000 in
/-- the reference: X6_ofPerson -/
theorem kX6_ofPerson (l : Launch) (D : va_G) (d : hs_Dm) (cB : ClassId) (L : hs_Lo) (m0 : Nat) (th : Int32) (ρ : hs_St) (A : Nat → Prop) (sz : Nat) (P F R : Nat) (hok : mh_ok P F R ρ) (x y : Int32) : mm_Mi l yX6_ofPerson wsX6_ofPerson ({ frames := 3, cells := 0, slots := 0, locals := 120 } : Room) D d cB L m0 th ρ A sz [.ref m0, .int x, .int y] (fun r X => mp_ofPersonP P F ρ x y r X) 0 0 := by
  refine Met.ofW (cc := cX6_ofPerson) (maxL := 3) (ret := (some .int)) (by decide) rfl ?_
  intro p e s m args below meth c0 s₁ B hml hv
  obtain ⟨rfl, hsz, hM, hKK⟩ := hv
  have hx := B.exec
  have hb := B.bytes
  have hr := B.returns
  have hts := atoms_spec (ws := wsX6_ofPerson) B.pre
  have hown : s.vm.findClass RX6 = some m.cls := findClass_of_methodNamed B.named
  have hlocks := B.notSynchronized
  have hS : va_S A s.heap s.heap [] := va_S.rf
  have hl := lv_entry ([.ref m0, .int x, .int y]) (n := 3) (Nat.le_of_ble_eq_true rfl)
  rw [lg_entry_eq]
  generalize (lg_sl ([.ref m0, .int x, .int y]) ++ List.replicate (3 - (lg_sl ([.ref m0, .int x, .int y])).length) Slot.unset).toArray = ls at hl ⊢
  have hl : lv_has ls 3 [(0, .ref m0), (1, .int x), (2, .int y)] := hl
  refine lv_aload_n hx hb dX6_ofPerson_0 rfl (lv_at hl 0 rfl) ?_
  refine lv_iconst (v := 0) hx hb dX6_ofPerson_1 (by decide) ?_
  refine mm_putt hx hb hts (by decide +kernel) hown hKK.1 hM hS (hts (.fieldLink RX6 16 "WaxrowModel" "thrown" "I") (by decide +kernel)) (0 : Int32) dX6_ofPerson_2 (fun H locs hM hS hz => ?_)
  have hM : mm_W D d cB L m0 0 ρ A H := hM
  have hW := hM.2.1
  refine lv_aload_n hx hb dX6_ofPerson_5 rfl (lv_at hl 0 rfl) ?_
  refine lv_iload_n hx hb dX6_ofPerson_6 rfl (lv_at hl 1 rfl) ?_
  refine mm_calli (As := [.int x]) ⟨hx, hb, hml, hown, hts⟩ (kX6_isPerson l D d cB L m0 (0 : Int32) ρ A H.size P F R hok x) (cwV 1 hts gX6_ofPerson_X6_isPerson rfl rfl rfl (by decide +kernel) ⟨Nat.le_of_ble_eq_true rfl, Nat.le_of_ble_eq_true rfl⟩) hKK hM hS rfl hl.1 (Nat.le_of_ble_eq_true rfl) dX6_ofPerson_7 ⟨Nat.le_of_ble_eq_true rfl, Nat.le_of_ble_eq_true rfl⟩ rfl (fun r_ X_ H locs hp hM hz hS => ?_)
  obtain ⟨t_, τ_⟩ := X_
  obtain ⟨e1_, e2_, e3_⟩ := hp
  have e2_ : (0 : Int32) = t_ := e2_
  have e3_ : ρ = τ_ := e3_
  subst e1_ e2_ e3_
  have hM : mm_W D d cB L m0 0 ρ A H := hM
  have hW := hM.2.1
  refine lv_if_ne (tgt := 19) hx hb dX6_ofPerson_10 (by decide) (fun c_10 => ?_) (fun c_10 => ?_)
  · refine lv_iload_n hx hb dX6_ofPerson_19 rfl (lv_at hl 2 rfl) ?_
    refine lv_iconst (v := 0) hx hb dX6_ofPerson_20 (by decide) ?_
    refine lv_bipush (v := 10) hx hb dX6_ofPerson_21 (by decide) ?_
    refine mm_pure (As := [.int y, .int 0, .int 10]) ⟨hx, hb, hml, hown, hts⟩ (kX6_in l (y) (0) (10)) (va_cwS 3 hts gX6_ofPerson_X6_in rfl rfl rfl (by decide +kernel) ⟨Nat.le_of_ble_eq_true rfl, Nat.le_of_ble_eq_true rfl⟩) hM hS rfl hl.1 (Nat.le_of_ble_eq_true rfl) dX6_ofPerson_23 ⟨Nat.le_of_ble_eq_true rfl, Nat.le_of_ble_eq_true rfl⟩ rfl (fun r_ H locs hp hM hz hS => ?_)
    subst hp
    have hM : mm_W D d cB L m0 0 ρ A H := hM
    have hW := hM.2.1
    refine lv_if_ne (tgt := 35) hx hb dX6_ofPerson_26 (by decide) (fun c_26 => ?_) (fun c_26 => ?_)
    · have hb9 : P ≤ 10 := hok.1
      obtain ⟨j, hj9, ej9⟩ := mp_in_ix (by omega) c_10
      subst ej9
      have hj : j < P := hj9
      have hclj := nI_clamp (n := j) (by omega)
      obtain ⟨b, hb9_, eb⟩ := mp_in_le (n := 10) (by decide) c_26
      subst eb
      have hclb := nI_clamp (n := b) (by omega)
      refine lv_aload_n hx hb dX6_ofPerson_35 rfl (lv_at hl 0 rfl) ?_
      refine lv_iload_n hx hb dX6_ofPerson_36 rfl (lv_at hl 1 rfl) ?_
      refine lv_iload_n hx hb dX6_ofPerson_37 rfl (lv_at hl 2 rfl) ?_
      refine mm_calli (As := [.int (nI j), .int (nI b)]) ⟨hx, hb, hml, hown, hts⟩ (kX6_personNow l D d cB L m0 (0 : Int32) ρ A H.size P F R hok j hj b hb9_) (cwV 2 hts gX6_ofPerson_X6_personNow rfl rfl rfl (by decide +kernel) ⟨Nat.le_of_ble_eq_true rfl, Nat.le_of_ble_eq_true rfl⟩) hKK hM hS rfl hl.1 (Nat.le_of_ble_eq_true rfl) dX6_ofPerson_38 ⟨Nat.le_of_ble_eq_true rfl, Nat.le_of_ble_eq_true rfl⟩ rfl (fun r_ X_ H locs hp hM hz hS => ?_)
      obtain ⟨t_, τ_⟩ := X_
      obtain ⟨e1_, e2_, e3_⟩ := hp
      have e2_ : (0 : Int32) = t_ := e2_
      have e3_ : ρ = τ_ := e3_
      subst e1_ e2_ e3_
      have hM : mm_W D d cB L m0 0 ρ A H := hM
      have hW := hM.2.1
      exact W.iret (v := mp_pnow ρ F j b) hx hb hr (fun t ht hW9 => ⟨⟨mp_pnow ρ F j b, (0, ρ), rfl, (by show mp_ofPersonP P F ρ (nI j) (nI b) _ _; unfold mp_ofPersonP; rw [if_neg c_10, if_neg c_26, hclj, hclb]; exact ⟨rfl, rfl, rfl⟩), by show mm_W D d cB L m0 _ _ A t.heap; rw [ht]; exact hM⟩, hS.F ht⟩) hS.2.2 dX6_ofPerson_41
    · refine lv_aload_n hx hb dX6_ofPerson_29 rfl (lv_at hl 0 rfl) ?_
      refine lv_iconst (v := 2) hx hb dX6_ofPerson_30 (by decide) ?_
      refine mm_calli (As := [.int 2]) ⟨hx, hb, hml, hown, hts⟩ (kX6_no l D d cB L m0 (0 : Int32) ρ A H.size 2) (cwV 1 hts gX6_ofPerson_X6_no rfl rfl rfl (by decide +kernel) ⟨Nat.le_of_ble_eq_true rfl, Nat.le_of_ble_eq_true rfl⟩) hKK hM hS rfl hl.1 (Nat.le_of_ble_eq_true rfl) dX6_ofPerson_31 ⟨Nat.le_of_ble_eq_true rfl, Nat.le_of_ble_eq_true rfl⟩ rfl (fun r_ X_ H locs hp hM hz hS => ?_)
      obtain ⟨t_, τ_⟩ := X_
      obtain ⟨e1_, e2_, e3_⟩ := hp
      have e2_ : (2 : Int32) = t_ := e2_
      have e3_ : ρ = τ_ := e3_
      subst e1_ e2_ e3_
      have hM : mm_W D d cB L m0 2 ρ A H := hM
      have hW := hM.2.1
      exact W.iret (v := 0) hx hb hr (fun t ht hW9 => ⟨⟨0, (2, ρ), rfl, (by show mp_ofPersonP P F ρ x y _ _; unfold mp_ofPersonP; rw [if_neg c_10, if_pos c_26]; exact ⟨rfl, rfl, rfl⟩), by show mm_W D d cB L m0 _ _ A t.heap; rw [ht]; exact hM⟩, hS.F ht⟩) hS.2.2 dX6_ofPerson_34
  · refine lv_aload_n hx hb dX6_ofPerson_13 rfl (lv_at hl 0 rfl) ?_
    refine lv_iconst (v := 1) hx hb dX6_ofPerson_14 (by decide) ?_
    refine mm_calli (As := [.int 1]) ⟨hx, hb, hml, hown, hts⟩ (kX6_no l D d cB L m0 (0 : Int32) ρ A H.size 1) (cwV 1 hts gX6_ofPerson_X6_no rfl rfl rfl (by decide +kernel) ⟨Nat.le_of_ble_eq_true rfl, Nat.le_of_ble_eq_true rfl⟩) hKK hM hS rfl hl.1 (Nat.le_of_ble_eq_true rfl) dX6_ofPerson_15 ⟨Nat.le_of_ble_eq_true rfl, Nat.le_of_ble_eq_true rfl⟩ rfl (fun r_ X_ H locs hp hM hz hS => ?_)
    obtain ⟨t_, τ_⟩ := X_
    obtain ⟨e1_, e2_, e3_⟩ := hp
    have e2_ : (1 : Int32) = t_ := e2_
    have e3_ : ρ = τ_ := e3_
    subst e1_ e2_ e3_
    have hM : mm_W D d cB L m0 1 ρ A H := hM
    have hW := hM.2.1
    exact W.iret (v := 0) hx hb hr (fun t ht hW9 => ⟨⟨0, (1, ρ), rfl, (by show mp_ofPersonP P F ρ x y _ _; unfold mp_ofPersonP; rw [if_pos c_10]; exact ⟨rfl, rfl, rfl⟩), by show mm_W D d cB L m0 _ _ A t.heap; rw [ht]; exact hM⟩, hS.F ht⟩) hS.2.2 dX6_ofPerson_18
def mp_cnt (ρ : hs_St) (x y : Int32) : Nat → Int32
  | 0 => 0
  | n + 1 => mp_cnt ρ x y n + (if mp_in (ρ 14 n 7) x y = 0 then 0 else 1)
set_option maxHeartbeats 4000000 in
set_option maxRecDepth 100000 in
/-- the reference: X6_countAt: the loop at 5 -/
theorem lkX6_countAt (l : Launch) (D : va_G) (d : hs_Dm) (cB : ClassId) (L : hs_Lo) (m0 : Nat) (th : Int32) (ρ : hs_St) (A : Nat → Prop) (sz : Nat) (P F R : Nat) (hok : mh_ok P F R ρ) (x y : Int32) {p : Program} {e : Env} {s : State} {m : MethodId} {args : Array Value} {below : List Frame} {meth : Method} {c0 : Code} (hx : p.tables.exec = Jvm.exec) (hb : c0.code = cX6_countAt) (hr : meth.sig.returnType = (some .int)) (hts : ∀ w ∈ wsX6_countAt, w.before args s = true) (hown : s.vm.findClass RX6 = some m.cls) (hlocks : meth.locks = false) (hml : c0.maxLocals = 5) (hKK : mh_K D d cB s) : ∀ (kk n : Nat), n + kk = F → ∀ (H : Heap) (locs : List Loc), mm_W D d cB L m0 th ρ A H → va_S A s.heap H locs → ∀ ls : Array Slot, lv_has ls 5 [(4, .int (nI n)), (3, .int (mp_cnt ρ x y n)), (0, .ref m0), (1, .int x), (2, .int y)] → W p l e (({ frames := 1, cells := 0, slots := 0, locals := 40 } : Room)) s m args below meth c0 H locs 0 0 (MQ below (va_Qi (fun r X => mp_cnt ρ x y F = r ∧ th = X.1 ∧ ρ = X.2) (fun (X : mm_X) t => mm_W D d cB L m0 X.1 X.2 A t.heap) A) args s 0 0 A) (F0 m 5 ls []) := by
  intro kk
  induction kk with
  | zero =>
    intro n hn H locs hM hS ls hl
    have hnN : n = F := by omega
    have hW := hM.2.1
    have hF8 := hok.2.1
    refine lv_iload hx hb dX6_countAt_5 (lv_at hl 0 rfl) ?_
    refine lv_aload_n hx hb dX6_countAt_7 rfl (lv_at hl 2 rfl) ?_
    refine mm_house hx hb hts (by decide +kernel) hown hKK.1 hM (hts (.fieldLink RX6 10 "WaxrowModel" "house" "LWaxrowModel$House;") (by decide +kernel)) dX6_countAt_8 ?_
    have hW := hM.2.1
    refine mh_get hx hb hts (by decide +kernel) hown hKK.1 hW 7 (by decide) (hts (.fieldLink RX6 36 "WaxrowModel$House" "figureCount" "I") (by decide +kernel)) rfl (v := .int (ρ 0 0 7)) rfl dX6_countAt_11 ?_
    rw [show ρ 0 0 7 = nI F from hok.2.2.2.2.1]
    refine lv_icmp_ge (tgt := 52) hx hb dX6_countAt_14 (by decide) (fun c_14 => ?_) (fun c_14 => ?_)
    · refine lv_iload_n hx hb dX6_countAt_52 rfl (lv_at hl 1 rfl) ?_
      exact W.iret (v := mp_cnt ρ x y n) hx hb hr (fun t ht hW9 => ⟨⟨mp_cnt ρ x y n, (th, ρ), rfl, (by subst hnN; exact ⟨rfl, rfl, rfl⟩), by show mm_W D d cB L m0 _ _ A t.heap; rw [ht]; exact hM⟩, hS.F ht⟩) hS.2.2 dX6_countAt_53
    · exact absurd (by rw [hnN]; exact nI_le (a := F) (b := F) (Nat.le_refl _) (by omega)) c_14
  | succ kk ih =>
    intro n hn H locs hM hS ls hl
    have hnN : n < F := by omega
    have hW := hM.2.1
    have hF8 := hok.2.1
    refine lv_iload hx hb dX6_countAt_5 (lv_at hl 0 rfl) ?_
    refine lv_aload_n hx hb dX6_countAt_7 rfl (lv_at hl 2 rfl) ?_
    refine mm_house hx hb hts (by decide +kernel) hown hKK.1 hM (hts (.fieldLink RX6 10 "WaxrowModel" "house" "LWaxrowModel$House;") (by decide +kernel)) dX6_countAt_8 ?_
    have hW := hM.2.1
    refine mh_get hx hb hts (by decide +kernel) hown hKK.1 hW 7 (by decide) (hts (.fieldLink RX6 36 "WaxrowModel$House" "figureCount" "I") (by decide +kernel)) rfl (v := .int (ρ 0 0 7)) rfl dX6_countAt_11 ?_
    rw [show ρ 0 0 7 = nI F from hok.2.2.2.2.1]
    refine lv_icmp_ge (tgt := 52) hx hb dX6_countAt_14 (by decide) (fun c_14 => ?_) (fun c_14 => ?_)
    · exact absurd c_14 (nI_ge (b := F) hnN (by omega))
    · refine lv_iload_n hx hb dX6_countAt_17 rfl (lv_at hl 1 rfl) ?_
      refine lv_aload_n hx hb dX6_countAt_18 rfl (lv_at hl 2 rfl) ?_
      refine mm_house hx hb hts (by decide +kernel) hown hKK.1 hM (hts (.fieldLink RX6 10 "WaxrowModel" "house" "LWaxrowModel$House;") (by decide +kernel)) dX6_countAt_19 ?_
      have hW := hM.2.1
      refine mh_get hx hb hts (by decide +kernel) hown hKK.1 hW 3 (by decide) (hts (.fieldLink RX6 60 "WaxrowModel$House" "figures" "[[I") (by decide +kernel)) rfl (v := .ref (L 4 0)) rfl dX6_countAt_22 ?_
      refine lv_iload hx hb dX6_countAt_25 (lv_at hl 0 rfl) ?_
      refine mh_aald hx hb hKK.2.1 hW 4 n (by decide) (by decide) (by show n < mh_n 4; unfold mh_n; simp; omega) dX6_countAt_27 ?_
      refine lv_bipush (v := 7) hx hb dX6_countAt_28 (by decide) ?_
      refine mh_iald hx hb hKK.1 hW 14 n (by decide) (mh_ixR (k := 4) (by decide) (by decide) (by show n < mh_n 4; unfold mh_n; simp; omega)) (i := 7) (by unfold vp_in; decide) dX6_countAt_30 ?_
      rw [show (7 : Int32).toNatClampNeg = 7 from by decide]
      refine lv_iload_n hx hb dX6_countAt_31 rfl (lv_at hl 3 rfl) ?_
      refine lv_iload_n hx hb dX6_countAt_32 rfl (lv_at hl 4 rfl) ?_
      refine mm_pure (As := [.int (ρ 14 n 7), .int x, .int y]) ⟨hx, hb, hml, hown, hts⟩ (kX6_in l (ρ 14 n 7) (x) (y)) (va_cwS 3 hts gX6_countAt_X6_in rfl rfl rfl (by decide +kernel) ⟨Nat.le_of_ble_eq_true rfl, Nat.le_of_ble_eq_true rfl⟩) hM hS rfl hl.1 (Nat.le_of_ble_eq_true rfl) dX6_countAt_33 ⟨Nat.le_of_ble_eq_true rfl, Nat.le_of_ble_eq_true rfl⟩ rfl (fun r_ H locs hp hM hz hS => ?_)
      subst hp
      have hM : mm_W D d cB L m0 th ρ A H := hM
      have hW := hM.2.1
      refine lv_if_eq (tgt := 43) hx hb dX6_countAt_36 (by decide) (fun c_36 => ?_) (fun c_36 => ?_)
      · refine lv_iconst (v := 0) hx hb dX6_countAt_43 (by decide) ?_
        refine lv_iadd hx hb dX6_countAt_44 ?_
        rw [show (mp_cnt ρ x y n) + 0 = mp_cnt ρ x y (n + 1) from (by show _ = mp_cnt ρ x y n + _; rw [if_pos c_36])]
        refine lv_istore_n (lv' := [(3, .int (mp_cnt ρ x y (n + 1))), (4, .int (nI n)), (0, .ref m0), (1, .int x), (2, .int y)]) hx hb dX6_countAt_45 rfl hl (by decide) rfl (fun ls hl => ?_)
        refine lv_iinc (v := nI (n + 1)) (lv' := [(4, .int (nI (n + 1))), (3, .int (mp_cnt ρ x y (n + 1))), (0, .ref m0), (1, .int x), (2, .int y)]) hx hb dX6_countAt_46 hl (k := 1) rfl (nI_succ _).symm (by decide) rfl (fun ls hl => ?_)
        refine lv_goto (tgt := 5) hx hb dX6_countAt_49 (by decide) ?_
        have hM : mm_W D d cB L m0 th ρ A H := hM
        exact ih (n + 1) (by omega) _ _ hM hS ls (lv_sub hl [0, 1, 2, 3, 4] rfl)
      · refine lv_iconst (v := 1) hx hb dX6_countAt_39 (by decide) ?_
        refine lv_goto (tgt := 44) hx hb dX6_countAt_40 (by decide) ?_
        refine lv_iadd hx hb dX6_countAt_44 ?_
        rw [show (mp_cnt ρ x y n) + 1 = mp_cnt ρ x y (n + 1) from (by show _ = mp_cnt ρ x y n + _; rw [if_neg c_36])]
        refine lv_istore_n (lv' := [(3, .int (mp_cnt ρ x y (n + 1))), (4, .int (nI n)), (0, .ref m0), (1, .int x), (2, .int y)]) hx hb dX6_countAt_45 rfl hl (by decide) rfl (fun ls hl => ?_)
        refine lv_iinc (v := nI (n + 1)) (lv' := [(4, .int (nI (n + 1))), (3, .int (mp_cnt ρ x y (n + 1))), (0, .ref m0), (1, .int x), (2, .int y)]) hx hb dX6_countAt_46 hl (k := 1) rfl (nI_succ _).symm (by decide) rfl (fun ls hl => ?_)
        refine lv_goto (tgt := 5) hx hb dX6_countAt_49 (by decide) ?_
        have hM : mm_W D d cB L m0 th ρ A H := hM
        exact ih (n + 1) (by omega) _ _ hM hS ls (lv_sub hl [0, 1, 2, 3, 4] rfl)
set_option maxHeartbeats 4000000 in
set_option maxRecDepth 100000 in
/-- the reference: X6_countAt -/
theorem kX6_countAt (l : Launch) (D : va_G) (d : hs_Dm) (cB : ClassId) (L : hs_Lo) (m0 : Nat) (th : Int32) (ρ : hs_St) (A : Nat → Prop) (sz : Nat) (P F R : Nat) (hok : mh_ok P F R ρ) (x y : Int32) : mm_Mi l yX6_countAt wsX6_countAt ({ frames := 1, cells := 0, slots := 0, locals := 40 } : Room) D d cB L m0 th ρ A sz [.ref m0, .int x, .int y] (fun r X => mp_cnt ρ x y F = r ∧ th = X.1 ∧ ρ = X.2) 0 0 := by
  refine Met.ofW (cc := cX6_countAt) (maxL := 5) (ret := (some .int)) (by decide) rfl ?_
  intro p e s m args below meth c0 s₁ B hml hv
  obtain ⟨rfl, hsz, hM, hKK⟩ := hv
  have hx := B.exec
  have hb := B.bytes
  have hr := B.returns
  have hts := atoms_spec (ws := wsX6_countAt) B.pre
  have hown : s.vm.findClass RX6 = some m.cls := findClass_of_methodNamed B.named
  have hlocks := B.notSynchronized
  have hS : va_S A s.heap s.heap [] := va_S.rf
  have hl := lv_entry ([.ref m0, .int x, .int y]) (n := 5) (Nat.le_of_ble_eq_true rfl)
  rw [lg_entry_eq]
  generalize (lg_sl ([.ref m0, .int x, .int y]) ++ List.replicate (5 - (lg_sl ([.ref m0, .int x, .int y])).length) Slot.unset).toArray = ls at hl ⊢
  have hl : lv_has ls 5 [(0, .ref m0), (1, .int x), (2, .int y)] := hl
  refine lv_iconst (v := 0) hx hb dX6_countAt_0 (by decide) ?_
  refine lv_istore_n (lv' := [(3, .int 0), (0, .ref m0), (1, .int x), (2, .int y)]) hx hb dX6_countAt_1 rfl hl (by decide) rfl (fun ls hl => ?_)
  refine lv_iconst (v := 0) hx hb dX6_countAt_2 (by decide) ?_
  refine lv_istore (lv' := [(4, .int 0), (3, .int 0), (0, .ref m0), (1, .int x), (2, .int y)]) hx hb dX6_countAt_3 hl (by decide) rfl (fun ls hl => ?_)
  exact lkX6_countAt l D d cB L m0 th ρ A sz P F R hok x y hx hb hr hts hown hlocks hml hKK F 0 (by omega) _ _ hM hS ls (lv_sub hl [0, 1, 2, 3, 4] rfl)
def mp_fnow (ρ : hs_St) (f : Nat) : Nat → Int32 := fun j => match j with
  | 0 => ρ 14 f 0
  | 1 => ρ 14 f 1
  | 2 => ρ 14 f 2
  | 3 => ρ 14 f 3
  | 4 => ρ 14 f 4
  | 5 => ρ 14 f 5
  | 6 => ρ 14 f 6
  | 7 => mp_like ρ f
  | 8 => ρ 14 f 7
  | 9 => ρ 14 f 8
  | 10 => mp_draw ρ f
  | 11 => ρ 14 f 10
  | _ => 0
set_option maxHeartbeats 4000000 in
set_option maxRecDepth 100000 in
/-- the reference: X6_figureNow -/
theorem kX6_figureNow (l : Launch) (D : va_G) (d : hs_Dm) (cB : ClassId) (L : hs_Lo) (m0 : Nat) (th : Int32) (ρ : hs_St) (A : Nat → Prop) (sz : Nat) (f : Nat) (hf : f < 8) (hh : ∃ h, h < 10 ∧ ρ 14 f 0 = nI h) (hbd : ∃ h, h < 10 ∧ ρ 14 f 1 = nI h) (j : Nat) (hj : j < 12) (hA : mh_A A sz) : mm_Mi l yX6_figureNow wsX6_figureNow ({ frames := 4, cells := 1, slots := 12, locals := 120 } : Room) D d cB L m0 th ρ A sz [.ref m0, .ref (L 14 f), .int (nI j)] (fun r X => mp_fnow ρ f j = r ∧ th = X.1 ∧ ρ = X.2) 1 12 := by
  refine Met.ofW (cc := cX6_figureNow) (maxL := 4) (ret := (some .int)) (by decide) rfl ?_
  intro p e s m args below meth c0 s₁ B hml hv
  obtain ⟨rfl, hsz, hM, hKK⟩ := hv
  have hx := B.exec
  have hb := B.bytes
  have hr := B.returns
  have hts := atoms_spec (ws := wsX6_figureNow) B.pre
  have hown : s.vm.findClass RX6 = some m.cls := findClass_of_methodNamed B.named
  have hlocks := B.notSynchronized
  have hS : va_S A s.heap s.heap [] := va_S.rf
  have hl := lv_entry ([.ref m0, .ref (L 14 f), .int (nI j)]) (n := 4) (Nat.le_of_ble_eq_true rfl)
  rw [lg_entry_eq]
  generalize (lg_sl ([.ref m0, .ref (L 14 f), .int (nI j)]) ++ List.replicate (4 - (lg_sl ([.ref m0, .ref (L 14 f), .int (nI j)])).length) Slot.unset).toArray = ls at hl ⊢
  have hl : lv_has ls 4 [(0, .ref m0), (1, .ref (L 14 f)), (2, .int (nI j))] := hl
  have hAz : ∀ q, s.heap.size ≤ q → A q := fun q h9 => hA q (by rw [hsz] at h9; exact h9)
  refine lv_bipush (v := 12) hx hb dX6_figureNow_0 (by decide) ?_
  refine mm_newa hx hb (hts (.arrayClass .int) (by decide +kernel)) hKK.1 hAz hM hS (by decide) (N' := 12) rfl (by decide) (Nat.le_of_ble_eq_true rfl) (Nat.le_of_ble_eq_true rfl) dX6_figureNow_2 (fun H v hM nv hAv hv hz hoq hv9 hS => ?_)
  have hW := hM.2.1
  refine lv_dup hx hb dX6_figureNow_4 rfl ?_
  refine lv_iconst (v := 0) hx hb dX6_figureNow_5 (by decide) ?_
  refine lv_aload_n hx hb dX6_figureNow_6 rfl (lv_at hl 1 rfl) ?_
  refine lv_iconst (v := 0) hx hb dX6_figureNow_7 (by decide) ?_
  refine mh_iald hx hb hKK.1 hW 14 f (by decide) (mh_ixR (k := 4) (by decide) (by decide) (by show f < mh_n 4; unfold mh_n; simp; omega)) (i := 0) (by unfold vp_in; decide) dX6_figureNow_8 ?_
  rw [show (0 : Int32).toNatClampNeg = 0 from by decide]
  refine mm_niast hx hb hKK.1 hM hS hv nv hAv (i := 0) (x := ρ 14 f 0) (by unfold vp_in; decide) dX6_figureNow_9 (fun H locs hM hv hz hq hS => ?_)
  have hW := hM.2.1
  rw [show (0 : Int32).toNatClampNeg = 0 from by decide] at hv
  refine lv_dup hx hb dX6_figureNow_10 rfl ?_
  refine lv_iconst (v := 1) hx hb dX6_figureNow_11 (by decide) ?_
  refine lv_aload_n hx hb dX6_figureNow_12 rfl (lv_at hl 1 rfl) ?_
  refine lv_iconst (v := 1) hx hb dX6_figureNow_13 (by decide) ?_
  refine mh_iald hx hb hKK.1 hW 14 f (by decide) (mh_ixR (k := 4) (by decide) (by decide) (by show f < mh_n 4; unfold mh_n; simp; omega)) (i := 1) (by unfold vp_in; decide) dX6_figureNow_14 ?_
  rw [show (1 : Int32).toNatClampNeg = 1 from by decide]
  refine mm_niast hx hb hKK.1 hM hS hv nv hAv (i := 1) (x := ρ 14 f 1) (by unfold vp_in; decide) dX6_figureNow_15 (fun H locs hM hv hz hq hS => ?_)
  have hW := hM.2.1
  rw [show (1 : Int32).toNatClampNeg = 1 from by decide] at hv
  refine lv_dup hx hb dX6_figureNow_16 rfl ?_
  refine lv_iconst (v := 2) hx hb dX6_figureNow_17 (by decide) ?_
  refine lv_aload_n hx hb dX6_figureNow_18 rfl (lv_at hl 1 rfl) ?_
  refine lv_iconst (v := 2) hx hb dX6_figureNow_19 (by decide) ?_
  refine mh_iald hx hb hKK.1 hW 14 f (by decide) (mh_ixR (k := 4) (by decide) (by decide) (by show f < mh_n 4; unfold mh_n; simp; omega)) (i := 2) (by unfold vp_in; decide) dX6_figureNow_20 ?_
  rw [show (2 : Int32).toNatClampNeg = 2 from by decide]
  refine mm_niast hx hb hKK.1 hM hS hv nv hAv (i := 2) (x := ρ 14 f 2) (by unfold vp_in; decide) dX6_figureNow_21 (fun H locs hM hv hz hq hS => ?_)
  have hW := hM.2.1
  rw [show (2 : Int32).toNatClampNeg = 2 from by decide] at hv
  refine lv_dup hx hb dX6_figureNow_22 rfl ?_
  refine lv_iconst (v := 3) hx hb dX6_figureNow_23 (by decide) ?_
  refine lv_aload_n hx hb dX6_figureNow_24 rfl (lv_at hl 1 rfl) ?_
  refine lv_iconst (v := 3) hx hb dX6_figureNow_25 (by decide) ?_
  refine mh_iald hx hb hKK.1 hW 14 f (by decide) (mh_ixR (k := 4) (by decide) (by decide) (by show f < mh_n 4; unfold mh_n; simp; omega)) (i := 3) (by unfold vp_in; decide) dX6_figureNow_26 ?_
  rw [show (3 : Int32).toNatClampNeg = 3 from by decide]
  refine mm_niast hx hb hKK.1 hM hS hv nv hAv (i := 3) (x := ρ 14 f 3) (by unfold vp_in; decide) dX6_figureNow_27 (fun H locs hM hv hz hq hS => ?_)
  have hW := hM.2.1
  rw [show (3 : Int32).toNatClampNeg = 3 from by decide] at hv
  refine lv_dup hx hb dX6_figureNow_28 rfl ?_
  refine lv_iconst (v := 4) hx hb dX6_figureNow_29 (by decide) ?_
  refine lv_aload_n hx hb dX6_figureNow_30 rfl (lv_at hl 1 rfl) ?_
  refine lv_iconst (v := 4) hx hb dX6_figureNow_31 (by decide) ?_
  refine mh_iald hx hb hKK.1 hW 14 f (by decide) (mh_ixR (k := 4) (by decide) (by decide) (by show f < mh_n 4; unfold mh_n; simp; omega)) (i := 4) (by unfold vp_in; decide) dX6_figureNow_32 ?_
  rw [show (4 : Int32).toNatClampNeg = 4 from by decide]
  refine mm_niast hx hb hKK.1 hM hS hv nv hAv (i := 4) (x := ρ 14 f 4) (by unfold vp_in; decide) dX6_figureNow_33 (fun H locs hM hv hz hq hS => ?_)
  have hW := hM.2.1
  rw [show (4 : Int32).toNatClampNeg = 4 from by decide] at hv
  refine lv_dup hx hb dX6_figureNow_34 rfl ?_
  refine lv_iconst (v := 5) hx hb dX6_figureNow_35 (by decide) ?_
  refine lv_aload_n hx hb dX6_figureNow_36 rfl (lv_at hl 1 rfl) ?_
  refine lv_iconst (v := 5) hx hb dX6_figureNow_37 (by decide) ?_
  refine mh_iald hx hb hKK.1 hW 14 f (by decide) (mh_ixR (k := 4) (by decide) (by decide) (by show f < mh_n 4; unfold mh_n; simp; omega)) (i := 5) (by unfold vp_in; decide) dX6_figureNow_38 ?_
  rw [show (5 : Int32).toNatClampNeg = 5 from by decide]
  refine mm_niast hx hb hKK.1 hM hS hv nv hAv (i := 5) (x := ρ 14 f 5) (by unfold vp_in; decide) dX6_figureNow_39 (fun H locs hM hv hz hq hS => ?_)
  have hW := hM.2.1
  rw [show (5 : Int32).toNatClampNeg = 5 from by decide] at hv
  refine lv_dup hx hb dX6_figureNow_40 rfl ?_
  refine lv_bipush (v := 6) hx hb dX6_figureNow_41 (by decide) ?_
  refine lv_aload_n hx hb dX6_figureNow_43 rfl (lv_at hl 1 rfl) ?_
  refine lv_bipush (v := 6) hx hb dX6_figureNow_44 (by decide) ?_
  refine mh_iald hx hb hKK.1 hW 14 f (by decide) (mh_ixR (k := 4) (by decide) (by decide) (by show f < mh_n 4; unfold mh_n; simp; omega)) (i := 6) (by unfold vp_in; decide) dX6_figureNow_46 ?_
  rw [show (6 : Int32).toNatClampNeg = 6 from by decide]
  refine mm_niast hx hb hKK.1 hM hS hv nv hAv (i := 6) (x := ρ 14 f 6) (by unfold vp_in; decide) dX6_figureNow_47 (fun H locs hM hv hz hq hS => ?_)
  have hW := hM.2.1
  rw [show (6 : Int32).toNatClampNeg = 6 from by decide] at hv
  refine lv_dup hx hb dX6_figureNow_48 rfl ?_
  refine lv_bipush (v := 7) hx hb dX6_figureNow_49 (by decide) ?_
  refine lv_aload_n hx hb dX6_figureNow_51 rfl (lv_at hl 0 rfl) ?_
  refine mm_house hx hb hts (by decide +kernel) hown hKK.1 hM (hts (.fieldLink RX6 10 "WaxrowModel" "house" "LWaxrowModel$House;") (by decide +kernel)) dX6_figureNow_52 ?_
  have hW := hM.2.1
  refine lv_aload_n hx hb dX6_figureNow_55 rfl (lv_at hl 1 rfl) ?_
  refine mh_callo (As := [.ref (L 14 f)]) ⟨hx, hb, hml, hown, hts⟩ (kX5_likeness l D d cB L ρ (mh_own L) H.size f (by omega) hh hbd) (cwV 1 hts gX6_figureNow_X5_likeness rfl rfl rfl (by decide +kernel) ⟨Nat.le_of_ble_eq_true rfl, Nat.le_of_ble_eq_true rfl⟩) hKK hW hS rfl hl.1 (Nat.le_of_ble_eq_true rfl) dX6_figureNow_56 ⟨Nat.le_of_ble_eq_true rfl, Nat.le_of_ble_eq_true rfl⟩ rfl (fun r_ τ_ H locs hp hW hz hqq hS => ?_)
  obtain ⟨e1_, e2_⟩ := hp
  subst e1_ e2_
  have hM : mm_W D d cB L m0 (th : Int32) ρ A H := ⟨hM.1.kept (hqq _ hM.1.lt (fun ⟨k9, i9, hx9, e9⟩ => hM.2.2.2 k9 i9 hx9 e9.symm)), hW, hM.2.2⟩
  have hv := hv.kept (hqq _ hv.lt nv.1.own)
  refine mm_niast hx hb hKK.1 hM hS hv nv hAv (i := 7) (x := mp_like ρ f) (by unfold vp_in; decide) dX6_figureNow_59 (fun H locs hM hv hz hq hS => ?_)
  have hW := hM.2.1
  rw [show (7 : Int32).toNatClampNeg = 7 from by decide] at hv
  refine lv_dup hx hb dX6_figureNow_60 rfl ?_
  refine lv_bipush (v := 8) hx hb dX6_figureNow_61 (by decide) ?_
  refine lv_aload_n hx hb dX6_figureNow_63 rfl (lv_at hl 1 rfl) ?_
  refine lv_bipush (v := 7) hx hb dX6_figureNow_64 (by decide) ?_
  refine mh_iald hx hb hKK.1 hW 14 f (by decide) (mh_ixR (k := 4) (by decide) (by decide) (by show f < mh_n 4; unfold mh_n; simp; omega)) (i := 7) (by unfold vp_in; decide) dX6_figureNow_66 ?_
  rw [show (7 : Int32).toNatClampNeg = 7 from by decide]
  refine mm_niast hx hb hKK.1 hM hS hv nv hAv (i := 8) (x := ρ 14 f 7) (by unfold vp_in; decide) dX6_figureNow_67 (fun H locs hM hv hz hq hS => ?_)
  have hW := hM.2.1
  rw [show (8 : Int32).toNatClampNeg = 8 from by decide] at hv
  refine lv_dup hx hb dX6_figureNow_68 rfl ?_
  refine lv_bipush (v := 9) hx hb dX6_figureNow_69 (by decide) ?_
  refine lv_aload_n hx hb dX6_figureNow_71 rfl (lv_at hl 1 rfl) ?_
  refine lv_bipush (v := 8) hx hb dX6_figureNow_72 (by decide) ?_
  refine mh_iald hx hb hKK.1 hW 14 f (by decide) (mh_ixR (k := 4) (by decide) (by decide) (by show f < mh_n 4; unfold mh_n; simp; omega)) (i := 8) (by unfold vp_in; decide) dX6_figureNow_74 ?_
  rw [show (8 : Int32).toNatClampNeg = 8 from by decide]
  refine mm_niast hx hb hKK.1 hM hS hv nv hAv (i := 9) (x := ρ 14 f 8) (by unfold vp_in; decide) dX6_figureNow_75 (fun H locs hM hv hz hq hS => ?_)
  have hW := hM.2.1
  rw [show (9 : Int32).toNatClampNeg = 9 from by decide] at hv
  refine lv_dup hx hb dX6_figureNow_76 rfl ?_
  refine lv_bipush (v := 10) hx hb dX6_figureNow_77 (by decide) ?_
  refine lv_aload_n hx hb dX6_figureNow_79 rfl (lv_at hl 0 rfl) ?_
  refine mm_house hx hb hts (by decide +kernel) hown hKK.1 hM (hts (.fieldLink RX6 10 "WaxrowModel" "house" "LWaxrowModel$House;") (by decide +kernel)) dX6_figureNow_80 ?_
  have hW := hM.2.1
  refine lv_aload_n hx hb dX6_figureNow_83 rfl (lv_at hl 1 rfl) ?_
  refine mh_callo (As := [.ref (L 14 f)]) ⟨hx, hb, hml, hown, hts⟩ (kX5_draw l D d cB L ρ (mh_own L) H.size f (by omega) hh hbd) (cwV 1 hts gX6_figureNow_X5_draw rfl rfl rfl (by decide +kernel) ⟨Nat.le_of_ble_eq_true rfl, Nat.le_of_ble_eq_true rfl⟩) hKK hW hS rfl hl.1 (Nat.le_of_ble_eq_true rfl) dX6_figureNow_84 ⟨Nat.le_of_ble_eq_true rfl, Nat.le_of_ble_eq_true rfl⟩ rfl (fun r_ τ_ H locs hp hW hz hqq hS => ?_)
  obtain ⟨e1_, e2_⟩ := hp
  subst e1_ e2_
  have hM : mm_W D d cB L m0 (th : Int32) ρ A H := ⟨hM.1.kept (hqq _ hM.1.lt (fun ⟨k9, i9, hx9, e9⟩ => hM.2.2.2 k9 i9 hx9 e9.symm)), hW, hM.2.2⟩
  have hv := hv.kept (hqq _ hv.lt nv.1.own)
  refine mm_niast hx hb hKK.1 hM hS hv nv hAv (i := 10) (x := mp_draw ρ f) (by unfold vp_in; decide) dX6_figureNow_87 (fun H locs hM hv hz hq hS => ?_)
  have hW := hM.2.1
  rw [show (10 : Int32).toNatClampNeg = 10 from by decide] at hv
  refine lv_dup hx hb dX6_figureNow_88 rfl ?_
  refine lv_bipush (v := 11) hx hb dX6_figureNow_89 (by decide) ?_
  refine lv_aload_n hx hb dX6_figureNow_91 rfl (lv_at hl 1 rfl) ?_
  refine lv_bipush (v := 10) hx hb dX6_figureNow_92 (by decide) ?_
  refine mh_iald hx hb hKK.1 hW 14 f (by decide) (mh_ixR (k := 4) (by decide) (by decide) (by show f < mh_n 4; unfold mh_n; simp; omega)) (i := 10) (by unfold vp_in; decide) dX6_figureNow_94 ?_
  rw [show (10 : Int32).toNatClampNeg = 10 from by decide]
  refine mm_niast hx hb hKK.1 hM hS hv nv hAv (i := 11) (x := ρ 14 f 10) (by unfold vp_in; decide) dX6_figureNow_95 (fun H locs hM hv hz hq hS => ?_)
  have hW := hM.2.1
  rw [show (11 : Int32).toNatClampNeg = 11 from by decide] at hv
  refine lv_astore_n (lv' := [(3, .ref v), (0, .ref m0), (1, .ref (L 14 f)), (2, .int (nI j))]) hx hb dX6_figureNow_96 rfl hl (by decide) rfl (fun ls hl => ?_)
  refine lv_aload_n hx hb dX6_figureNow_97 rfl (lv_at hl 0 rfl) ?_
  refine lv_iload_n hx hb dX6_figureNow_98 rfl (lv_at hl 3 rfl) ?_
  refine mh_niald hx hb hKK.1 hv (i := nI j) (by unfold vp_in; exact nI_in (show j < 12 by omega) (by decide)) dX6_figureNow_99 ?_
  rw [nI_clamp (n := j) (by omega)]
  rw [show (upd (upd (upd (upd (upd (upd (upd (upd (upd (upd (upd (upd (fun _ => 0) 0 (ρ 14 f 0)) 1 (ρ 14 f 1)) 2 (ρ 14 f 2)) 3 (ρ 14 f 3)) 4 (ρ 14 f 4)) 5 (ρ 14 f 5)) 6 (ρ 14 f 6)) 7 (mp_like ρ f)) 8 (ρ 14 f 7)) 9 (ρ 14 f 8)) 10 (mp_draw ρ f)) 11 (ρ 14 f 10)) j = mp_fnow ρ f j from by rcases (show j = 0 ∨ j = 1 ∨ j = 2 ∨ j = 3 ∨ j = 4 ∨ j = 5 ∨ j = 6 ∨ j = 7 ∨ j = 8 ∨ j = 9 ∨ j = 10 ∨ j = 11 by omega) with rfl | rfl | rfl | rfl | rfl | rfl | rfl | rfl | rfl | rfl | rfl | rfl <;> rfl]
  refine W.widen (k := 1) (n := 12) (by omega) (by omega) ?_
  exact W.iret (v := mp_fnow ρ f j) hx hb hr (fun t ht hW9 => ⟨⟨mp_fnow ρ f j, (th, ρ), rfl, ⟨rfl, rfl, rfl⟩, by show mm_W D d cB L m0 _ _ A t.heap; rw [ht]; exact hM⟩, hS.F ht⟩) hS.2.2 dX6_figureNow_100
def mp_ofFigureP (F : Nat) (ρ : hs_St) (x y : Int32) (r : Int32) (X : mm_X) : Prop := if mp_in x 0 (nI F - 1) = 0 then ((0 : Int32) = r ∧ (1 : Int32) = X.1 ∧ ρ = X.2) else if mp_in y 0 11 = 0 then ((0 : Int32) = r ∧ (2 : Int32) = X.1 ∧ ρ = X.2) else (mp_fnow ρ x.toNatClampNeg y.toNatClampNeg = r ∧ (0 : Int32) = X.1 ∧ ρ = X.2)
set_option maxHeartbeats 4000000 in
set_option maxRecDepth 100000 in
/-- the reference: X6_ofFigure -/
theorem kX6_ofFigure (l : Launch) (D : va_G) (d : hs_Dm) (cB : ClassId) (L : hs_Lo) (m0 : Nat) (th : Int32) (ρ : hs_St) (A : Nat → Prop) (sz : Nat) (P F R : Nat) (hok : mh_ok P F R ρ) (x y : Int32) (hA : mh_A A sz) : mm_Mi l yX6_ofFigure wsX6_ofFigure ({ frames := 5, cells := 1, slots := 12, locals := 160 } : Room) D d cB L m0 th ρ A sz [.ref m0, .int x, .int y] (fun r X => mp_ofFigureP F ρ x y r X) 1 12 := by
  refine Met.ofW (cc := cX6_ofFigure) (maxL := 3) (ret := (some .int)) (by decide) rfl ?_
  intro p e s m args below meth c0 s₁ B hml hv
  obtain ⟨rfl, hsz, hM, hKK⟩ := hv
  have hx := B.exec
  have hb := B.bytes
  have hr := B.returns
  have hts := atoms_spec (ws := wsX6_ofFigure) B.pre
  have hown : s.vm.findClass RX6 = some m.cls := findClass_of_methodNamed B.named
  have hlocks := B.notSynchronized
  have hS : va_S A s.heap s.heap [] := va_S.rf
  have hl := lv_entry ([.ref m0, .int x, .int y]) (n := 3) (Nat.le_of_ble_eq_true rfl)
  rw [lg_entry_eq]
  generalize (lg_sl ([.ref m0, .int x, .int y]) ++ List.replicate (3 - (lg_sl ([.ref m0, .int x, .int y])).length) Slot.unset).toArray = ls at hl ⊢
  have hl : lv_has ls 3 [(0, .ref m0), (1, .int x), (2, .int y)] := hl
  have hAz : ∀ q, s.heap.size ≤ q → A q := fun q h9 => hA q (by rw [hsz] at h9; exact h9)
  refine lv_aload_n hx hb dX6_ofFigure_0 rfl (lv_at hl 0 rfl) ?_
  refine lv_iconst (v := 0) hx hb dX6_ofFigure_1 (by decide) ?_
  refine mm_putt hx hb hts (by decide +kernel) hown hKK.1 hM hS (hts (.fieldLink RX6 16 "WaxrowModel" "thrown" "I") (by decide +kernel)) (0 : Int32) dX6_ofFigure_2 (fun H locs hM hS hz => ?_)
  have hM : mm_W D d cB L m0 0 ρ A H := hM
  have hW := hM.2.1
  refine lv_aload_n hx hb dX6_ofFigure_5 rfl (lv_at hl 0 rfl) ?_
  refine lv_iload_n hx hb dX6_ofFigure_6 rfl (lv_at hl 1 rfl) ?_
  refine mm_calli (As := [.int x]) ⟨hx, hb, hml, hown, hts⟩ (kX6_isFigure l D d cB L m0 (0 : Int32) ρ A H.size P F R hok x) (cwV 1 hts gX6_ofFigure_X6_isFigure rfl rfl rfl (by decide +kernel) ⟨Nat.le_of_ble_eq_true rfl, Nat.le_of_ble_eq_true rfl⟩) hKK hM hS rfl hl.1 (Nat.le_of_ble_eq_true rfl) dX6_ofFigure_7 ⟨Nat.le_of_ble_eq_true rfl, Nat.le_of_ble_eq_true rfl⟩ rfl (fun r_ X_ H locs hp hM hz hS => ?_)
  obtain ⟨t_, τ_⟩ := X_
  obtain ⟨e1_, e2_, e3_⟩ := hp
  have e2_ : (0 : Int32) = t_ := e2_
  have e3_ : ρ = τ_ := e3_
  subst e1_ e2_ e3_
  have hM : mm_W D d cB L m0 0 ρ A H := hM
  have hW := hM.2.1
  refine lv_if_ne (tgt := 19) hx hb dX6_ofFigure_10 (by decide) (fun c_10 => ?_) (fun c_10 => ?_)
  · refine lv_iload_n hx hb dX6_ofFigure_19 rfl (lv_at hl 2 rfl) ?_
    refine lv_iconst (v := 0) hx hb dX6_ofFigure_20 (by decide) ?_
    refine lv_bipush (v := 11) hx hb dX6_ofFigure_21 (by decide) ?_
    refine mm_pure (As := [.int y, .int 0, .int 11]) ⟨hx, hb, hml, hown, hts⟩ (kX6_in l (y) (0) (11)) (va_cwS 3 hts gX6_ofFigure_X6_in rfl rfl rfl (by decide +kernel) ⟨Nat.le_of_ble_eq_true rfl, Nat.le_of_ble_eq_true rfl⟩) hM hS rfl hl.1 (Nat.le_of_ble_eq_true rfl) dX6_ofFigure_23 ⟨Nat.le_of_ble_eq_true rfl, Nat.le_of_ble_eq_true rfl⟩ rfl (fun r_ H locs hp hM hz hS => ?_)
    subst hp
    have hM : mm_W D d cB L m0 0 ρ A H := hM
    have hW := hM.2.1
    refine lv_if_ne (tgt := 35) hx hb dX6_ofFigure_26 (by decide) (fun c_26 => ?_) (fun c_26 => ?_)
    · have hb9 : F ≤ 8 := hok.2.1
      obtain ⟨j, hj9, ej9⟩ := mp_in_ix (by omega) c_10
      subst ej9
      have hj : j < F := hj9
      have hclj := nI_clamp (n := j) (by omega)
      obtain ⟨b, hb9_, eb⟩ := mp_in_le (n := 11) (by decide) c_26
      subst eb
      have hclb := nI_clamp (n := b) (by omega)
      refine lv_aload_n hx hb dX6_ofFigure_35 rfl (lv_at hl 0 rfl) ?_
      refine lv_aload_n hx hb dX6_ofFigure_36 rfl (lv_at hl 0 rfl) ?_
      refine mm_house hx hb hts (by decide +kernel) hown hKK.1 hM (hts (.fieldLink RX6 10 "WaxrowModel" "house" "LWaxrowModel$House;") (by decide +kernel)) dX6_ofFigure_37 ?_
      have hW := hM.2.1
      refine mh_get hx hb hts (by decide +kernel) hown hKK.1 hW 3 (by decide) (hts (.fieldLink RX6 60 "WaxrowModel$House" "figures" "[[I") (by decide +kernel)) rfl (v := .ref (L 4 0)) rfl dX6_ofFigure_40 ?_
      refine lv_iload_n hx hb dX6_ofFigure_43 rfl (lv_at hl 1 rfl) ?_
      refine mh_aald hx hb hKK.2.1 hW 4 j (by decide) (by decide) (by have := hok.2.1; show j < mh_n 4; unfold mh_n; simp; omega) dX6_ofFigure_44 ?_
      refine lv_iload_n hx hb dX6_ofFigure_45 rfl (lv_at hl 2 rfl) ?_
      refine mm_calli (As := [.ref (L 14 j), .int (nI b)]) ⟨hx, hb, hml, hown, hts⟩ (kX6_figureNow l D d cB L m0 (0 : Int32) ρ A H.size j (by have := hok.2.1; omega) (by obtain ⟨h_, h1_, h2_⟩ := (hok.2.2.2.2.2.2 j hj).1; exact ⟨h_, by have := hok.1; omega, h2_⟩) (by obtain ⟨h_, h1_, h2_⟩ := (hok.2.2.2.2.2.2 j hj).2.1; exact ⟨h_, by have := hok.1; omega, h2_⟩) b (by omega) (fun q h => hAz q (Nat.le_trans hS.1 h))) (cwV 2 hts gX6_ofFigure_X6_figureNow rfl rfl rfl (by decide +kernel) ⟨Nat.le_of_ble_eq_true rfl, Nat.le_of_ble_eq_true rfl⟩) hKK hM hS rfl hl.1 (Nat.le_of_ble_eq_true rfl) dX6_ofFigure_46 ⟨Nat.le_of_ble_eq_true rfl, Nat.le_of_ble_eq_true rfl⟩ rfl (fun r_ X_ H locs hp hM hz hS => ?_)
      obtain ⟨t_, τ_⟩ := X_
      obtain ⟨e1_, e2_, e3_⟩ := hp
      have e2_ : (0 : Int32) = t_ := e2_
      have e3_ : ρ = τ_ := e3_
      subst e1_ e2_ e3_
      have hM : mm_W D d cB L m0 0 ρ A H := hM
      have hW := hM.2.1
      refine W.widen (k := 1) (n := 12) (by omega) (by omega) ?_
      exact W.iret (v := mp_fnow ρ j b) hx hb hr (fun t ht hW9 => ⟨⟨mp_fnow ρ j b, (0, ρ), rfl, (by show mp_ofFigureP F ρ (nI j) (nI b) _ _; unfold mp_ofFigureP; rw [if_neg c_10, if_neg c_26, hclj, hclb]; exact ⟨rfl, rfl, rfl⟩), by show mm_W D d cB L m0 _ _ A t.heap; rw [ht]; exact hM⟩, hS.F ht⟩) hS.2.2 dX6_ofFigure_49
    · refine lv_aload_n hx hb dX6_ofFigure_29 rfl (lv_at hl 0 rfl) ?_
      refine lv_iconst (v := 2) hx hb dX6_ofFigure_30 (by decide) ?_
      refine mm_calli (As := [.int 2]) ⟨hx, hb, hml, hown, hts⟩ (kX6_no l D d cB L m0 (0 : Int32) ρ A H.size 2) (cwV 1 hts gX6_ofFigure_X6_no rfl rfl rfl (by decide +kernel) ⟨Nat.le_of_ble_eq_true rfl, Nat.le_of_ble_eq_true rfl⟩) hKK hM hS rfl hl.1 (Nat.le_of_ble_eq_true rfl) dX6_ofFigure_31 ⟨Nat.le_of_ble_eq_true rfl, Nat.le_of_ble_eq_true rfl⟩ rfl (fun r_ X_ H locs hp hM hz hS => ?_)
      obtain ⟨t_, τ_⟩ := X_
      obtain ⟨e1_, e2_, e3_⟩ := hp
      have e2_ : (2 : Int32) = t_ := e2_
      have e3_ : ρ = τ_ := e3_
      subst e1_ e2_ e3_
      have hM : mm_W D d cB L m0 2 ρ A H := hM
      have hW := hM.2.1
      refine W.widen (k := 1) (n := 12) (by omega) (by omega) ?_
      exact W.iret (v := 0) hx hb hr (fun t ht hW9 => ⟨⟨0, (2, ρ), rfl, (by show mp_ofFigureP F ρ x y _ _; unfold mp_ofFigureP; rw [if_neg c_10, if_pos c_26]; exact ⟨rfl, rfl, rfl⟩), by show mm_W D d cB L m0 _ _ A t.heap; rw [ht]; exact hM⟩, hS.F ht⟩) hS.2.2 dX6_ofFigure_34
  · refine lv_aload_n hx hb dX6_ofFigure_13 rfl (lv_at hl 0 rfl) ?_
    refine lv_iconst (v := 1) hx hb dX6_ofFigure_14 (by decide) ?_
    refine mm_calli (As := [.int 1]) ⟨hx, hb, hml, hown, hts⟩ (kX6_no l D d cB L m0 (0 : Int32) ρ A H.size 1) (cwV 1 hts gX6_ofFigure_X6_no rfl rfl rfl (by decide +kernel) ⟨Nat.le_of_ble_eq_true rfl, Nat.le_of_ble_eq_true rfl⟩) hKK hM hS rfl hl.1 (Nat.le_of_ble_eq_true rfl) dX6_ofFigure_15 ⟨Nat.le_of_ble_eq_true rfl, Nat.le_of_ble_eq_true rfl⟩ rfl (fun r_ X_ H locs hp hM hz hS => ?_)
    obtain ⟨t_, τ_⟩ := X_
    obtain ⟨e1_, e2_, e3_⟩ := hp
    have e2_ : (1 : Int32) = t_ := e2_
    have e3_ : ρ = τ_ := e3_
    subst e1_ e2_ e3_
    have hM : mm_W D d cB L m0 1 ρ A H := hM
    have hW := hM.2.1
    refine W.widen (k := 1) (n := 12) (by omega) (by omega) ?_
    exact W.iret (v := 0) hx hb hr (fun t ht hW9 => ⟨⟨0, (1, ρ), rfl, (by show mp_ofFigureP F ρ x y _ _; unfold mp_ofFigureP; rw [if_pos c_10]; exact ⟨rfl, rfl, rfl⟩), by show mm_W D d cB L m0 _ _ A t.heap; rw [ht]; exact hM⟩, hS.F ht⟩) hS.2.2 dX6_ofFigure_18
def mp_rnow (ρ : hs_St) (F b : Nat) : Nat → Int32 := fun j => match j with
  | 0 => ρ 5 0 b
  | 1 => ρ 6 0 b
  | 2 => ρ 6 0 b - mp_many ρ (nI b) F
  | 3 => mp_draws ρ (nI b) (nI b) F
  | _ => 0
set_option maxHeartbeats 4000000 in
set_option maxRecDepth 100000 in
/-- the reference: X6_roomNow -/
theorem kX6_roomNow (l : Launch) (D : va_G) (d : hs_Dm) (cB : ClassId) (L : hs_Lo) (m0 : Nat) (th : Int32) (ρ : hs_St) (A : Nat → Prop) (sz : Nat) (P F R : Nat) (hok : mh_ok P F R ρ) (b : Nat) (hbR : b < R) (j : Nat) (hj : j < 4) (hA : mh_A A sz) : mm_Mi l yX6_roomNow wsX6_roomNow ({ frames := 5, cells := 1, slots := 4, locals := 160 } : Room) D d cB L m0 th ρ A sz [.ref m0, .int (nI b), .int (nI j)] (fun r X => mp_rnow ρ F b j = r ∧ th = X.1 ∧ ρ = X.2) 1 4 := by
  refine Met.ofW (cc := cX6_roomNow) (maxL := 4) (ret := (some .int)) (by decide) rfl ?_
  intro p e s m args below meth c0 s₁ B hml hv
  obtain ⟨rfl, hsz, hM, hKK⟩ := hv
  have hx := B.exec
  have hb := B.bytes
  have hr := B.returns
  have hts := atoms_spec (ws := wsX6_roomNow) B.pre
  have hown : s.vm.findClass RX6 = some m.cls := findClass_of_methodNamed B.named
  have hlocks := B.notSynchronized
  have hS : va_S A s.heap s.heap [] := va_S.rf
  have hl := lv_entry ([.ref m0, .int (nI b), .int (nI j)]) (n := 4) (Nat.le_of_ble_eq_true rfl)
  rw [lg_entry_eq]
  generalize (lg_sl ([.ref m0, .int (nI b), .int (nI j)]) ++ List.replicate (4 - (lg_sl ([.ref m0, .int (nI b), .int (nI j)])).length) Slot.unset).toArray = ls at hl ⊢
  have hl : lv_has ls 4 [(0, .ref m0), (1, .int (nI b)), (2, .int (nI j))] := hl
  have hR5 := hok.2.2.1
  have hAz : ∀ q, s.heap.size ≤ q → A q := fun q h9 => hA q (by rw [hsz] at h9; exact h9)
  refine lv_iconst (v := 4) hx hb dX6_roomNow_0 (by decide) ?_
  refine mm_newa hx hb (hts (.arrayClass .int) (by decide +kernel)) hKK.1 hAz hM hS (by decide) (N' := 4) rfl (by decide) (Nat.le_of_ble_eq_true rfl) (Nat.le_of_ble_eq_true rfl) dX6_roomNow_1 (fun H v hM nv hAv hv hz hoq hv9 hS => ?_)
  have hW := hM.2.1
  refine lv_dup hx hb dX6_roomNow_3 rfl ?_
  refine lv_iconst (v := 0) hx hb dX6_roomNow_4 (by decide) ?_
  refine lv_aload_n hx hb dX6_roomNow_5 rfl (lv_at hl 0 rfl) ?_
  refine mm_house hx hb hts (by decide +kernel) hown hKK.1 hM (hts (.fieldLink RX6 10 "WaxrowModel" "house" "LWaxrowModel$House;") (by decide +kernel)) dX6_roomNow_6 ?_
  have hW := hM.2.1
  refine mh_get hx hb hts (by decide +kernel) hown hKK.1 hW 4 (by decide) (hts (.fieldLink RX6 102 "WaxrowModel$House" "lamps" "[I") (by decide +kernel)) rfl (v := .ref (L 5 0)) rfl dX6_roomNow_9 ?_
  refine lv_iload_n hx hb dX6_roomNow_12 rfl (lv_at hl 1 rfl) ?_
  refine mh_iald hx hb hKK.1 hW 5 0 (by decide) (mh_ixO (by decide)) (i := nI b) (by unfold vp_in; exact nI_in (show b < 5 by have := hok.2.2.1; omega) (by decide)) dX6_roomNow_13 ?_
  rw [show (nI b : Int32).toNatClampNeg = b from nI_clamp (by omega)]
  refine mm_niast hx hb hKK.1 hM hS hv nv hAv (i := 0) (x := ρ 5 0 b) (by unfold vp_in; decide) dX6_roomNow_14 (fun H locs hM hv hz hq hS => ?_)
  have hW := hM.2.1
  rw [show (0 : Int32).toNatClampNeg = 0 from by decide] at hv
  refine lv_dup hx hb dX6_roomNow_15 rfl ?_
  refine lv_iconst (v := 1) hx hb dX6_roomNow_16 (by decide) ?_
  refine lv_aload_n hx hb dX6_roomNow_17 rfl (lv_at hl 0 rfl) ?_
  refine mm_house hx hb hts (by decide +kernel) hown hKK.1 hM (hts (.fieldLink RX6 10 "WaxrowModel" "house" "LWaxrowModel$House;") (by decide +kernel)) dX6_roomNow_18 ?_
  have hW := hM.2.1
  refine mh_get hx hb hts (by decide +kernel) hown hKK.1 hW 5 (by decide) (hts (.fieldLink RX6 106 "WaxrowModel$House" "spots" "[I") (by decide +kernel)) rfl (v := .ref (L 6 0)) rfl dX6_roomNow_21 ?_
  refine lv_iload_n hx hb dX6_roomNow_24 rfl (lv_at hl 1 rfl) ?_
  refine mh_iald hx hb hKK.1 hW 6 0 (by decide) (mh_ixO (by decide)) (i := nI b) (by unfold vp_in; exact nI_in (show b < 5 by have := hok.2.2.1; omega) (by decide)) dX6_roomNow_25 ?_
  rw [show (nI b : Int32).toNatClampNeg = b from nI_clamp (by omega)]
  refine mm_niast hx hb hKK.1 hM hS hv nv hAv (i := 1) (x := ρ 6 0 b) (by unfold vp_in; decide) dX6_roomNow_26 (fun H locs hM hv hz hq hS => ?_)
  have hW := hM.2.1
  rw [show (1 : Int32).toNatClampNeg = 1 from by decide] at hv
  refine lv_dup hx hb dX6_roomNow_27 rfl ?_
  refine lv_iconst (v := 2) hx hb dX6_roomNow_28 (by decide) ?_
  refine lv_aload_n hx hb dX6_roomNow_29 rfl (lv_at hl 0 rfl) ?_
  refine mm_house hx hb hts (by decide +kernel) hown hKK.1 hM (hts (.fieldLink RX6 10 "WaxrowModel" "house" "LWaxrowModel$House;") (by decide +kernel)) dX6_roomNow_30 ?_
  have hW := hM.2.1
  refine mh_get hx hb hts (by decide +kernel) hown hKK.1 hW 5 (by decide) (hts (.fieldLink RX6 106 "WaxrowModel$House" "spots" "[I") (by decide +kernel)) rfl (v := .ref (L 6 0)) rfl dX6_roomNow_33 ?_
  refine lv_iload_n hx hb dX6_roomNow_36 rfl (lv_at hl 1 rfl) ?_
  refine mh_iald hx hb hKK.1 hW 6 0 (by decide) (mh_ixO (by decide)) (i := nI b) (by unfold vp_in; exact nI_in (show b < 5 by have := hok.2.2.1; omega) (by decide)) dX6_roomNow_37 ?_
  rw [show (nI b : Int32).toNatClampNeg = b from nI_clamp (by omega)]
  refine lv_aload_n hx hb dX6_roomNow_38 rfl (lv_at hl 0 rfl) ?_
  refine mm_house hx hb hts (by decide +kernel) hown hKK.1 hM (hts (.fieldLink RX6 10 "WaxrowModel" "house" "LWaxrowModel$House;") (by decide +kernel)) dX6_roomNow_39 ?_
  have hW := hM.2.1
  refine lv_iload_n hx hb dX6_roomNow_42 rfl (lv_at hl 1 rfl) ?_
  refine mh_callo (As := [.int (nI b)]) ⟨hx, hb, hml, hown, hts⟩ (kX5_shownIn l D d cB L ρ (mh_own L) H.size P F R hok (nI b)) (cwV 1 hts gX6_roomNow_X5_shownIn rfl rfl rfl (by decide +kernel) ⟨Nat.le_of_ble_eq_true rfl, Nat.le_of_ble_eq_true rfl⟩) hKK hW hS rfl hl.1 (Nat.le_of_ble_eq_true rfl) dX6_roomNow_43 ⟨Nat.le_of_ble_eq_true rfl, Nat.le_of_ble_eq_true rfl⟩ rfl (fun r_ τ_ H locs hp hW hz hqq hS => ?_)
  obtain ⟨e1_, e2_⟩ := hp
  subst e1_ e2_
  have hM : mm_W D d cB L m0 (th : Int32) ρ A H := ⟨hM.1.kept (hqq _ hM.1.lt (fun ⟨k9, i9, hx9, e9⟩ => hM.2.2.2 k9 i9 hx9 e9.symm)), hW, hM.2.2⟩
  have hv := hv.kept (hqq _ hv.lt nv.1.own)
  refine lv_isub hx hb dX6_roomNow_46 ?_
  refine mm_niast hx hb hKK.1 hM hS hv nv hAv (i := 2) (x := (ρ 6 0 b) - (mp_many ρ (nI b) F)) (by unfold vp_in; decide) dX6_roomNow_47 (fun H locs hM hv hz hq hS => ?_)
  have hW := hM.2.1
  rw [show (2 : Int32).toNatClampNeg = 2 from by decide] at hv
  refine lv_dup hx hb dX6_roomNow_48 rfl ?_
  refine lv_iconst (v := 3) hx hb dX6_roomNow_49 (by decide) ?_
  refine lv_aload_n hx hb dX6_roomNow_50 rfl (lv_at hl 0 rfl) ?_
  refine mm_house hx hb hts (by decide +kernel) hown hKK.1 hM (hts (.fieldLink RX6 10 "WaxrowModel" "house" "LWaxrowModel$House;") (by decide +kernel)) dX6_roomNow_51 ?_
  have hW := hM.2.1
  refine lv_iload_n hx hb dX6_roomNow_54 rfl (lv_at hl 1 rfl) ?_
  refine lv_iload_n hx hb dX6_roomNow_55 rfl (lv_at hl 1 rfl) ?_
  refine mh_callo (As := [.int (nI b), .int (nI b)]) ⟨hx, hb, hml, hown, hts⟩ (kX5_drawsIn l D d cB L ρ (mh_own L) H.size P F R hok (nI b) (nI b)) (cwV 2 hts gX6_roomNow_X5_drawsIn rfl rfl rfl (by decide +kernel) ⟨Nat.le_of_ble_eq_true rfl, Nat.le_of_ble_eq_true rfl⟩) hKK hW hS rfl hl.1 (Nat.le_of_ble_eq_true rfl) dX6_roomNow_56 ⟨Nat.le_of_ble_eq_true rfl, Nat.le_of_ble_eq_true rfl⟩ rfl (fun r_ τ_ H locs hp hW hz hqq hS => ?_)
  obtain ⟨e1_, e2_⟩ := hp
  subst e1_ e2_
  have hM : mm_W D d cB L m0 (th : Int32) ρ A H := ⟨hM.1.kept (hqq _ hM.1.lt (fun ⟨k9, i9, hx9, e9⟩ => hM.2.2.2 k9 i9 hx9 e9.symm)), hW, hM.2.2⟩
  have hv := hv.kept (hqq _ hv.lt nv.1.own)
  refine mm_niast hx hb hKK.1 hM hS hv nv hAv (i := 3) (x := mp_draws ρ (nI b) (nI b) F) (by unfold vp_in; decide) dX6_roomNow_59 (fun H locs hM hv hz hq hS => ?_)
  have hW := hM.2.1
  rw [show (3 : Int32).toNatClampNeg = 3 from by decide] at hv
  refine lv_astore_n (lv' := [(3, .ref v), (0, .ref m0), (1, .int (nI b)), (2, .int (nI j))]) hx hb dX6_roomNow_60 rfl hl (by decide) rfl (fun ls hl => ?_)
  refine lv_aload_n hx hb dX6_roomNow_61 rfl (lv_at hl 0 rfl) ?_
  refine lv_iload_n hx hb dX6_roomNow_62 rfl (lv_at hl 3 rfl) ?_
  refine mh_niald hx hb hKK.1 hv (i := nI j) (by unfold vp_in; exact nI_in (show j < 4 by omega) (by decide)) dX6_roomNow_63 ?_
  rw [nI_clamp (n := j) (by omega)]
  rw [show (upd (upd (upd (upd (fun _ => 0) 0 (ρ 5 0 b)) 1 (ρ 6 0 b)) 2 ((ρ 6 0 b) - (mp_many ρ (nI b) F))) 3 (mp_draws ρ (nI b) (nI b) F)) j = mp_rnow ρ F b j from by rcases (show j = 0 ∨ j = 1 ∨ j = 2 ∨ j = 3 by omega) with rfl | rfl | rfl | rfl <;> rfl]
  refine W.widen (k := 1) (n := 4) (by omega) (by omega) ?_
  exact W.iret (v := mp_rnow ρ F b j) hx hb hr (fun t ht hW9 => ⟨⟨mp_rnow ρ F b j, (th, ρ), rfl, ⟨rfl, rfl, rfl⟩, by show mm_W D d cB L m0 _ _ A t.heap; rw [ht]; exact hM⟩, hS.F ht⟩) hS.2.2 dX6_roomNow_64
def mp_ofRoomP (F R : Nat) (ρ : hs_St) (x y : Int32) (r : Int32) (X : mm_X) : Prop := if mp_in x 0 (nI R - 1) = 0 then ((0 : Int32) = r ∧ (1 : Int32) = X.1 ∧ ρ = X.2) else if mp_in y 0 3 = 0 then ((0 : Int32) = r ∧ (2 : Int32) = X.1 ∧ ρ = X.2) else (mp_rnow ρ F x.toNatClampNeg y.toNatClampNeg = r ∧ (0 : Int32) = X.1 ∧ ρ = X.2)
set_option maxHeartbeats 4000000 in
set_option maxRecDepth 100000 in
/-- the reference: X6_ofRoom -/
theorem kX6_ofRoom (l : Launch) (D : va_G) (d : hs_Dm) (cB : ClassId) (L : hs_Lo) (m0 : Nat) (th : Int32) (ρ : hs_St) (A : Nat → Prop) (sz : Nat) (P F R : Nat) (hok : mh_ok P F R ρ) (x y : Int32) (hA : mh_A A sz) : mm_Mi l yX6_ofRoom wsX6_ofRoom ({ frames := 6, cells := 1, slots := 4, locals := 200 } : Room) D d cB L m0 th ρ A sz [.ref m0, .int x, .int y] (fun r X => mp_ofRoomP F R ρ x y r X) 1 4 := by
  refine Met.ofW (cc := cX6_ofRoom) (maxL := 3) (ret := (some .int)) (by decide) rfl ?_
  intro p e s m args below meth c0 s₁ B hml hv
  obtain ⟨rfl, hsz, hM, hKK⟩ := hv
  have hx := B.exec
  have hb := B.bytes
  have hr := B.returns
  have hts := atoms_spec (ws := wsX6_ofRoom) B.pre
  have hown : s.vm.findClass RX6 = some m.cls := findClass_of_methodNamed B.named
  have hlocks := B.notSynchronized
  have hS : va_S A s.heap s.heap [] := va_S.rf
  have hl := lv_entry ([.ref m0, .int x, .int y]) (n := 3) (Nat.le_of_ble_eq_true rfl)
  rw [lg_entry_eq]
  generalize (lg_sl ([.ref m0, .int x, .int y]) ++ List.replicate (3 - (lg_sl ([.ref m0, .int x, .int y])).length) Slot.unset).toArray = ls at hl ⊢
  have hl : lv_has ls 3 [(0, .ref m0), (1, .int x), (2, .int y)] := hl
  have hAz : ∀ q, s.heap.size ≤ q → A q := fun q h9 => hA q (by rw [hsz] at h9; exact h9)
  refine lv_aload_n hx hb dX6_ofRoom_0 rfl (lv_at hl 0 rfl) ?_
  refine lv_iconst (v := 0) hx hb dX6_ofRoom_1 (by decide) ?_
  refine mm_putt hx hb hts (by decide +kernel) hown hKK.1 hM hS (hts (.fieldLink RX6 16 "WaxrowModel" "thrown" "I") (by decide +kernel)) (0 : Int32) dX6_ofRoom_2 (fun H locs hM hS hz => ?_)
  have hM : mm_W D d cB L m0 0 ρ A H := hM
  have hW := hM.2.1
  refine lv_aload_n hx hb dX6_ofRoom_5 rfl (lv_at hl 0 rfl) ?_
  refine lv_iload_n hx hb dX6_ofRoom_6 rfl (lv_at hl 1 rfl) ?_
  refine mm_calli (As := [.int x]) ⟨hx, hb, hml, hown, hts⟩ (kX6_isRoom l D d cB L m0 (0 : Int32) ρ A H.size P F R hok x) (cwV 1 hts gX6_ofRoom_X6_isRoom rfl rfl rfl (by decide +kernel) ⟨Nat.le_of_ble_eq_true rfl, Nat.le_of_ble_eq_true rfl⟩) hKK hM hS rfl hl.1 (Nat.le_of_ble_eq_true rfl) dX6_ofRoom_7 ⟨Nat.le_of_ble_eq_true rfl, Nat.le_of_ble_eq_true rfl⟩ rfl (fun r_ X_ H locs hp hM hz hS => ?_)
  obtain ⟨t_, τ_⟩ := X_
  obtain ⟨e1_, e2_, e3_⟩ := hp
  have e2_ : (0 : Int32) = t_ := e2_
  have e3_ : ρ = τ_ := e3_
  subst e1_ e2_ e3_
  have hM : mm_W D d cB L m0 0 ρ A H := hM
  have hW := hM.2.1
  refine lv_if_ne (tgt := 19) hx hb dX6_ofRoom_10 (by decide) (fun c_10 => ?_) (fun c_10 => ?_)
  · refine lv_iload_n hx hb dX6_ofRoom_19 rfl (lv_at hl 2 rfl) ?_
    refine lv_iconst (v := 0) hx hb dX6_ofRoom_20 (by decide) ?_
    refine lv_iconst (v := 3) hx hb dX6_ofRoom_21 (by decide) ?_
    refine mm_pure (As := [.int y, .int 0, .int 3]) ⟨hx, hb, hml, hown, hts⟩ (kX6_in l (y) (0) (3)) (va_cwS 3 hts gX6_ofRoom_X6_in rfl rfl rfl (by decide +kernel) ⟨Nat.le_of_ble_eq_true rfl, Nat.le_of_ble_eq_true rfl⟩) hM hS rfl hl.1 (Nat.le_of_ble_eq_true rfl) dX6_ofRoom_22 ⟨Nat.le_of_ble_eq_true rfl, Nat.le_of_ble_eq_true rfl⟩ rfl (fun r_ H locs hp hM hz hS => ?_)
    subst hp
    have hM : mm_W D d cB L m0 0 ρ A H := hM
    have hW := hM.2.1
    refine lv_if_ne (tgt := 34) hx hb dX6_ofRoom_25 (by decide) (fun c_25 => ?_) (fun c_25 => ?_)
    · have hb9 : R ≤ 5 := hok.2.2.1
      obtain ⟨j, hj9, ej9⟩ := mp_in_ix (by omega) c_10
      subst ej9
      have hj : j < R := hj9
      have hclj := nI_clamp (n := j) (by omega)
      obtain ⟨b, hb9_, eb⟩ := mp_in_le (n := 3) (by decide) c_25
      subst eb
      have hclb := nI_clamp (n := b) (by omega)
      refine lv_aload_n hx hb dX6_ofRoom_34 rfl (lv_at hl 0 rfl) ?_
      refine lv_iload_n hx hb dX6_ofRoom_35 rfl (lv_at hl 1 rfl) ?_
      refine lv_iload_n hx hb dX6_ofRoom_36 rfl (lv_at hl 2 rfl) ?_
      refine mm_calli (As := [.int (nI j), .int (nI b)]) ⟨hx, hb, hml, hown, hts⟩ (kX6_roomNow l D d cB L m0 (0 : Int32) ρ A H.size P F R hok j hj b (by omega) (fun q h => hAz q (Nat.le_trans hS.1 h))) (cwV 2 hts gX6_ofRoom_X6_roomNow rfl rfl rfl (by decide +kernel) ⟨Nat.le_of_ble_eq_true rfl, Nat.le_of_ble_eq_true rfl⟩) hKK hM hS rfl hl.1 (Nat.le_of_ble_eq_true rfl) dX6_ofRoom_37 ⟨Nat.le_of_ble_eq_true rfl, Nat.le_of_ble_eq_true rfl⟩ rfl (fun r_ X_ H locs hp hM hz hS => ?_)
      obtain ⟨t_, τ_⟩ := X_
      obtain ⟨e1_, e2_, e3_⟩ := hp
      have e2_ : (0 : Int32) = t_ := e2_
      have e3_ : ρ = τ_ := e3_
      subst e1_ e2_ e3_
      have hM : mm_W D d cB L m0 0 ρ A H := hM
      have hW := hM.2.1
      refine W.widen (k := 1) (n := 4) (by omega) (by omega) ?_
      exact W.iret (v := mp_rnow ρ F j b) hx hb hr (fun t ht hW9 => ⟨⟨mp_rnow ρ F j b, (0, ρ), rfl, (by show mp_ofRoomP F R ρ (nI j) (nI b) _ _; unfold mp_ofRoomP; rw [if_neg c_10, if_neg c_25, hclj, hclb]; exact ⟨rfl, rfl, rfl⟩), by show mm_W D d cB L m0 _ _ A t.heap; rw [ht]; exact hM⟩, hS.F ht⟩) hS.2.2 dX6_ofRoom_40
    · refine lv_aload_n hx hb dX6_ofRoom_28 rfl (lv_at hl 0 rfl) ?_
      refine lv_iconst (v := 2) hx hb dX6_ofRoom_29 (by decide) ?_
      refine mm_calli (As := [.int 2]) ⟨hx, hb, hml, hown, hts⟩ (kX6_no l D d cB L m0 (0 : Int32) ρ A H.size 2) (cwV 1 hts gX6_ofRoom_X6_no rfl rfl rfl (by decide +kernel) ⟨Nat.le_of_ble_eq_true rfl, Nat.le_of_ble_eq_true rfl⟩) hKK hM hS rfl hl.1 (Nat.le_of_ble_eq_true rfl) dX6_ofRoom_30 ⟨Nat.le_of_ble_eq_true rfl, Nat.le_of_ble_eq_true rfl⟩ rfl (fun r_ X_ H locs hp hM hz hS => ?_)
      obtain ⟨t_, τ_⟩ := X_
      obtain ⟨e1_, e2_, e3_⟩ := hp
      have e2_ : (2 : Int32) = t_ := e2_
      have e3_ : ρ = τ_ := e3_
      subst e1_ e2_ e3_
      have hM : mm_W D d cB L m0 2 ρ A H := hM
      have hW := hM.2.1
      refine W.widen (k := 1) (n := 4) (by omega) (by omega) ?_
      exact W.iret (v := 0) hx hb hr (fun t ht hW9 => ⟨⟨0, (2, ρ), rfl, (by show mp_ofRoomP F R ρ x y _ _; unfold mp_ofRoomP; rw [if_neg c_10, if_pos c_25]; exact ⟨rfl, rfl, rfl⟩), by show mm_W D d cB L m0 _ _ A t.heap; rw [ht]; exact hM⟩, hS.F ht⟩) hS.2.2 dX6_ofRoom_33
  · refine lv_aload_n hx hb dX6_ofRoom_13 rfl (lv_at hl 0 rfl) ?_
    refine lv_iconst (v := 1) hx hb dX6_ofRoom_14 (by decide) ?_
    refine mm_calli (As := [.int 1]) ⟨hx, hb, hml, hown, hts⟩ (kX6_no l D d cB L m0 (0 : Int32) ρ A H.size 1) (cwV 1 hts gX6_ofRoom_X6_no rfl rfl rfl (by decide +kernel) ⟨Nat.le_of_ble_eq_true rfl, Nat.le_of_ble_eq_true rfl⟩) hKK hM hS rfl hl.1 (Nat.le_of_ble_eq_true rfl) dX6_ofRoom_15 ⟨Nat.le_of_ble_eq_true rfl, Nat.le_of_ble_eq_true rfl⟩ rfl (fun r_ X_ H locs hp hM hz hS => ?_)
    obtain ⟨t_, τ_⟩ := X_
    obtain ⟨e1_, e2_, e3_⟩ := hp
    have e2_ : (1 : Int32) = t_ := e2_
    have e3_ : ρ = τ_ := e3_
    subst e1_ e2_ e3_
    have hM : mm_W D d cB L m0 1 ρ A H := hM
    have hW := hM.2.1
    refine W.widen (k := 1) (n := 4) (by omega) (by omega) ?_
    exact W.iret (v := 0) hx hb hr (fun t ht hW9 => ⟨⟨0, (1, ρ), rfl, (by show mp_ofRoomP F R ρ x y _ _; unfold mp_ofRoomP; rw [if_pos c_10]; exact ⟨rfl, rfl, rfl⟩), by show mm_W D d cB L m0 _ _ A t.heap; rw [ht]; exact hM⟩, hS.F ht⟩) hS.2.2 dX6_ofRoom_18
def mp_dones (ρ : hs_St) : Nat → Int32
  | 0 => 0
  | n + 1 => mp_dones ρ n + (if mp_isDone ρ n = 0 then 0 else 1)
def mp_dues (ρ : hs_St) : Nat → Int32
  | 0 => 0
  | n + 1 => mp_dues ρ n + ρ 11 n 7
def mp_mnow (ρ : hs_St) (P F R : Nat) : Nat → Int32 := fun j => match j with
  | 0 => ρ 0 0 9
  | 1 => nI P
  | 2 => nI F
  | 3 => mp_dones ρ F
  | 4 => mp_cnt ρ 0 4 F
  | 5 => mp_cnt ρ 6 6 F
  | 6 => mp_cnt ρ 7 7 F
  | 7 => nI R
  | 8 => ρ 0 0 12
  | 9 => ρ 0 0 13
  | 10 => mp_dues ρ P
  | 11 => ρ 0 0 10
  | 12 => mp_hands ρ F
  | 13 => ρ 0 0 11
  | 14 => mp_draws ρ 0 4 F
  | _ => 0
set_option maxHeartbeats 4000000 in
set_option maxRecDepth 100000 in
/-- the reference: X6_manyNow: the loop at 4 -/
theorem lkX6_manyNow4 (l : Launch) (D : va_G) (d : hs_Dm) (cB : ClassId) (L : hs_Lo) (m0 : Nat) (th : Int32) (ρ : hs_St) (A : Nat → Prop) (sz : Nat) (P F R : Nat) (hok : mh_ok P F R ρ) (j : Nat) {p : Program} {e : Env} {s : State} {m : MethodId} {args : Array Value} {below : List Frame} {meth : Method} {c0 : Code} (hx : p.tables.exec = Jvm.exec) (hb : c0.code = cX6_manyNow) (hr : meth.sig.returnType = (some .int)) (hts : ∀ w ∈ wsX6_manyNow, w.before args s = true) (hown : s.vm.findClass RX6 = some m.cls) (hlocks : meth.locks = false) (hml : c0.maxLocals = 5) (hKK : mh_K D d cB s) {Q : State → Prop} (kK : ∀ (H : Heap) (locs : List Loc), mm_W D d cB L m0 th ρ A H → va_S A s.heap H locs → ∀ ls : Array Slot, lv_has ls 5 [(2, .int (mp_dones ρ F)), (0, .ref m0), (1, .int (nI j))] → W p l e (({ frames := 5, cells := 1, slots := 15, locals := 160 } : Room)) s m args below meth c0 H locs 0 0 Q (F0 m 48 ls [])) : ∀ (kk n : Nat), n + kk = F → ∀ (H : Heap) (locs : List Loc), mm_W D d cB L m0 th ρ A H → va_S A s.heap H locs → ∀ ls : Array Slot, lv_has ls 5 [(3, .int (nI n)), (2, .int (mp_dones ρ n)), (0, .ref m0), (1, .int (nI j))] → W p l e (({ frames := 5, cells := 1, slots := 15, locals := 160 } : Room)) s m args below meth c0 H locs 0 0 Q (F0 m 4 ls []) := by
  intro kk
  induction kk with
  | zero =>
    intro n hn H locs hM hS ls hl
    have hnN : n = F := by omega
    have hW := hM.2.1
    have hF8 := hok.2.1
    refine lv_iload_n hx hb dX6_manyNow_4 rfl (lv_at hl 0 rfl) ?_
    refine lv_aload_n hx hb dX6_manyNow_5 rfl (lv_at hl 2 rfl) ?_
    refine mm_house hx hb hts (by decide +kernel) hown hKK.1 hM (hts (.fieldLink RX6 10 "WaxrowModel" "house" "LWaxrowModel$House;") (by decide +kernel)) dX6_manyNow_6 ?_
    have hW := hM.2.1
    refine mh_get hx hb hts (by decide +kernel) hown hKK.1 hW 7 (by decide) (hts (.fieldLink RX6 36 "WaxrowModel$House" "figureCount" "I") (by decide +kernel)) rfl (v := .int (ρ 0 0 7)) rfl dX6_manyNow_9 ?_
    rw [show ρ 0 0 7 = nI F from hok.2.2.2.2.1]
    refine lv_icmp_ge (tgt := 48) hx hb dX6_manyNow_12 (by decide) (fun c_12 => ?_) (fun c_12 => ?_)
    · subst hnN
      exact kK _ _ hM hS ls (lv_sub hl [1, 2, 3] rfl)
    · exact absurd (by rw [hnN]; exact nI_le (a := F) (b := F) (Nat.le_refl _) (by omega)) c_12
  | succ kk ih =>
    intro n hn H locs hM hS ls hl
    have hnN : n < F := by omega
    have hW := hM.2.1
    have hF8 := hok.2.1
    refine lv_iload_n hx hb dX6_manyNow_4 rfl (lv_at hl 0 rfl) ?_
    refine lv_aload_n hx hb dX6_manyNow_5 rfl (lv_at hl 2 rfl) ?_
    refine mm_house hx hb hts (by decide +kernel) hown hKK.1 hM (hts (.fieldLink RX6 10 "WaxrowModel" "house" "LWaxrowModel$House;") (by decide +kernel)) dX6_manyNow_6 ?_
    have hW := hM.2.1
    refine mh_get hx hb hts (by decide +kernel) hown hKK.1 hW 7 (by decide) (hts (.fieldLink RX6 36 "WaxrowModel$House" "figureCount" "I") (by decide +kernel)) rfl (v := .int (ρ 0 0 7)) rfl dX6_manyNow_9 ?_
    rw [show ρ 0 0 7 = nI F from hok.2.2.2.2.1]
    refine lv_icmp_ge (tgt := 48) hx hb dX6_manyNow_12 (by decide) (fun c_12 => ?_) (fun c_12 => ?_)
    · exact absurd c_12 (nI_ge (b := F) hnN (by omega))
    · refine lv_iload_n hx hb dX6_manyNow_15 rfl (lv_at hl 1 rfl) ?_
      refine lv_aload_n hx hb dX6_manyNow_16 rfl (lv_at hl 2 rfl) ?_
      refine mm_house hx hb hts (by decide +kernel) hown hKK.1 hM (hts (.fieldLink RX6 10 "WaxrowModel" "house" "LWaxrowModel$House;") (by decide +kernel)) dX6_manyNow_17 ?_
      have hW := hM.2.1
      refine lv_aload_n hx hb dX6_manyNow_20 rfl (lv_at hl 2 rfl) ?_
      refine mm_house hx hb hts (by decide +kernel) hown hKK.1 hM (hts (.fieldLink RX6 10 "WaxrowModel" "house" "LWaxrowModel$House;") (by decide +kernel)) dX6_manyNow_21 ?_
      have hW := hM.2.1
      refine mh_get hx hb hts (by decide +kernel) hown hKK.1 hW 3 (by decide) (hts (.fieldLink RX6 60 "WaxrowModel$House" "figures" "[[I") (by decide +kernel)) rfl (v := .ref (L 4 0)) rfl dX6_manyNow_24 ?_
      refine lv_iload_n hx hb dX6_manyNow_27 rfl (lv_at hl 0 rfl) ?_
      refine mh_aald hx hb hKK.2.1 hW 4 n (by decide) (by decide) (by show n < mh_n 4; unfold mh_n; simp; omega) dX6_manyNow_28 ?_
      refine mh_callo (As := [.ref (L 14 n)]) ⟨hx, hb, hml, hown, hts⟩ (kX5_isDone l D d cB L ρ (mh_own L) H.size n (by omega)) (cwV 1 hts gX6_manyNow_X5_isDone rfl rfl rfl (by decide +kernel) ⟨Nat.le_of_ble_eq_true rfl, Nat.le_of_ble_eq_true rfl⟩) hKK hW hS rfl hl.1 (Nat.le_of_ble_eq_true rfl) dX6_manyNow_29 ⟨Nat.le_of_ble_eq_true rfl, Nat.le_of_ble_eq_true rfl⟩ rfl (fun r_ τ_ H locs hp hW hz hqq hS => ?_)
      obtain ⟨e1_, e2_⟩ := hp
      subst e1_ e2_
      have hM : mm_W D d cB L m0 (th : Int32) ρ A H := ⟨hM.1.kept (hqq _ hM.1.lt (fun ⟨k9, i9, hx9, e9⟩ => hM.2.2.2 k9 i9 hx9 e9.symm)), hW, hM.2.2⟩
      refine lv_if_eq (tgt := 39) hx hb dX6_manyNow_32 (by decide) (fun c_32 => ?_) (fun c_32 => ?_)
      · refine lv_iconst (v := 0) hx hb dX6_manyNow_39 (by decide) ?_
        refine lv_iadd hx hb dX6_manyNow_40 ?_
        rw [show (mp_dones ρ n) + 0 = mp_dones ρ (n + 1) from (by show _ = mp_dones ρ n + _; rw [if_pos c_32])]
        refine lv_istore_n (lv' := [(2, .int (mp_dones ρ (n + 1))), (3, .int (nI n)), (0, .ref m0), (1, .int (nI j))]) hx hb dX6_manyNow_41 rfl hl (by decide) rfl (fun ls hl => ?_)
        refine lv_iinc (v := nI (n + 1)) (lv' := [(3, .int (nI (n + 1))), (2, .int (mp_dones ρ (n + 1))), (0, .ref m0), (1, .int (nI j))]) hx hb dX6_manyNow_42 hl (k := 1) rfl (nI_succ _).symm (by decide) rfl (fun ls hl => ?_)
        refine lv_goto (tgt := 4) hx hb dX6_manyNow_45 (by decide) ?_
        have hM : mm_W D d cB L m0 th ρ A H := hM
        exact ih (n + 1) (by omega) _ _ hM hS ls (lv_sub hl [0, 1, 2, 3] rfl)
      · refine lv_iconst (v := 1) hx hb dX6_manyNow_35 (by decide) ?_
        refine lv_goto (tgt := 40) hx hb dX6_manyNow_36 (by decide) ?_
        refine lv_iadd hx hb dX6_manyNow_40 ?_
        rw [show (mp_dones ρ n) + 1 = mp_dones ρ (n + 1) from (by show _ = mp_dones ρ n + _; rw [if_neg c_32])]
        refine lv_istore_n (lv' := [(2, .int (mp_dones ρ (n + 1))), (3, .int (nI n)), (0, .ref m0), (1, .int (nI j))]) hx hb dX6_manyNow_41 rfl hl (by decide) rfl (fun ls hl => ?_)
        refine lv_iinc (v := nI (n + 1)) (lv' := [(3, .int (nI (n + 1))), (2, .int (mp_dones ρ (n + 1))), (0, .ref m0), (1, .int (nI j))]) hx hb dX6_manyNow_42 hl (k := 1) rfl (nI_succ _).symm (by decide) rfl (fun ls hl => ?_)
        refine lv_goto (tgt := 4) hx hb dX6_manyNow_45 (by decide) ?_
        have hM : mm_W D d cB L m0 th ρ A H := hM
        exact ih (n + 1) (by omega) _ _ hM hS ls (lv_sub hl [0, 1, 2, 3] rfl)
set_option maxHeartbeats 4000000 in
set_option maxRecDepth 100000 in
/-- the reference: X6_manyNow: the loop at 53 -/
theorem lkX6_manyNow53 (l : Launch) (D : va_G) (d : hs_Dm) (cB : ClassId) (L : hs_Lo) (m0 : Nat) (th : Int32) (ρ : hs_St) (A : Nat → Prop) (sz : Nat) (P F R : Nat) (hok : mh_ok P F R ρ) (j : Nat) (y : Int32) {p : Program} {e : Env} {s : State} {m : MethodId} {args : Array Value} {below : List Frame} {meth : Method} {c0 : Code} (hx : p.tables.exec = Jvm.exec) (hb : c0.code = cX6_manyNow) (hr : meth.sig.returnType = (some .int)) (hts : ∀ w ∈ wsX6_manyNow, w.before args s = true) (hown : s.vm.findClass RX6 = some m.cls) (hlocks : meth.locks = false) (hml : c0.maxLocals = 5) (hKK : mh_K D d cB s) {Q : State → Prop} (kK : ∀ (H : Heap) (locs : List Loc), mm_W D d cB L m0 th ρ A H → va_S A s.heap H locs → ∀ ls : Array Slot, lv_has ls 5 [(3, .int (mp_dues ρ P)), (2, .int y), (0, .ref m0), (1, .int (nI j))] → W p l e (({ frames := 5, cells := 1, slots := 15, locals := 160 } : Room)) s m args below meth c0 H locs 0 0 Q (F0 m 87 ls [])) : ∀ (kk n : Nat), n + kk = P → ∀ (H : Heap) (locs : List Loc), mm_W D d cB L m0 th ρ A H → va_S A s.heap H locs → ∀ ls : Array Slot, lv_has ls 5 [(4, .int (nI n)), (3, .int (mp_dues ρ n)), (2, .int y), (0, .ref m0), (1, .int (nI j))] → W p l e (({ frames := 5, cells := 1, slots := 15, locals := 160 } : Room)) s m args below meth c0 H locs 0 0 Q (F0 m 53 ls []) := by
  intro kk
  induction kk with
  | zero =>
    intro n hn H locs hM hS ls hl
    have hnN : n = P := by omega
    have hW := hM.2.1
    have h10 := hok.1
    refine lv_iload hx hb dX6_manyNow_53 (lv_at hl 0 rfl) ?_
    refine lv_aload_n hx hb dX6_manyNow_55 rfl (lv_at hl 3 rfl) ?_
    refine mm_house hx hb hts (by decide +kernel) hown hKK.1 hM (hts (.fieldLink RX6 10 "WaxrowModel" "house" "LWaxrowModel$House;") (by decide +kernel)) dX6_manyNow_56 ?_
    have hW := hM.2.1
    refine mh_get hx hb hts (by decide +kernel) hown hKK.1 hW 6 (by decide) (hts (.fieldLink RX6 29 "WaxrowModel$House" "personCount" "I") (by decide +kernel)) rfl (v := .int (ρ 0 0 6)) rfl dX6_manyNow_59 ?_
    rw [show ρ 0 0 6 = nI P from hok.2.2.2.1]
    refine lv_icmp_ge (tgt := 87) hx hb dX6_manyNow_62 (by decide) (fun c_62 => ?_) (fun c_62 => ?_)
    · subst hnN
      exact kK _ _ hM hS ls (lv_sub hl [1, 2, 3, 4] rfl)
    · exact absurd (by rw [hnN]; exact nI_le (a := P) (b := P) (Nat.le_refl _) (by omega)) c_62
  | succ kk ih =>
    intro n hn H locs hM hS ls hl
    have hnN : n < P := by omega
    have hW := hM.2.1
    have h10 := hok.1
    refine lv_iload hx hb dX6_manyNow_53 (lv_at hl 0 rfl) ?_
    refine lv_aload_n hx hb dX6_manyNow_55 rfl (lv_at hl 3 rfl) ?_
    refine mm_house hx hb hts (by decide +kernel) hown hKK.1 hM (hts (.fieldLink RX6 10 "WaxrowModel" "house" "LWaxrowModel$House;") (by decide +kernel)) dX6_manyNow_56 ?_
    have hW := hM.2.1
    refine mh_get hx hb hts (by decide +kernel) hown hKK.1 hW 6 (by decide) (hts (.fieldLink RX6 29 "WaxrowModel$House" "personCount" "I") (by decide +kernel)) rfl (v := .int (ρ 0 0 6)) rfl dX6_manyNow_59 ?_
    rw [show ρ 0 0 6 = nI P from hok.2.2.2.1]
    refine lv_icmp_ge (tgt := 87) hx hb dX6_manyNow_62 (by decide) (fun c_62 => ?_) (fun c_62 => ?_)
    · exact absurd c_62 (nI_ge (b := P) hnN (by omega))
    · refine lv_iload_n hx hb dX6_manyNow_65 rfl (lv_at hl 1 rfl) ?_
      refine lv_aload_n hx hb dX6_manyNow_66 rfl (lv_at hl 3 rfl) ?_
      refine mm_house hx hb hts (by decide +kernel) hown hKK.1 hM (hts (.fieldLink RX6 10 "WaxrowModel" "house" "LWaxrowModel$House;") (by decide +kernel)) dX6_manyNow_67 ?_
      have hW := hM.2.1
      refine mh_get hx hb hts (by decide +kernel) hown hKK.1 hW 0 (by decide) (hts (.fieldLink RX6 46 "WaxrowModel$House" "persons" "[[I") (by decide +kernel)) rfl (v := .ref (L 1 0)) rfl dX6_manyNow_70 ?_
      refine lv_iload hx hb dX6_manyNow_73 (lv_at hl 0 rfl) ?_
      refine mh_aald hx hb hKK.2.1 hW 1 n (by decide) (by decide) (by have := hok.1; show n < mh_n 1; unfold mh_n; simp; omega) dX6_manyNow_75 ?_
      refine lv_bipush (v := 7) hx hb dX6_manyNow_76 (by decide) ?_
      refine mh_iald hx hb hKK.1 hW 11 n (by decide) (mh_ixR (k := 1) (by decide) (by decide) (by have := hok.1; show n < mh_n 1; unfold mh_n; simp; omega)) (i := 7) (by unfold vp_in; decide) dX6_manyNow_78 ?_
      rw [show (7 : Int32).toNatClampNeg = 7 from by decide]
      refine lv_iadd hx hb dX6_manyNow_79 ?_
      refine lv_istore_n (lv' := [(3, .int ((mp_dues ρ n) + (ρ 11 n 7))), (4, .int (nI n)), (2, .int y), (0, .ref m0), (1, .int (nI j))]) hx hb dX6_manyNow_80 rfl hl (by decide) rfl (fun ls hl => ?_)
      refine lv_iinc (v := nI (n + 1)) (lv' := [(4, .int (nI (n + 1))), (3, .int ((mp_dues ρ n) + (ρ 11 n 7))), (2, .int y), (0, .ref m0), (1, .int (nI j))]) hx hb dX6_manyNow_81 hl (k := 1) rfl (nI_succ _).symm (by decide) rfl (fun ls hl => ?_)
      refine lv_goto (tgt := 53) hx hb dX6_manyNow_84 (by decide) ?_
      have hM : mm_W D d cB L m0 th ρ A H := hM
      exact ih (n + 1) (by omega) _ _ hM hS ls (lv_sub hl [0, 1, 2, 3, 4] rfl)
set_option maxHeartbeats 4000000 in
set_option maxRecDepth 100000 in
/-- the reference: X6_manyNow -/
theorem kX6_manyNow (l : Launch) (D : va_G) (d : hs_Dm) (cB : ClassId) (L : hs_Lo) (m0 : Nat) (th : Int32) (ρ : hs_St) (A : Nat → Prop) (sz : Nat) (P F R : Nat) (hok : mh_ok P F R ρ) (j : Nat) (hj : j < 15) (hA : mh_A A sz) : mm_Mi l yX6_manyNow wsX6_manyNow ({ frames := 5, cells := 1, slots := 15, locals := 160 } : Room) D d cB L m0 th ρ A sz [.ref m0, .int (nI j)] (fun r X => mp_mnow ρ P F R j = r ∧ th = X.1 ∧ ρ = X.2) 1 15 := by
  refine Met.ofW (cc := cX6_manyNow) (maxL := 5) (ret := (some .int)) (by decide) rfl ?_
  intro p e s m args below meth c0 s₁ B hml hv
  obtain ⟨rfl, hsz, hM, hKK⟩ := hv
  have hx := B.exec
  have hb := B.bytes
  have hr := B.returns
  have hts := atoms_spec (ws := wsX6_manyNow) B.pre
  have hown : s.vm.findClass RX6 = some m.cls := findClass_of_methodNamed B.named
  have hlocks := B.notSynchronized
  have hS : va_S A s.heap s.heap [] := va_S.rf
  have hl := lv_entry ([.ref m0, .int (nI j)]) (n := 5) (Nat.le_of_ble_eq_true rfl)
  rw [lg_entry_eq]
  generalize (lg_sl ([.ref m0, .int (nI j)]) ++ List.replicate (5 - (lg_sl ([.ref m0, .int (nI j)])).length) Slot.unset).toArray = ls at hl ⊢
  have hl : lv_has ls 5 [(0, .ref m0), (1, .int (nI j))] := hl
  have hAz : ∀ q, s.heap.size ≤ q → A q := fun q h9 => hA q (by rw [hsz] at h9; exact h9)
  refine lv_iconst (v := 0) hx hb dX6_manyNow_0 (by decide) ?_
  refine lv_istore_n (lv' := [(2, .int 0), (0, .ref m0), (1, .int (nI j))]) hx hb dX6_manyNow_1 rfl hl (by decide) rfl (fun ls hl => ?_)
  refine lv_iconst (v := 0) hx hb dX6_manyNow_2 (by decide) ?_
  refine lv_istore_n (lv' := [(3, .int 0), (2, .int 0), (0, .ref m0), (1, .int (nI j))]) hx hb dX6_manyNow_3 rfl hl (by decide) rfl (fun ls hl => ?_)
  refine lkX6_manyNow4 l D d cB L m0 th ρ A sz P F R hok j hx hb hr hts hown hlocks hml hKK (fun H locs hM hS ls hl => ?_) F 0 (by omega) _ _ hM hS ls (lv_sub hl [0, 1, 2, 3] rfl)
  have hW := hM.2.1
  refine lv_iconst (v := 0) hx hb dX6_manyNow_48 (by decide) ?_
  refine lv_istore_n (lv' := [(3, .int 0), (2, .int (mp_dones ρ F)), (0, .ref m0), (1, .int (nI j))]) hx hb dX6_manyNow_49 rfl hl (by decide) rfl (fun ls hl => ?_)
  refine lv_iconst (v := 0) hx hb dX6_manyNow_50 (by decide) ?_
  refine lv_istore (lv' := [(4, .int 0), (3, .int 0), (2, .int (mp_dones ρ F)), (0, .ref m0), (1, .int (nI j))]) hx hb dX6_manyNow_51 hl (by decide) rfl (fun ls hl => ?_)
  refine lkX6_manyNow53 l D d cB L m0 th ρ A sz P F R hok j (mp_dones ρ F) hx hb hr hts hown hlocks hml hKK (fun H locs hM hS ls hl => ?_) P 0 (by omega) _ _ hM hS ls (lv_sub hl [0, 1, 2, 3, 4] rfl)
  have hW := hM.2.1
  refine lv_bipush (v := 15) hx hb dX6_manyNow_87 (by decide) ?_
  refine mm_newa hx hb (hts (.arrayClass .int) (by decide +kernel)) hKK.1 hAz hM hS (by decide) (N' := 15) rfl (by decide) (Nat.le_of_ble_eq_true rfl) (Nat.le_of_ble_eq_true rfl) dX6_manyNow_89 (fun H v hM nv hAv hv hz hoq hv9 hS => ?_)
  have hW := hM.2.1
  refine lv_dup hx hb dX6_manyNow_91 rfl ?_
  refine lv_iconst (v := 0) hx hb dX6_manyNow_92 (by decide) ?_
  refine lv_aload_n hx hb dX6_manyNow_93 rfl (lv_at hl 2 rfl) ?_
  refine mm_house hx hb hts (by decide +kernel) hown hKK.1 hM (hts (.fieldLink RX6 10 "WaxrowModel" "house" "LWaxrowModel$House;") (by decide +kernel)) dX6_manyNow_94 ?_
  have hW := hM.2.1
  refine mh_get hx hb hts (by decide +kernel) hown hKK.1 hW 9 (by decide) (hts (.fieldLink RX6 143 "WaxrowModel$House" "day" "I") (by decide +kernel)) rfl (v := .int (ρ 0 0 9)) rfl dX6_manyNow_97 ?_
  refine mm_niast hx hb hKK.1 hM hS hv nv hAv (i := 0) (x := ρ 0 0 9) (by unfold vp_in; decide) dX6_manyNow_100 (fun H locs hM hv hz hq hS => ?_)
  have hW := hM.2.1
  rw [show (0 : Int32).toNatClampNeg = 0 from by decide] at hv
  refine lv_dup hx hb dX6_manyNow_101 rfl ?_
  refine lv_iconst (v := 1) hx hb dX6_manyNow_102 (by decide) ?_
  refine lv_aload_n hx hb dX6_manyNow_103 rfl (lv_at hl 2 rfl) ?_
  refine mm_house hx hb hts (by decide +kernel) hown hKK.1 hM (hts (.fieldLink RX6 10 "WaxrowModel" "house" "LWaxrowModel$House;") (by decide +kernel)) dX6_manyNow_104 ?_
  have hW := hM.2.1
  refine mh_get hx hb hts (by decide +kernel) hown hKK.1 hW 6 (by decide) (hts (.fieldLink RX6 29 "WaxrowModel$House" "personCount" "I") (by decide +kernel)) rfl (v := .int (ρ 0 0 6)) rfl dX6_manyNow_107 ?_
  rw [show ρ 0 0 6 = nI P from hok.2.2.2.1]
  refine mm_niast hx hb hKK.1 hM hS hv nv hAv (i := 1) (x := nI P) (by unfold vp_in; decide) dX6_manyNow_110 (fun H locs hM hv hz hq hS => ?_)
  have hW := hM.2.1
  rw [show (1 : Int32).toNatClampNeg = 1 from by decide] at hv
  refine lv_dup hx hb dX6_manyNow_111 rfl ?_
  refine lv_iconst (v := 2) hx hb dX6_manyNow_112 (by decide) ?_
  refine lv_aload_n hx hb dX6_manyNow_113 rfl (lv_at hl 2 rfl) ?_
  refine mm_house hx hb hts (by decide +kernel) hown hKK.1 hM (hts (.fieldLink RX6 10 "WaxrowModel" "house" "LWaxrowModel$House;") (by decide +kernel)) dX6_manyNow_114 ?_
  have hW := hM.2.1
  refine mh_get hx hb hts (by decide +kernel) hown hKK.1 hW 7 (by decide) (hts (.fieldLink RX6 36 "WaxrowModel$House" "figureCount" "I") (by decide +kernel)) rfl (v := .int (ρ 0 0 7)) rfl dX6_manyNow_117 ?_
  rw [show ρ 0 0 7 = nI F from hok.2.2.2.2.1]
  refine mm_niast hx hb hKK.1 hM hS hv nv hAv (i := 2) (x := nI F) (by unfold vp_in; decide) dX6_manyNow_120 (fun H locs hM hv hz hq hS => ?_)
  have hW := hM.2.1
  rw [show (2 : Int32).toNatClampNeg = 2 from by decide] at hv
  refine lv_dup hx hb dX6_manyNow_121 rfl ?_
  refine lv_iconst (v := 3) hx hb dX6_manyNow_122 (by decide) ?_
  refine lv_iload_n hx hb dX6_manyNow_123 rfl (lv_at hl 1 rfl) ?_
  refine mm_niast hx hb hKK.1 hM hS hv nv hAv (i := 3) (x := mp_dones ρ F) (by unfold vp_in; decide) dX6_manyNow_124 (fun H locs hM hv hz hq hS => ?_)
  have hW := hM.2.1
  rw [show (3 : Int32).toNatClampNeg = 3 from by decide] at hv
  refine lv_dup hx hb dX6_manyNow_125 rfl ?_
  refine lv_iconst (v := 4) hx hb dX6_manyNow_126 (by decide) ?_
  refine lv_aload_n hx hb dX6_manyNow_127 rfl (lv_at hl 2 rfl) ?_
  refine lv_iconst (v := 0) hx hb dX6_manyNow_128 (by decide) ?_
  refine lv_iconst (v := 4) hx hb dX6_manyNow_129 (by decide) ?_
  refine mm_callo (As := [.int 0, .int 4]) ⟨hx, hb, hml, hown, hts⟩ (kX6_countAt l D d cB L m0 (th : Int32) ρ (mm_own L m0) H.size P F R hok 0 4) (cwV 2 hts gX6_manyNow_X6_countAt rfl rfl rfl (by decide +kernel) ⟨Nat.le_of_ble_eq_true rfl, Nat.le_of_ble_eq_true rfl⟩) hKK hM hS rfl hl.1 (Nat.le_of_ble_eq_true rfl) dX6_manyNow_130 ⟨Nat.le_of_ble_eq_true rfl, Nat.le_of_ble_eq_true rfl⟩ rfl (fun r_ X_ H locs hp hM hz hqq hS => ?_)
  obtain ⟨t_, τ_⟩ := X_
  obtain ⟨e1_, e2_, e3_⟩ := hp
  have e2_ : (th : Int32) = t_ := e2_
  have e3_ : ρ = τ_ := e3_
  subst e1_ e2_ e3_
  have hM : mm_W D d cB L m0 th ρ A H := hM
  have hW := hM.2.1
  have hv := hv.kept (hqq _ hv.lt nv.own)
  refine mm_niast hx hb hKK.1 hM hS hv nv hAv (i := 4) (x := mp_cnt ρ 0 4 F) (by unfold vp_in; decide) dX6_manyNow_133 (fun H locs hM hv hz hq hS => ?_)
  have hW := hM.2.1
  rw [show (4 : Int32).toNatClampNeg = 4 from by decide] at hv
  refine lv_dup hx hb dX6_manyNow_134 rfl ?_
  refine lv_iconst (v := 5) hx hb dX6_manyNow_135 (by decide) ?_
  refine lv_aload_n hx hb dX6_manyNow_136 rfl (lv_at hl 2 rfl) ?_
  refine lv_bipush (v := 6) hx hb dX6_manyNow_137 (by decide) ?_
  refine lv_bipush (v := 6) hx hb dX6_manyNow_139 (by decide) ?_
  refine mm_callo (As := [.int 6, .int 6]) ⟨hx, hb, hml, hown, hts⟩ (kX6_countAt l D d cB L m0 (th : Int32) ρ (mm_own L m0) H.size P F R hok 6 6) (cwV 2 hts gX6_manyNow_X6_countAt rfl rfl rfl (by decide +kernel) ⟨Nat.le_of_ble_eq_true rfl, Nat.le_of_ble_eq_true rfl⟩) hKK hM hS rfl hl.1 (Nat.le_of_ble_eq_true rfl) dX6_manyNow_141 ⟨Nat.le_of_ble_eq_true rfl, Nat.le_of_ble_eq_true rfl⟩ rfl (fun r_ X_ H locs hp hM hz hqq hS => ?_)
  obtain ⟨t_, τ_⟩ := X_
  obtain ⟨e1_, e2_, e3_⟩ := hp
  have e2_ : (th : Int32) = t_ := e2_
  have e3_ : ρ = τ_ := e3_
  subst e1_ e2_ e3_
  have hM : mm_W D d cB L m0 th ρ A H := hM
  have hW := hM.2.1
  have hv := hv.kept (hqq _ hv.lt nv.own)
  refine mm_niast hx hb hKK.1 hM hS hv nv hAv (i := 5) (x := mp_cnt ρ 6 6 F) (by unfold vp_in; decide) dX6_manyNow_144 (fun H locs hM hv hz hq hS => ?_)
  have hW := hM.2.1
  rw [show (5 : Int32).toNatClampNeg = 5 from by decide] at hv
  refine lv_dup hx hb dX6_manyNow_145 rfl ?_
  refine lv_bipush (v := 6) hx hb dX6_manyNow_146 (by decide) ?_
  refine lv_aload_n hx hb dX6_manyNow_148 rfl (lv_at hl 2 rfl) ?_
  refine lv_bipush (v := 7) hx hb dX6_manyNow_149 (by decide) ?_
  refine lv_bipush (v := 7) hx hb dX6_manyNow_151 (by decide) ?_
  refine mm_callo (As := [.int 7, .int 7]) ⟨hx, hb, hml, hown, hts⟩ (kX6_countAt l D d cB L m0 (th : Int32) ρ (mm_own L m0) H.size P F R hok 7 7) (cwV 2 hts gX6_manyNow_X6_countAt rfl rfl rfl (by decide +kernel) ⟨Nat.le_of_ble_eq_true rfl, Nat.le_of_ble_eq_true rfl⟩) hKK hM hS rfl hl.1 (Nat.le_of_ble_eq_true rfl) dX6_manyNow_153 ⟨Nat.le_of_ble_eq_true rfl, Nat.le_of_ble_eq_true rfl⟩ rfl (fun r_ X_ H locs hp hM hz hqq hS => ?_)
  obtain ⟨t_, τ_⟩ := X_
  obtain ⟨e1_, e2_, e3_⟩ := hp
  have e2_ : (th : Int32) = t_ := e2_
  have e3_ : ρ = τ_ := e3_
  subst e1_ e2_ e3_
  have hM : mm_W D d cB L m0 th ρ A H := hM
  have hW := hM.2.1
  have hv := hv.kept (hqq _ hv.lt nv.own)
  refine mm_niast hx hb hKK.1 hM hS hv nv hAv (i := 6) (x := mp_cnt ρ 7 7 F) (by unfold vp_in; decide) dX6_manyNow_156 (fun H locs hM hv hz hq hS => ?_)
  have hW := hM.2.1
  rw [show (6 : Int32).toNatClampNeg = 6 from by decide] at hv
  refine lv_dup hx hb dX6_manyNow_157 rfl ?_
  refine lv_bipush (v := 7) hx hb dX6_manyNow_158 (by decide) ?_
  refine lv_aload_n hx hb dX6_manyNow_160 rfl (lv_at hl 2 rfl) ?_
  refine mm_house hx hb hts (by decide +kernel) hown hKK.1 hM (hts (.fieldLink RX6 10 "WaxrowModel" "house" "LWaxrowModel$House;") (by decide +kernel)) dX6_manyNow_161 ?_
  have hW := hM.2.1
  refine mh_get hx hb hts (by decide +kernel) hown hKK.1 hW 8 (by decide) (hts (.fieldLink RX6 39 "WaxrowModel$House" "roomCount" "I") (by decide +kernel)) rfl (v := .int (ρ 0 0 8)) rfl dX6_manyNow_164 ?_
  rw [show ρ 0 0 8 = nI R from hok.2.2.2.2.2.1]
  refine mm_niast hx hb hKK.1 hM hS hv nv hAv (i := 7) (x := nI R) (by unfold vp_in; decide) dX6_manyNow_167 (fun H locs hM hv hz hq hS => ?_)
  have hW := hM.2.1
  rw [show (7 : Int32).toNatClampNeg = 7 from by decide] at hv
  refine lv_dup hx hb dX6_manyNow_168 rfl ?_
  refine lv_bipush (v := 8) hx hb dX6_manyNow_169 (by decide) ?_
  refine lv_aload_n hx hb dX6_manyNow_171 rfl (lv_at hl 2 rfl) ?_
  refine mm_house hx hb hts (by decide +kernel) hown hKK.1 hM (hts (.fieldLink RX6 10 "WaxrowModel" "house" "LWaxrowModel$House;") (by decide +kernel)) dX6_manyNow_172 ?_
  have hW := hM.2.1
  refine mh_get hx hb hts (by decide +kernel) hown hKK.1 hW 12 (by decide) (hts (.fieldLink RX6 70 "WaxrowModel$House" "money" "I") (by decide +kernel)) rfl (v := .int (ρ 0 0 12)) rfl dX6_manyNow_175 ?_
  refine mm_niast hx hb hKK.1 hM hS hv nv hAv (i := 8) (x := ρ 0 0 12) (by unfold vp_in; decide) dX6_manyNow_178 (fun H locs hM hv hz hq hS => ?_)
  have hW := hM.2.1
  rw [show (8 : Int32).toNatClampNeg = 8 from by decide] at hv
  refine lv_dup hx hb dX6_manyNow_179 rfl ?_
  refine lv_bipush (v := 9) hx hb dX6_manyNow_180 (by decide) ?_
  refine lv_aload_n hx hb dX6_manyNow_182 rfl (lv_at hl 2 rfl) ?_
  refine mm_house hx hb hts (by decide +kernel) hown hKK.1 hM (hts (.fieldLink RX6 10 "WaxrowModel" "house" "LWaxrowModel$House;") (by decide +kernel)) dX6_manyNow_183 ?_
  have hW := hM.2.1
  refine mh_get hx hb hts (by decide +kernel) hown hKK.1 hW 13 (by decide) (hts (.fieldLink RX6 99 "WaxrowModel$House" "wax" "I") (by decide +kernel)) rfl (v := .int (ρ 0 0 13)) rfl dX6_manyNow_186 ?_
  refine mm_niast hx hb hKK.1 hM hS hv nv hAv (i := 9) (x := ρ 0 0 13) (by unfold vp_in; decide) dX6_manyNow_189 (fun H locs hM hv hz hq hS => ?_)
  have hW := hM.2.1
  rw [show (9 : Int32).toNatClampNeg = 9 from by decide] at hv
  refine lv_dup hx hb dX6_manyNow_190 rfl ?_
  refine lv_bipush (v := 10) hx hb dX6_manyNow_191 (by decide) ?_
  refine lv_iload_n hx hb dX6_manyNow_193 rfl (lv_at hl 0 rfl) ?_
  refine mm_niast hx hb hKK.1 hM hS hv nv hAv (i := 10) (x := mp_dues ρ P) (by unfold vp_in; decide) dX6_manyNow_194 (fun H locs hM hv hz hq hS => ?_)
  have hW := hM.2.1
  rw [show (10 : Int32).toNatClampNeg = 10 from by decide] at hv
  refine lv_dup hx hb dX6_manyNow_195 rfl ?_
  refine lv_bipush (v := 11) hx hb dX6_manyNow_196 (by decide) ?_
  refine lv_aload_n hx hb dX6_manyNow_198 rfl (lv_at hl 2 rfl) ?_
  refine mm_house hx hb hts (by decide +kernel) hown hKK.1 hM (hts (.fieldLink RX6 10 "WaxrowModel" "house" "LWaxrowModel$House;") (by decide +kernel)) dX6_manyNow_199 ?_
  have hW := hM.2.1
  refine mh_get hx hb hts (by decide +kernel) hown hKK.1 hW 10 (by decide) (hts (.fieldLink RX6 149 "WaxrowModel$House" "came" "I") (by decide +kernel)) rfl (v := .int (ρ 0 0 10)) rfl dX6_manyNow_202 ?_
  refine mm_niast hx hb hKK.1 hM hS hv nv hAv (i := 11) (x := ρ 0 0 10) (by unfold vp_in; decide) dX6_manyNow_205 (fun H locs hM hv hz hq hS => ?_)
  have hW := hM.2.1
  rw [show (11 : Int32).toNatClampNeg = 11 from by decide] at hv
  refine lv_dup hx hb dX6_manyNow_206 rfl ?_
  refine lv_bipush (v := 12) hx hb dX6_manyNow_207 (by decide) ?_
  refine lv_aload_n hx hb dX6_manyNow_209 rfl (lv_at hl 2 rfl) ?_
  refine mm_house hx hb hts (by decide +kernel) hown hKK.1 hM (hts (.fieldLink RX6 10 "WaxrowModel" "house" "LWaxrowModel$House;") (by decide +kernel)) dX6_manyNow_210 ?_
  have hW := hM.2.1
  refine mh_callo (As := []) ⟨hx, hb, hml, hown, hts⟩ (kX5_hands l D d cB L ρ (mh_own L) H.size P F R hok) (cwV 0 hts gX6_manyNow_X5_hands rfl rfl rfl (by decide +kernel) ⟨Nat.le_of_ble_eq_true rfl, Nat.le_of_ble_eq_true rfl⟩) hKK hW hS rfl hl.1 (Nat.le_of_ble_eq_true rfl) dX6_manyNow_213 ⟨Nat.le_of_ble_eq_true rfl, Nat.le_of_ble_eq_true rfl⟩ rfl (fun r_ τ_ H locs hp hW hz hqq hS => ?_)
  obtain ⟨e1_, e2_⟩ := hp
  subst e1_ e2_
  have hM : mm_W D d cB L m0 (th : Int32) ρ A H := ⟨hM.1.kept (hqq _ hM.1.lt (fun ⟨k9, i9, hx9, e9⟩ => hM.2.2.2 k9 i9 hx9 e9.symm)), hW, hM.2.2⟩
  have hv := hv.kept (hqq _ hv.lt nv.1.own)
  refine mm_niast hx hb hKK.1 hM hS hv nv hAv (i := 12) (x := mp_hands ρ F) (by unfold vp_in; decide) dX6_manyNow_216 (fun H locs hM hv hz hq hS => ?_)
  have hW := hM.2.1
  rw [show (12 : Int32).toNatClampNeg = 12 from by decide] at hv
  refine lv_dup hx hb dX6_manyNow_217 rfl ?_
  refine lv_bipush (v := 13) hx hb dX6_manyNow_218 (by decide) ?_
  refine lv_aload_n hx hb dX6_manyNow_220 rfl (lv_at hl 2 rfl) ?_
  refine mm_house hx hb hts (by decide +kernel) hown hKK.1 hM (hts (.fieldLink RX6 10 "WaxrowModel" "house" "LWaxrowModel$House;") (by decide +kernel)) dX6_manyNow_221 ?_
  have hW := hM.2.1
  refine mh_get hx hb hts (by decide +kernel) hown hKK.1 hW 11 (by decide) (hts (.fieldLink RX6 121 "WaxrowModel$House" "price" "I") (by decide +kernel)) rfl (v := .int (ρ 0 0 11)) rfl dX6_manyNow_224 ?_
  refine mm_niast hx hb hKK.1 hM hS hv nv hAv (i := 13) (x := ρ 0 0 11) (by unfold vp_in; decide) dX6_manyNow_227 (fun H locs hM hv hz hq hS => ?_)
  have hW := hM.2.1
  rw [show (13 : Int32).toNatClampNeg = 13 from by decide] at hv
  refine lv_dup hx hb dX6_manyNow_228 rfl ?_
  refine lv_bipush (v := 14) hx hb dX6_manyNow_229 (by decide) ?_
  refine lv_aload_n hx hb dX6_manyNow_231 rfl (lv_at hl 2 rfl) ?_
  refine mm_house hx hb hts (by decide +kernel) hown hKK.1 hM (hts (.fieldLink RX6 10 "WaxrowModel" "house" "LWaxrowModel$House;") (by decide +kernel)) dX6_manyNow_232 ?_
  have hW := hM.2.1
  refine lv_iconst (v := 0) hx hb dX6_manyNow_235 (by decide) ?_
  refine lv_iconst (v := 4) hx hb dX6_manyNow_236 (by decide) ?_
  refine mh_callo (As := [.int 0, .int 4]) ⟨hx, hb, hml, hown, hts⟩ (kX5_drawsIn l D d cB L ρ (mh_own L) H.size P F R hok 0 4) (cwV 2 hts gX6_manyNow_X5_drawsIn rfl rfl rfl (by decide +kernel) ⟨Nat.le_of_ble_eq_true rfl, Nat.le_of_ble_eq_true rfl⟩) hKK hW hS rfl hl.1 (Nat.le_of_ble_eq_true rfl) dX6_manyNow_237 ⟨Nat.le_of_ble_eq_true rfl, Nat.le_of_ble_eq_true rfl⟩ rfl (fun r_ τ_ H locs hp hW hz hqq hS => ?_)
  obtain ⟨e1_, e2_⟩ := hp
  subst e1_ e2_
  have hM : mm_W D d cB L m0 (th : Int32) ρ A H := ⟨hM.1.kept (hqq _ hM.1.lt (fun ⟨k9, i9, hx9, e9⟩ => hM.2.2.2 k9 i9 hx9 e9.symm)), hW, hM.2.2⟩
  have hv := hv.kept (hqq _ hv.lt nv.1.own)
  refine mm_niast hx hb hKK.1 hM hS hv nv hAv (i := 14) (x := mp_draws ρ 0 4 F) (by unfold vp_in; decide) dX6_manyNow_240 (fun H locs hM hv hz hq hS => ?_)
  have hW := hM.2.1
  rw [show (14 : Int32).toNatClampNeg = 14 from by decide] at hv
  refine lv_astore (lv' := [(4, .ref v), (3, .int (mp_dues ρ P)), (2, .int (mp_dones ρ F)), (0, .ref m0), (1, .int (nI j))]) hx hb dX6_manyNow_241 hl (by decide) rfl (fun ls hl => ?_)
  refine lv_aload hx hb dX6_manyNow_243 (lv_at hl 0 rfl) ?_
  refine lv_iload_n hx hb dX6_manyNow_245 rfl (lv_at hl 4 rfl) ?_
  refine mh_niald hx hb hKK.1 hv (i := nI j) (by unfold vp_in; exact nI_in (show j < 15 by omega) (by decide)) dX6_manyNow_246 ?_
  rw [nI_clamp (n := j) (by omega)]
  rw [show (upd (upd (upd (upd (upd (upd (upd (upd (upd (upd (upd (upd (upd (upd (upd (fun _ => 0) 0 (ρ 0 0 9)) 1 (nI P)) 2 (nI F)) 3 (mp_dones ρ F)) 4 (mp_cnt ρ 0 4 F)) 5 (mp_cnt ρ 6 6 F)) 6 (mp_cnt ρ 7 7 F)) 7 (nI R)) 8 (ρ 0 0 12)) 9 (ρ 0 0 13)) 10 (mp_dues ρ P)) 11 (ρ 0 0 10)) 12 (mp_hands ρ F)) 13 (ρ 0 0 11)) 14 (mp_draws ρ 0 4 F)) j = mp_mnow ρ P F R j from by rcases (show j = 0 ∨ j = 1 ∨ j = 2 ∨ j = 3 ∨ j = 4 ∨ j = 5 ∨ j = 6 ∨ j = 7 ∨ j = 8 ∨ j = 9 ∨ j = 10 ∨ j = 11 ∨ j = 12 ∨ j = 13 ∨ j = 14 by omega) with rfl | rfl | rfl | rfl | rfl | rfl | rfl | rfl | rfl | rfl | rfl | rfl | rfl | rfl | rfl <;> rfl]
  refine W.widen (k := 1) (n := 15) (by omega) (by omega) ?_
  exact W.iret (v := mp_mnow ρ P F R j) hx hb hr (fun t ht hW9 => ⟨⟨mp_mnow ρ P F R j, (th, ρ), rfl, ⟨rfl, rfl, rfl⟩, by show mm_W D d cB L m0 _ _ A t.heap; rw [ht]; exact hM⟩, hS.F ht⟩) hS.2.2 dX6_manyNow_247
def mp_manyP (P F R : Nat) (ρ : hs_St) (x : Int32) (r : Int32) (X : mm_X) : Prop := if mp_in x 0 14 = 0 then ((0 : Int32) = r ∧ (1 : Int32) = X.1 ∧ ρ = X.2) else (mp_mnow ρ P F R x.toNatClampNeg = r ∧ (0 : Int32) = X.1 ∧ ρ = X.2)
set_option maxHeartbeats 4000000 in
set_option maxRecDepth 100000 in
/-- the reference: X6_many -/
theorem kX6_many (l : Launch) (D : va_G) (d : hs_Dm) (cB : ClassId) (L : hs_Lo) (m0 : Nat) (th : Int32) (ρ : hs_St) (A : Nat → Prop) (sz : Nat) (P F R : Nat) (hok : mh_ok P F R ρ) (x : Int32) (hA : mh_A A sz) : mm_Mi l yX6_many wsX6_many ({ frames := 6, cells := 1, slots := 15, locals := 200 } : Room) D d cB L m0 th ρ A sz [.ref m0, .int x] (fun r X => mp_manyP P F R ρ x r X) 1 15 := by
  refine Met.ofW (cc := cX6_many) (maxL := 2) (ret := (some .int)) (by decide) rfl ?_
  intro p e s m args below meth c0 s₁ B hml hv
  obtain ⟨rfl, hsz, hM, hKK⟩ := hv
  have hx := B.exec
  have hb := B.bytes
  have hr := B.returns
  have hts := atoms_spec (ws := wsX6_many) B.pre
  have hown : s.vm.findClass RX6 = some m.cls := findClass_of_methodNamed B.named
  have hlocks := B.notSynchronized
  have hS : va_S A s.heap s.heap [] := va_S.rf
  have hl := lv_entry ([.ref m0, .int x]) (n := 2) (Nat.le_of_ble_eq_true rfl)
  rw [lg_entry_eq]
  generalize (lg_sl ([.ref m0, .int x]) ++ List.replicate (2 - (lg_sl ([.ref m0, .int x])).length) Slot.unset).toArray = ls at hl ⊢
  have hl : lv_has ls 2 [(0, .ref m0), (1, .int x)] := hl
  have hAz : ∀ q, s.heap.size ≤ q → A q := fun q h9 => hA q (by rw [hsz] at h9; exact h9)
  refine lv_aload_n hx hb dX6_many_0 rfl (lv_at hl 0 rfl) ?_
  refine lv_iconst (v := 0) hx hb dX6_many_1 (by decide) ?_
  refine mm_putt hx hb hts (by decide +kernel) hown hKK.1 hM hS (hts (.fieldLink RX6 16 "WaxrowModel" "thrown" "I") (by decide +kernel)) (0 : Int32) dX6_many_2 (fun H locs hM hS hz => ?_)
  have hM : mm_W D d cB L m0 0 ρ A H := hM
  have hW := hM.2.1
  refine lv_iload_n hx hb dX6_many_5 rfl (lv_at hl 1 rfl) ?_
  refine lv_iconst (v := 0) hx hb dX6_many_6 (by decide) ?_
  refine lv_bipush (v := 14) hx hb dX6_many_7 (by decide) ?_
  refine mm_pure (As := [.int x, .int 0, .int 14]) ⟨hx, hb, hml, hown, hts⟩ (kX6_in l (x) (0) (14)) (va_cwS 3 hts gX6_many_X6_in rfl rfl rfl (by decide +kernel) ⟨Nat.le_of_ble_eq_true rfl, Nat.le_of_ble_eq_true rfl⟩) hM hS rfl hl.1 (Nat.le_of_ble_eq_true rfl) dX6_many_9 ⟨Nat.le_of_ble_eq_true rfl, Nat.le_of_ble_eq_true rfl⟩ rfl (fun r_ H locs hp hM hz hS => ?_)
  subst hp
  have hM : mm_W D d cB L m0 0 ρ A H := hM
  have hW := hM.2.1
  refine lv_if_ne (tgt := 21) hx hb dX6_many_12 (by decide) (fun c_12 => ?_) (fun c_12 => ?_)
  · obtain ⟨j, hj, ej⟩ := mp_in_le (n := 14) (by decide) c_12
    subst ej
    have hclj := nI_clamp (n := j) (by omega)
    refine lv_aload_n hx hb dX6_many_21 rfl (lv_at hl 0 rfl) ?_
    refine lv_iload_n hx hb dX6_many_22 rfl (lv_at hl 1 rfl) ?_
    refine mm_calli (As := [.int (nI j)]) ⟨hx, hb, hml, hown, hts⟩ (kX6_manyNow l D d cB L m0 (0 : Int32) ρ A H.size P F R hok j (by omega) (fun q h => hAz q (Nat.le_trans hS.1 h))) (cwV 1 hts gX6_many_X6_manyNow rfl rfl rfl (by decide +kernel) ⟨Nat.le_of_ble_eq_true rfl, Nat.le_of_ble_eq_true rfl⟩) hKK hM hS rfl hl.1 (Nat.le_of_ble_eq_true rfl) dX6_many_23 ⟨Nat.le_of_ble_eq_true rfl, Nat.le_of_ble_eq_true rfl⟩ rfl (fun r_ X_ H locs hp hM hz hS => ?_)
    obtain ⟨t_, τ_⟩ := X_
    obtain ⟨e1_, e2_, e3_⟩ := hp
    have e2_ : (0 : Int32) = t_ := e2_
    have e3_ : ρ = τ_ := e3_
    subst e1_ e2_ e3_
    have hM : mm_W D d cB L m0 0 ρ A H := hM
    have hW := hM.2.1
    refine W.widen (k := 1) (n := 15) (by omega) (by omega) ?_
    exact W.iret (v := mp_mnow ρ P F R j) hx hb hr (fun t ht hW9 => ⟨⟨mp_mnow ρ P F R j, (0, ρ), rfl, (by show mp_manyP P F R ρ (nI j) _ _; unfold mp_manyP; rw [if_neg c_12, hclj]; exact ⟨rfl, rfl, rfl⟩), by show mm_W D d cB L m0 _ _ A t.heap; rw [ht]; exact hM⟩, hS.F ht⟩) hS.2.2 dX6_many_26
  · refine lv_aload_n hx hb dX6_many_15 rfl (lv_at hl 0 rfl) ?_
    refine lv_iconst (v := 1) hx hb dX6_many_16 (by decide) ?_
    refine mm_calli (As := [.int 1]) ⟨hx, hb, hml, hown, hts⟩ (kX6_no l D d cB L m0 (0 : Int32) ρ A H.size 1) (cwV 1 hts gX6_many_X6_no rfl rfl rfl (by decide +kernel) ⟨Nat.le_of_ble_eq_true rfl, Nat.le_of_ble_eq_true rfl⟩) hKK hM hS rfl hl.1 (Nat.le_of_ble_eq_true rfl) dX6_many_17 ⟨Nat.le_of_ble_eq_true rfl, Nat.le_of_ble_eq_true rfl⟩ rfl (fun r_ X_ H locs hp hM hz hS => ?_)
    obtain ⟨t_, τ_⟩ := X_
    obtain ⟨e1_, e2_, e3_⟩ := hp
    have e2_ : (1 : Int32) = t_ := e2_
    have e3_ : ρ = τ_ := e3_
    subst e1_ e2_ e3_
    have hM : mm_W D d cB L m0 1 ρ A H := hM
    have hW := hM.2.1
    refine W.widen (k := 1) (n := 15) (by omega) (by omega) ?_
    exact W.iret (v := 0) hx hb hr (fun t ht hW9 => ⟨⟨0, (1, ρ), rfl, (by show mp_manyP P F R ρ x _ _; unfold mp_manyP; rw [if_pos c_12]; exact ⟨rfl, rfl, rfl⟩), by show mm_W D d cB L m0 _ _ A t.heap; rw [ht]; exact hM⟩, hS.F ht⟩) hS.2.2 dX6_many_20
