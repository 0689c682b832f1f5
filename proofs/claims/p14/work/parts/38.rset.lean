/-! THE REFERENCE'S METHODS THAT SET -/
set_option maxHeartbeats 4000000 in
set_option maxRecDepth 100000 in
/-- the reference: X6_trend -/
theorem kX6_trend (l : Launch) (D : va_G) (d : hs_Dm) (cB : ClassId) (L : hs_Lo) (m0 : Nat) (th : Int32) (ρ : hs_St) (A : Nat → Prop) (sz : Nat) (P F R : Nat) (hok : mh_ok P F R ρ) (x y z : Int32) : mm_Mi l yX6_trend wsX6_trend ({ frames := 2, cells := 0, slots := 0, locals := 60 } : Room) D d cB L m0 th ρ A sz [.ref m0, .int x, .int y, .int z] (fun r X => if mp_in x 0 (nI P - 1) = 0 then (0 : Int32) = r ∧ (1 : Int32) = X.1 ∧ ρ = X.2 else if mp_in y 0 2 = 0 then (0 : Int32) = r ∧ (1 : Int32) = X.1 ∧ ρ = X.2 else if mp_in z (-40) 40 = 0 then (0 : Int32) = r ∧ (2 : Int32) = X.1 ∧ ρ = X.2 else ρ 11 x.toNatClampNeg (3 + y.toNatClampNeg) = r ∧ (0 : Int32) = X.1 ∧ hs_sg ρ 11 x.toNatClampNeg (3 + y.toNatClampNeg) z = X.2) 0 0 := by
  refine Met.ofW (cc := cX6_trend) (maxL := 5) (ret := (some .int)) (by decide) rfl ?_
  intro p e s m args below meth c0 s₁ B hml hv
  obtain ⟨rfl, hsz, hM, hKK⟩ := hv
  have hx := B.exec
  have hb := B.bytes
  have hr := B.returns
  have hts := atoms_spec (ws := wsX6_trend) B.pre
  have hown : s.vm.findClass RX6 = some m.cls := findClass_of_methodNamed B.named
  have hlocks := B.notSynchronized
  have hS : va_S A s.heap s.heap [] := va_S.rf
  have hl := lv_entry ([.ref m0, .int x, .int y, .int z]) (n := 5) (Nat.le_of_ble_eq_true rfl)
  rw [lg_entry_eq]
  generalize (lg_sl ([.ref m0, .int x, .int y, .int z]) ++ List.replicate (5 - (lg_sl ([.ref m0, .int x, .int y, .int z])).length) Slot.unset).toArray = ls at hl ⊢
  have hl : lv_has ls 5 [(0, .ref m0), (1, .int x), (2, .int y), (3, .int z)] := hl
  refine lv_aload_n hx hb dX6_trend_0 rfl (lv_at hl 0 rfl) ?_
  refine lv_iconst (v := 0) hx hb dX6_trend_1 (by decide) ?_
  refine mm_putt hx hb hts (by decide +kernel) hown hKK.1 hM hS (hts (.fieldLink RX6 16 "WaxrowModel" "thrown" "I") (by decide +kernel)) (0 : Int32) dX6_trend_2 (fun H locs hM hS hz => ?_)
  have hM : mm_W D d cB L m0 0 ρ A H := hM
  have hW := hM.2.1
  refine lv_aload_n hx hb dX6_trend_5 rfl (lv_at hl 0 rfl) ?_
  refine lv_iload_n hx hb dX6_trend_6 rfl (lv_at hl 1 rfl) ?_
  refine mm_calli (As := [.int x]) ⟨hx, hb, hml, hown, hts⟩ (kX6_isPerson l D d cB L m0 (0 : Int32) ρ A H.size P F R hok x) (cwV 1 hts gX6_trend_X6_isPerson rfl rfl rfl (by decide +kernel) ⟨Nat.le_of_ble_eq_true rfl, Nat.le_of_ble_eq_true rfl⟩) hKK hM hS rfl hl.1 (Nat.le_of_ble_eq_true rfl) dX6_trend_7 ⟨Nat.le_of_ble_eq_true rfl, Nat.le_of_ble_eq_true rfl⟩ rfl (fun r_ X_ H locs hp hM hz hS => ?_)
  obtain ⟨t_, τ_⟩ := X_
  obtain ⟨e1_, e2_, e3_⟩ := hp
  have e2_ : (0 : Int32) = t_ := e2_
  have e3_ : ρ = τ_ := e3_
  subst e1_ e2_ e3_
  have hM : mm_W D d cB L m0 0 ρ A H := hM
  have hW := hM.2.1
  refine lv_if_eq (tgt := 22) hx hb dX6_trend_10 (by decide) (fun c_10 => ?_) (fun c_10 => ?_)
  · refine lv_aload_n hx hb dX6_trend_22 rfl (lv_at hl 0 rfl) ?_
    refine lv_iconst (v := 1) hx hb dX6_trend_23 (by decide) ?_
    refine mm_calli (As := [.int 1]) ⟨hx, hb, hml, hown, hts⟩ (kX6_no l D d cB L m0 (0 : Int32) ρ A H.size 1) (cwV 1 hts gX6_trend_X6_no rfl rfl rfl (by decide +kernel) ⟨Nat.le_of_ble_eq_true rfl, Nat.le_of_ble_eq_true rfl⟩) hKK hM hS rfl hl.1 (Nat.le_of_ble_eq_true rfl) dX6_trend_24 ⟨Nat.le_of_ble_eq_true rfl, Nat.le_of_ble_eq_true rfl⟩ rfl (fun r_ X_ H locs hp hM hz hS => ?_)
    obtain ⟨t_, τ_⟩ := X_
    obtain ⟨e1_, e2_, e3_⟩ := hp
    have e2_ : (1 : Int32) = t_ := e2_
    have e3_ : ρ = τ_ := e3_
    subst e1_ e2_ e3_
    have hM : mm_W D d cB L m0 1 ρ A H := hM
    have hW := hM.2.1
    exact W.iret (v := 0) hx hb hr (fun t ht hW9 => ⟨⟨0, (1, ρ), rfl, (by show if mp_in x 0 (nI P - 1) = 0 then _ else _; rw [if_pos c_10]; exact ⟨rfl, rfl, rfl⟩), by show mm_W D d cB L m0 _ _ A t.heap; rw [ht]; exact hM⟩, hS.F ht⟩) hS.2.2 dX6_trend_27
  · refine lv_iload_n hx hb dX6_trend_13 rfl (lv_at hl 2 rfl) ?_
    refine lv_iconst (v := 0) hx hb dX6_trend_14 (by decide) ?_
    refine lv_iconst (v := 2) hx hb dX6_trend_15 (by decide) ?_
    refine mm_pure (As := [.int y, .int 0, .int 2]) ⟨hx, hb, hml, hown, hts⟩ (kX6_in l (y) (0) (2)) (va_cwS 3 hts gX6_trend_X6_in rfl rfl rfl (by decide +kernel) ⟨Nat.le_of_ble_eq_true rfl, Nat.le_of_ble_eq_true rfl⟩) hM hS rfl hl.1 (Nat.le_of_ble_eq_true rfl) dX6_trend_16 ⟨Nat.le_of_ble_eq_true rfl, Nat.le_of_ble_eq_true rfl⟩ rfl (fun r_ H locs hp hM hz hS => ?_)
    subst hp
    have hM : mm_W D d cB L m0 0 ρ A H := hM
    have hW := hM.2.1
    refine lv_if_ne (tgt := 28) hx hb dX6_trend_19 (by decide) (fun c_19 => ?_) (fun c_19 => ?_)
    · refine lv_iload_n hx hb dX6_trend_28 rfl (lv_at hl 3 rfl) ?_
      refine lv_bipush (v := (-40)) hx hb dX6_trend_29 (by decide) ?_
      refine lv_bipush (v := 40) hx hb dX6_trend_31 (by decide) ?_
      refine mm_pure (As := [.int z, .int (-40), .int 40]) ⟨hx, hb, hml, hown, hts⟩ (kX6_in l (z) ((-40)) (40)) (va_cwS 3 hts gX6_trend_X6_in rfl rfl rfl (by decide +kernel) ⟨Nat.le_of_ble_eq_true rfl, Nat.le_of_ble_eq_true rfl⟩) hM hS rfl hl.1 (Nat.le_of_ble_eq_true rfl) dX6_trend_33 ⟨Nat.le_of_ble_eq_true rfl, Nat.le_of_ble_eq_true rfl⟩ rfl (fun r_ H locs hp hM hz hS => ?_)
      subst hp
      have hM : mm_W D d cB L m0 0 ρ A H := hM
      have hW := hM.2.1
      refine lv_if_ne (tgt := 45) hx hb dX6_trend_36 (by decide) (fun c_36 => ?_) (fun c_36 => ?_)
      · obtain ⟨b, hb3, eb⟩ := mp_in_le (n := 2) (by decide) c_19
        subst eb
        have hb9 := hok.1
        obtain ⟨j, hj, ej⟩ := mp_in_ix (by omega) c_10
        subst ej
        refine lv_aload_n hx hb dX6_trend_45 rfl (lv_at hl 0 rfl) ?_
        refine mm_house hx hb hts (by decide +kernel) hown hKK.1 hM (hts (.fieldLink RX6 10 "WaxrowModel" "house" "LWaxrowModel$House;") (by decide +kernel)) dX6_trend_46 ?_
        have hW := hM.2.1
        refine mh_get hx hb hts (by decide +kernel) hown hKK.1 hW 0 (by decide) (hts (.fieldLink RX6 46 "WaxrowModel$House" "persons" "[[I") (by decide +kernel)) rfl (v := .ref (L 1 0)) rfl dX6_trend_49 ?_
        refine lv_iload_n hx hb dX6_trend_52 rfl (lv_at hl 1 rfl) ?_
        refine mh_aald hx hb hKK.2.1 hW 1 j (by decide) (by decide) (by show j < mh_n 1; unfold mh_n; simp; omega) dX6_trend_53 ?_
        refine lv_iconst (v := 3) hx hb dX6_trend_54 (by decide) ?_
        refine lv_iload_n hx hb dX6_trend_55 rfl (lv_at hl 2 rfl) ?_
        refine lv_iadd hx hb dX6_trend_56 ?_
        rw [show (3 : Int32) + nI b = nI (3 + b) from nI_add 3 b]
        refine mh_iald hx hb hKK.1 hW 11 j (by decide) (mh_ixR (k := 1) (by decide) (by decide) (by show j < mh_n 1; unfold mh_n; simp; omega)) (i := nI (3 + b)) (by unfold vp_in; exact nI_in (show 3 + b < 9 by omega) (by decide)) dX6_trend_57 ?_
        rw [show (nI (3 + b) : Int32).toNatClampNeg = 3 + b from nI_clamp (by omega)]
        refine lv_istore (lv' := [(4, .int (ρ 11 j (3 + b))), (0, .ref m0), (1, .int (nI j)), (2, .int (nI b)), (3, .int z)]) hx hb dX6_trend_58 hl (by decide) rfl (fun ls hl => ?_)
        refine lv_aload_n hx hb dX6_trend_60 rfl (lv_at hl 1 rfl) ?_
        refine mm_house hx hb hts (by decide +kernel) hown hKK.1 hM (hts (.fieldLink RX6 10 "WaxrowModel" "house" "LWaxrowModel$House;") (by decide +kernel)) dX6_trend_61 ?_
        have hW := hM.2.1
        refine mh_get hx hb hts (by decide +kernel) hown hKK.1 hW 0 (by decide) (hts (.fieldLink RX6 46 "WaxrowModel$House" "persons" "[[I") (by decide +kernel)) rfl (v := .ref (L 1 0)) rfl dX6_trend_64 ?_
        refine lv_iload_n hx hb dX6_trend_67 rfl (lv_at hl 2 rfl) ?_
        refine mh_aald hx hb hKK.2.1 hW 1 j (by decide) (by decide) (by show j < mh_n 1; unfold mh_n; simp; omega) dX6_trend_68 ?_
        refine lv_iconst (v := 3) hx hb dX6_trend_69 (by decide) ?_
        refine lv_iload_n hx hb dX6_trend_70 rfl (lv_at hl 3 rfl) ?_
        refine lv_iadd hx hb dX6_trend_71 ?_
        rw [show (3 : Int32) + nI b = nI (3 + b) from nI_add 3 b]
        refine lv_iload_n hx hb dX6_trend_72 rfl (lv_at hl 4 rfl) ?_
        have hW := hM.2.1
        refine mh_iast hx hb hKK.1 hW hS 11 j (by decide) (mh_ixR (k := 1) (by decide) (by decide) (by show j < mh_n 1; unfold mh_n; simp; omega)) (i := nI (3 + b)) (x := z) (by unfold vp_in; exact nI_in (show 3 + b < 9 by omega) (by decide)) dX6_trend_73 (fun H locs hW hS hz hq => ?_)
        rw [show (nI (3 + b) : Int32).toNatClampNeg = 3 + b from nI_clamp (by omega)] at hW
        have hW : mh_W D d.1 cB L (hs_sg ρ 11 j (3 + b) z) A H := hW
        have hM : mm_W D d cB L m0 0 (hs_sg ρ 11 j (3 + b) z) A H := ⟨hM.1.kept (hq _ (fun z => hM.2.2.2 11 j (mh_ixR (k := 1) (by decide) (by decide) (by show j < mh_n 1; unfold mh_n; simp; omega)) z.symm)), hW, hM.2.2⟩
        refine lv_iload hx hb dX6_trend_74 (lv_at hl 0 rfl) ?_
        exact W.iret (v := ρ 11 j (3 + b)) hx hb hr (fun t ht hW9 => ⟨⟨ρ 11 j (3 + b), (0, hs_sg ρ 11 j (3 + b) z), rfl, (by have hcl := nI_clamp (n := j) (by omega); have hcl2 := nI_clamp (n := b) (by omega); show if mp_in (nI j) 0 (nI P - 1) = 0 then _ else if mp_in (nI b) 0 2 = 0 then _ else if mp_in z (-40) 40 = 0 then _ else ρ 11 (nI j).toNatClampNeg (3 + (nI b).toNatClampNeg) = _ ∧ _ ∧ hs_sg ρ 11 (nI j).toNatClampNeg (3 + (nI b).toNatClampNeg) z = _; rw [if_neg c_10, if_neg c_19, if_neg c_36, hcl, hcl2]; exact ⟨rfl, rfl, rfl⟩), by show mm_W D d cB L m0 _ _ A t.heap; rw [ht]; exact hM⟩, hS.F ht⟩) hS.2.2 dX6_trend_76
      · refine lv_aload_n hx hb dX6_trend_39 rfl (lv_at hl 0 rfl) ?_
        refine lv_iconst (v := 2) hx hb dX6_trend_40 (by decide) ?_
        refine mm_calli (As := [.int 2]) ⟨hx, hb, hml, hown, hts⟩ (kX6_no l D d cB L m0 (0 : Int32) ρ A H.size 2) (cwV 1 hts gX6_trend_X6_no rfl rfl rfl (by decide +kernel) ⟨Nat.le_of_ble_eq_true rfl, Nat.le_of_ble_eq_true rfl⟩) hKK hM hS rfl hl.1 (Nat.le_of_ble_eq_true rfl) dX6_trend_41 ⟨Nat.le_of_ble_eq_true rfl, Nat.le_of_ble_eq_true rfl⟩ rfl (fun r_ X_ H locs hp hM hz hS => ?_)
        obtain ⟨t_, τ_⟩ := X_
        obtain ⟨e1_, e2_, e3_⟩ := hp
        have e2_ : (2 : Int32) = t_ := e2_
        have e3_ : ρ = τ_ := e3_
        subst e1_ e2_ e3_
        have hM : mm_W D d cB L m0 2 ρ A H := hM
        have hW := hM.2.1
        exact W.iret (v := 0) hx hb hr (fun t ht hW9 => ⟨⟨0, (2, ρ), rfl, (by show if mp_in x 0 (nI P - 1) = 0 then _ else if mp_in y 0 2 = 0 then _ else if mp_in z (-40) 40 = 0 then _ else _; rw [if_neg c_10, if_neg c_19, if_pos c_36]; exact ⟨rfl, rfl, rfl⟩), by show mm_W D d cB L m0 _ _ A t.heap; rw [ht]; exact hM⟩, hS.F ht⟩) hS.2.2 dX6_trend_44
    · refine lv_aload_n hx hb dX6_trend_22 rfl (lv_at hl 0 rfl) ?_
      refine lv_iconst (v := 1) hx hb dX6_trend_23 (by decide) ?_
      refine mm_calli (As := [.int 1]) ⟨hx, hb, hml, hown, hts⟩ (kX6_no l D d cB L m0 (0 : Int32) ρ A H.size 1) (cwV 1 hts gX6_trend_X6_no rfl rfl rfl (by decide +kernel) ⟨Nat.le_of_ble_eq_true rfl, Nat.le_of_ble_eq_true rfl⟩) hKK hM hS rfl hl.1 (Nat.le_of_ble_eq_true rfl) dX6_trend_24 ⟨Nat.le_of_ble_eq_true rfl, Nat.le_of_ble_eq_true rfl⟩ rfl (fun r_ X_ H locs hp hM hz hS => ?_)
      obtain ⟨t_, τ_⟩ := X_
      obtain ⟨e1_, e2_, e3_⟩ := hp
      have e2_ : (1 : Int32) = t_ := e2_
      have e3_ : ρ = τ_ := e3_
      subst e1_ e2_ e3_
      have hM : mm_W D d cB L m0 1 ρ A H := hM
      have hW := hM.2.1
      exact W.iret (v := 0) hx hb hr (fun t ht hW9 => ⟨⟨0, (1, ρ), rfl, (by show if mp_in x 0 (nI P - 1) = 0 then _ else if mp_in y 0 2 = 0 then _ else _; rw [if_neg c_10, if_pos c_19]; exact ⟨rfl, rfl, rfl⟩), by show mm_W D d cB L m0 _ _ A t.heap; rw [ht]; exact hM⟩, hS.F ht⟩) hS.2.2 dX6_trend_27
def mp_newR (ρ : hs_St) (R : Nat) (x y : Int32) : hs_St := hs_sg (hs_sg (hs_sg ρ 5 0 R x) 6 0 R y) 0 0 8 (nI R + 1)
set_option maxHeartbeats 4000000 in
set_option maxRecDepth 100000 in
/-- the reference: X6_room -/
theorem kX6_room (l : Launch) (D : va_G) (d : hs_Dm) (cB : ClassId) (L : hs_Lo) (m0 : Nat) (th : Int32) (ρ : hs_St) (A : Nat → Prop) (sz : Nat) (P F R : Nat) (hok : mh_ok P F R ρ) (x y : Int32) : mm_Mi l yX6_room wsX6_room ({ frames := 1, cells := 0, slots := 0, locals := 40 } : Room) D d cB L m0 th ρ A sz [.ref m0, .int x, .int y] (fun r X => if mp_in x 0 9 = 0 then (0 : Int32) = r ∧ (1 : Int32) = X.1 ∧ ρ = X.2 else if mp_in y 1 4 = 0 then (0 : Int32) = r ∧ (1 : Int32) = X.1 ∧ ρ = X.2 else if nI R = 5 then (0 : Int32) = r ∧ (2 : Int32) = X.1 ∧ ρ = X.2 else nI R = r ∧ (0 : Int32) = X.1 ∧ mp_newR ρ R x y = X.2) 0 0 := by
  refine Met.ofW (cc := cX6_room) (maxL := 3) (ret := (some .int)) (by decide) rfl ?_
  intro p e s m args below meth c0 s₁ B hml hv
  obtain ⟨rfl, hsz, hM, hKK⟩ := hv
  have hx := B.exec
  have hb := B.bytes
  have hr := B.returns
  have hts := atoms_spec (ws := wsX6_room) B.pre
  have hown : s.vm.findClass RX6 = some m.cls := findClass_of_methodNamed B.named
  have hlocks := B.notSynchronized
  have hS : va_S A s.heap s.heap [] := va_S.rf
  have hl := lv_entry ([.ref m0, .int x, .int y]) (n := 3) (Nat.le_of_ble_eq_true rfl)
  rw [lg_entry_eq]
  generalize (lg_sl ([.ref m0, .int x, .int y]) ++ List.replicate (3 - (lg_sl ([.ref m0, .int x, .int y])).length) Slot.unset).toArray = ls at hl ⊢
  have hl : lv_has ls 3 [(0, .ref m0), (1, .int x), (2, .int y)] := hl
  refine lv_aload_n hx hb dX6_room_0 rfl (lv_at hl 0 rfl) ?_
  refine lv_iconst (v := 0) hx hb dX6_room_1 (by decide) ?_
  refine mm_putt hx hb hts (by decide +kernel) hown hKK.1 hM hS (hts (.fieldLink RX6 16 "WaxrowModel" "thrown" "I") (by decide +kernel)) (0 : Int32) dX6_room_2 (fun H locs hM hS hz => ?_)
  have hM : mm_W D d cB L m0 0 ρ A H := hM
  have hW := hM.2.1
  refine lv_iload_n hx hb dX6_room_5 rfl (lv_at hl 1 rfl) ?_
  refine lv_iconst (v := 0) hx hb dX6_room_6 (by decide) ?_
  refine lv_bipush (v := 9) hx hb dX6_room_7 (by decide) ?_
  refine mm_pure (As := [.int x, .int 0, .int 9]) ⟨hx, hb, hml, hown, hts⟩ (kX6_in l (x) (0) (9)) (va_cwS 3 hts gX6_room_X6_in rfl rfl rfl (by decide +kernel) ⟨Nat.le_of_ble_eq_true rfl, Nat.le_of_ble_eq_true rfl⟩) hM hS rfl hl.1 (Nat.le_of_ble_eq_true rfl) dX6_room_9 ⟨Nat.le_of_ble_eq_true rfl, Nat.le_of_ble_eq_true rfl⟩ rfl (fun r_ H locs hp hM hz hS => ?_)
  subst hp
  have hM : mm_W D d cB L m0 0 ρ A H := hM
  have hW := hM.2.1
  refine lv_if_eq (tgt := 24) hx hb dX6_room_12 (by decide) (fun c_12 => ?_) (fun c_12 => ?_)
  · refine lv_aload_n hx hb dX6_room_24 rfl (lv_at hl 0 rfl) ?_
    refine lv_iconst (v := 1) hx hb dX6_room_25 (by decide) ?_
    refine mm_calli (As := [.int 1]) ⟨hx, hb, hml, hown, hts⟩ (kX6_no l D d cB L m0 (0 : Int32) ρ A H.size 1) (cwV 1 hts gX6_room_X6_no rfl rfl rfl (by decide +kernel) ⟨Nat.le_of_ble_eq_true rfl, Nat.le_of_ble_eq_true rfl⟩) hKK hM hS rfl hl.1 (Nat.le_of_ble_eq_true rfl) dX6_room_26 ⟨Nat.le_of_ble_eq_true rfl, Nat.le_of_ble_eq_true rfl⟩ rfl (fun r_ X_ H locs hp hM hz hS => ?_)
    obtain ⟨t_, τ_⟩ := X_
    obtain ⟨e1_, e2_, e3_⟩ := hp
    have e2_ : (1 : Int32) = t_ := e2_
    have e3_ : ρ = τ_ := e3_
    subst e1_ e2_ e3_
    have hM : mm_W D d cB L m0 1 ρ A H := hM
    have hW := hM.2.1
    exact W.iret (v := 0) hx hb hr (fun t ht hW9 => ⟨⟨0, (1, ρ), rfl, (by show if mp_in x 0 9 = 0 then _ else _; rw [if_pos c_12]; exact ⟨rfl, rfl, rfl⟩), by show mm_W D d cB L m0 _ _ A t.heap; rw [ht]; exact hM⟩, hS.F ht⟩) hS.2.2 dX6_room_29
  · refine lv_iload_n hx hb dX6_room_15 rfl (lv_at hl 2 rfl) ?_
    refine lv_iconst (v := 1) hx hb dX6_room_16 (by decide) ?_
    refine lv_iconst (v := 4) hx hb dX6_room_17 (by decide) ?_
    refine mm_pure (As := [.int y, .int 1, .int 4]) ⟨hx, hb, hml, hown, hts⟩ (kX6_in l (y) (1) (4)) (va_cwS 3 hts gX6_room_X6_in rfl rfl rfl (by decide +kernel) ⟨Nat.le_of_ble_eq_true rfl, Nat.le_of_ble_eq_true rfl⟩) hM hS rfl hl.1 (Nat.le_of_ble_eq_true rfl) dX6_room_18 ⟨Nat.le_of_ble_eq_true rfl, Nat.le_of_ble_eq_true rfl⟩ rfl (fun r_ H locs hp hM hz hS => ?_)
    subst hp
    have hM : mm_W D d cB L m0 0 ρ A H := hM
    have hW := hM.2.1
    refine lv_if_ne (tgt := 30) hx hb dX6_room_21 (by decide) (fun c_21 => ?_) (fun c_21 => ?_)
    · refine lv_aload_n hx hb dX6_room_30 rfl (lv_at hl 0 rfl) ?_
      refine mm_house hx hb hts (by decide +kernel) hown hKK.1 hM (hts (.fieldLink RX6 10 "WaxrowModel" "house" "LWaxrowModel$House;") (by decide +kernel)) dX6_room_31 ?_
      have hW := hM.2.1
      refine mh_get hx hb hts (by decide +kernel) hown hKK.1 hW 8 (by decide) (hts (.fieldLink RX6 39 "WaxrowModel$House" "roomCount" "I") (by decide +kernel)) rfl (v := .int (ρ 0 0 8)) rfl dX6_room_34 ?_
      rw [show ρ 0 0 8 = nI R from hok.2.2.2.2.2.1]
      refine lv_iconst (v := 5) hx hb dX6_room_37 (by decide) ?_
      refine lv_icmp_ne (tgt := 47) hx hb dX6_room_38 (by decide) (fun c_38 => ?_) (fun c_38 => ?_)
      · have hR4 : R < 5 := by have h5 := hok.2.2.1; have h6 : R ≠ 5 := (fun e9 => c_38 (by rw [e9]; rfl)); omega
        refine lv_aload_n hx hb dX6_room_47 rfl (lv_at hl 0 rfl) ?_
        refine mm_house hx hb hts (by decide +kernel) hown hKK.1 hM (hts (.fieldLink RX6 10 "WaxrowModel" "house" "LWaxrowModel$House;") (by decide +kernel)) dX6_room_48 ?_
        have hW := hM.2.1
        refine mh_get hx hb hts (by decide +kernel) hown hKK.1 hW 4 (by decide) (hts (.fieldLink RX6 102 "WaxrowModel$House" "lamps" "[I") (by decide +kernel)) rfl (v := .ref (L 5 0)) rfl dX6_room_51 ?_
        refine lv_aload_n hx hb dX6_room_54 rfl (lv_at hl 0 rfl) ?_
        refine mm_house hx hb hts (by decide +kernel) hown hKK.1 hM (hts (.fieldLink RX6 10 "WaxrowModel" "house" "LWaxrowModel$House;") (by decide +kernel)) dX6_room_55 ?_
        have hW := hM.2.1
        refine mh_get hx hb hts (by decide +kernel) hown hKK.1 hW 8 (by decide) (hts (.fieldLink RX6 39 "WaxrowModel$House" "roomCount" "I") (by decide +kernel)) rfl (v := .int (ρ 0 0 8)) rfl dX6_room_58 ?_
        rw [show ρ 0 0 8 = nI R from hok.2.2.2.2.2.1]
        refine lv_iload_n hx hb dX6_room_61 rfl (lv_at hl 1 rfl) ?_
        have hW := hM.2.1
        refine mh_iast hx hb hKK.1 hW hS 5 0 (by decide) (mh_ixO (by decide)) (i := nI R) (x := x) (by unfold vp_in; exact nI_in (show R < 5 by omega) (by decide)) dX6_room_62 (fun H locs hW hS hz hq => ?_)
        rw [show (nI R : Int32).toNatClampNeg = R from nI_clamp (by omega)] at hW
        have hW : mh_W D d.1 cB L (hs_sg ρ 5 0 R x) A H := hW
        have hM : mm_W D d cB L m0 0 (hs_sg ρ 5 0 R x) A H := ⟨hM.1.kept (hq _ (fun z => hM.2.2.2 5 0 (mh_ixO (by decide)) z.symm)), hW, hM.2.2⟩
        refine lv_aload_n hx hb dX6_room_63 rfl (lv_at hl 0 rfl) ?_
        refine mm_house hx hb hts (by decide +kernel) hown hKK.1 hM (hts (.fieldLink RX6 10 "WaxrowModel" "house" "LWaxrowModel$House;") (by decide +kernel)) dX6_room_64 ?_
        have hW := hM.2.1
        refine mh_get hx hb hts (by decide +kernel) hown hKK.1 hW 5 (by decide) (hts (.fieldLink RX6 106 "WaxrowModel$House" "spots" "[I") (by decide +kernel)) rfl (v := .ref (L 6 0)) rfl dX6_room_67 ?_
        refine lv_aload_n hx hb dX6_room_70 rfl (lv_at hl 0 rfl) ?_
        refine mm_house hx hb hts (by decide +kernel) hown hKK.1 hM (hts (.fieldLink RX6 10 "WaxrowModel" "house" "LWaxrowModel$House;") (by decide +kernel)) dX6_room_71 ?_
        have hW := hM.2.1
        refine mh_get hx hb hts (by decide +kernel) hown hKK.1 hW 8 (by decide) (hts (.fieldLink RX6 39 "WaxrowModel$House" "roomCount" "I") (by decide +kernel)) rfl (v := .int ((hs_sg ρ 5 0 R x) 0 0 8)) rfl dX6_room_74 ?_
        rw [show (hs_sg ρ 5 0 R x) 0 0 8 = nI R from by rw [pc9, if_neg (by omega)]; exact hok.2.2.2.2.2.1]
        refine lv_iload_n hx hb dX6_room_77 rfl (lv_at hl 2 rfl) ?_
        have hW := hM.2.1
        refine mh_iast hx hb hKK.1 hW hS 6 0 (by decide) (mh_ixO (by decide)) (i := nI R) (x := y) (by unfold vp_in; exact nI_in (show R < 5 by omega) (by decide)) dX6_room_78 (fun H locs hW hS hz hq => ?_)
        rw [show (nI R : Int32).toNatClampNeg = R from nI_clamp (by omega)] at hW
        have hW : mh_W D d.1 cB L (hs_sg (hs_sg ρ 5 0 R x) 6 0 R y) A H := hW
        have hM : mm_W D d cB L m0 0 (hs_sg (hs_sg ρ 5 0 R x) 6 0 R y) A H := ⟨hM.1.kept (hq _ (fun z => hM.2.2.2 6 0 (mh_ixO (by decide)) z.symm)), hW, hM.2.2⟩
        refine lv_aload_n hx hb dX6_room_79 rfl (lv_at hl 0 rfl) ?_
        refine mm_house hx hb hts (by decide +kernel) hown hKK.1 hM (hts (.fieldLink RX6 10 "WaxrowModel" "house" "LWaxrowModel$House;") (by decide +kernel)) dX6_room_80 ?_
        have hW := hM.2.1
        refine lv_dup hx hb dX6_room_83 rfl ?_
        refine mh_get hx hb hts (by decide +kernel) hown hKK.1 hW 8 (by decide) (hts (.fieldLink RX6 39 "WaxrowModel$House" "roomCount" "I") (by decide +kernel)) rfl (v := .int ((hs_sg (hs_sg ρ 5 0 R x) 6 0 R y) 0 0 8)) rfl dX6_room_84 ?_
        rw [show (hs_sg (hs_sg ρ 5 0 R x) 6 0 R y) 0 0 8 = nI R from by rw [pc9, if_neg (by omega), pc9, if_neg (by omega)]; exact hok.2.2.2.2.2.1]
        refine lv_dup_x1 hx hb dX6_room_87 rfl rfl ?_
        refine lv_iconst (v := 1) hx hb dX6_room_88 (by decide) ?_
        refine lv_iadd hx hb dX6_room_89 ?_
        have hW := hM.2.1
        refine mh_puti hx hb hts (by decide +kernel) hown hKK.1 hW hS 8 (by decide) (hts (.fieldLink RX6 39 "WaxrowModel$House" "roomCount" "I") (by decide +kernel)) rfl rfl ((nI R) + 1) (by decide +kernel) rfl dX6_room_90 (fun H locs hW hS hz hq => ?_)
        have hW : mh_W D d.1 cB L (hs_sg (hs_sg (hs_sg ρ 5 0 R x) 6 0 R y) 0 0 8 ((nI R) + 1)) A H := hW
        have hM : mm_W D d cB L m0 0 (hs_sg (hs_sg (hs_sg ρ 5 0 R x) 6 0 R y) 0 0 8 ((nI R) + 1)) A H := ⟨hM.1.kept (hq _ (fun z => hM.2.2.2 0 0 (mh_ixO (by decide)) z.symm)), hW, hM.2.2⟩
        exact W.iret (v := nI R) hx hb hr (fun t ht hW9 => ⟨⟨nI R, (0, hs_sg (hs_sg (hs_sg ρ 5 0 R x) 6 0 R y) 0 0 8 ((nI R) + 1)), rfl, (by show if mp_in x 0 9 = 0 then _ else if mp_in y 1 4 = 0 then _ else if nI R = 5 then _ else _; rw [if_neg c_12, if_neg c_21, if_neg c_38]; exact ⟨rfl, rfl, rfl⟩), by show mm_W D d cB L m0 _ _ A t.heap; rw [ht]; exact hM⟩, hS.F ht⟩) hS.2.2 dX6_room_93
      · refine lv_aload_n hx hb dX6_room_41 rfl (lv_at hl 0 rfl) ?_
        refine lv_iconst (v := 2) hx hb dX6_room_42 (by decide) ?_
        refine mm_calli (As := [.int 2]) ⟨hx, hb, hml, hown, hts⟩ (kX6_no l D d cB L m0 (0 : Int32) ρ A H.size 2) (cwV 1 hts gX6_room_X6_no rfl rfl rfl (by decide +kernel) ⟨Nat.le_of_ble_eq_true rfl, Nat.le_of_ble_eq_true rfl⟩) hKK hM hS rfl hl.1 (Nat.le_of_ble_eq_true rfl) dX6_room_43 ⟨Nat.le_of_ble_eq_true rfl, Nat.le_of_ble_eq_true rfl⟩ rfl (fun r_ X_ H locs hp hM hz hS => ?_)
        obtain ⟨t_, τ_⟩ := X_
        obtain ⟨e1_, e2_, e3_⟩ := hp
        have e2_ : (2 : Int32) = t_ := e2_
        have e3_ : ρ = τ_ := e3_
        subst e1_ e2_ e3_
        have hM : mm_W D d cB L m0 2 ρ A H := hM
        have hW := hM.2.1
        exact W.iret (v := 0) hx hb hr (fun t ht hW9 => ⟨⟨0, (2, ρ), rfl, (by show if mp_in x 0 9 = 0 then _ else if mp_in y 1 4 = 0 then _ else if nI R = 5 then _ else _; rw [if_neg c_12, if_neg c_21, if_pos c_38]; exact ⟨rfl, rfl, rfl⟩), by show mm_W D d cB L m0 _ _ A t.heap; rw [ht]; exact hM⟩, hS.F ht⟩) hS.2.2 dX6_room_46
    · refine lv_aload_n hx hb dX6_room_24 rfl (lv_at hl 0 rfl) ?_
      refine lv_iconst (v := 1) hx hb dX6_room_25 (by decide) ?_
      refine mm_calli (As := [.int 1]) ⟨hx, hb, hml, hown, hts⟩ (kX6_no l D d cB L m0 (0 : Int32) ρ A H.size 1) (cwV 1 hts gX6_room_X6_no rfl rfl rfl (by decide +kernel) ⟨Nat.le_of_ble_eq_true rfl, Nat.le_of_ble_eq_true rfl⟩) hKK hM hS rfl hl.1 (Nat.le_of_ble_eq_true rfl) dX6_room_26 ⟨Nat.le_of_ble_eq_true rfl, Nat.le_of_ble_eq_true rfl⟩ rfl (fun r_ X_ H locs hp hM hz hS => ?_)
      obtain ⟨t_, τ_⟩ := X_
      obtain ⟨e1_, e2_, e3_⟩ := hp
      have e2_ : (1 : Int32) = t_ := e2_
      have e3_ : ρ = τ_ := e3_
      subst e1_ e2_ e3_
      have hM : mm_W D d cB L m0 1 ρ A H := hM
      have hW := hM.2.1
      exact W.iret (v := 0) hx hb hr (fun t ht hW9 => ⟨⟨0, (1, ρ), rfl, (by show if mp_in x 0 9 = 0 then _ else if mp_in y 1 4 = 0 then _ else _; rw [if_neg c_12, if_pos c_21]; exact ⟨rfl, rfl, rfl⟩), by show mm_W D d cB L m0 _ _ A t.heap; rw [ht]; exact hM⟩, hS.F ht⟩) hS.2.2 dX6_room_29
def mp_hand (ρ : hs_St) (f : Nat) : Int32 := if mp_isDone ρ f = 0 then 0 else if ρ 14 f 7 = 5 then 1 else 0
set_option maxHeartbeats 4000000 in
set_option maxRecDepth 100000 in
/-- the reference: X6_isAtHand -/
theorem kX6_isAtHand (l : Launch) (D : va_G) (d : hs_Dm) (cB : ClassId) (L : hs_Lo) (m0 : Nat) (th : Int32) (ρ : hs_St) (A : Nat → Prop) (sz : Nat) (f : Nat) (hf : f < 8) : mm_Mi l yX6_isAtHand wsX6_isAtHand ({ frames := 1, cells := 0, slots := 0, locals := 40 } : Room) D d cB L m0 th ρ A sz [.ref m0, .ref (L 14 f)] (fun r X => mp_hand ρ f = r ∧ th = X.1 ∧ ρ = X.2) 0 0 := by
  refine Met.ofW (cc := cX6_isAtHand) (maxL := 2) (ret := (some .boolean)) (by decide) rfl ?_
  intro p e s m args below meth c0 s₁ B hml hv
  obtain ⟨rfl, hsz, hM, hKK⟩ := hv
  have hx := B.exec
  have hb := B.bytes
  have hr := B.returns
  have hts := atoms_spec (ws := wsX6_isAtHand) B.pre
  have hown : s.vm.findClass RX6 = some m.cls := findClass_of_methodNamed B.named
  have hlocks := B.notSynchronized
  have hS : va_S A s.heap s.heap [] := va_S.rf
  have hl := lv_entry ([.ref m0, .ref (L 14 f)]) (n := 2) (Nat.le_of_ble_eq_true rfl)
  rw [lg_entry_eq]
  generalize (lg_sl ([.ref m0, .ref (L 14 f)]) ++ List.replicate (2 - (lg_sl ([.ref m0, .ref (L 14 f)])).length) Slot.unset).toArray = ls at hl ⊢
  have hl : lv_has ls 2 [(0, .ref m0), (1, .ref (L 14 f))] := hl
  refine lv_aload_n hx hb dX6_isAtHand_0 rfl (lv_at hl 0 rfl) ?_
  refine mm_house hx hb hts (by decide +kernel) hown hKK.1 hM (hts (.fieldLink RX6 10 "WaxrowModel" "house" "LWaxrowModel$House;") (by decide +kernel)) dX6_isAtHand_1 ?_
  have hW := hM.2.1
  refine lv_aload_n hx hb dX6_isAtHand_4 rfl (lv_at hl 1 rfl) ?_
  refine mh_callo (As := [.ref (L 14 f)]) ⟨hx, hb, hml, hown, hts⟩ (kX5_isDone l D d cB L ρ (mh_own L) s.heap.size f hf) (cwV 1 hts gX6_isAtHand_X5_isDone rfl rfl rfl (by decide +kernel) ⟨Nat.le_of_ble_eq_true rfl, Nat.le_of_ble_eq_true rfl⟩) hKK hW hS rfl hl.1 (Nat.le_of_ble_eq_true rfl) dX6_isAtHand_5 ⟨Nat.le_of_ble_eq_true rfl, Nat.le_of_ble_eq_true rfl⟩ rfl (fun r_ τ_ H locs hp hW hz hqq hS => ?_)
  obtain ⟨e1_, e2_⟩ := hp
  subst e1_ e2_
  have hM : mm_W D d cB L m0 (th : Int32) ρ A H := ⟨hM.1.kept (hqq _ hM.1.lt (fun ⟨k9, i9, hx9, e9⟩ => hM.2.2.2 k9 i9 hx9 e9.symm)), hW, hM.2.2⟩
  refine lv_if_eq (tgt := 23) hx hb dX6_isAtHand_8 (by decide) (fun c_8 => ?_) (fun c_8 => ?_)
  · refine lv_iconst (v := 0) hx hb dX6_isAtHand_23 (by decide) ?_
    exact W.zret (v := 0) (ty := .boolean) hx hb hr rfl (fun t ht hW9 => ⟨⟨0, (th, ρ), rfl, (by refine ⟨?_, rfl, rfl⟩; unfold mp_hand; rw [if_pos c_8]), by show mm_W D d cB L m0 _ _ A t.heap; rw [ht]; exact hM⟩, hS.F ht⟩) hS.2.2 dX6_isAtHand_24
  · refine lv_aload_n hx hb dX6_isAtHand_11 rfl (lv_at hl 1 rfl) ?_
    refine lv_bipush (v := 7) hx hb dX6_isAtHand_12 (by decide) ?_
    refine mh_iald hx hb hKK.1 hW 14 f (by decide) (mh_ixR (k := 4) (by decide) (by decide) (by show f < mh_n 4; unfold mh_n; simp; omega)) (i := 7) (by unfold vp_in; decide) dX6_isAtHand_14 ?_
    rw [show (7 : Int32).toNatClampNeg = 7 from by decide]
    refine lv_iconst (v := 5) hx hb dX6_isAtHand_15 (by decide) ?_
    refine lv_icmp_ne (tgt := 23) hx hb dX6_isAtHand_16 (by decide) (fun c_16 => ?_) (fun c_16 => ?_)
    · refine lv_iconst (v := 0) hx hb dX6_isAtHand_23 (by decide) ?_
      exact W.zret (v := 0) (ty := .boolean) hx hb hr rfl (fun t ht hW9 => ⟨⟨0, (th, ρ), rfl, (by refine ⟨?_, rfl, rfl⟩; unfold mp_hand; rw [if_neg c_8, if_neg c_16]), by show mm_W D d cB L m0 _ _ A t.heap; rw [ht]; exact hM⟩, hS.F ht⟩) hS.2.2 dX6_isAtHand_24
    · refine lv_iconst (v := 1) hx hb dX6_isAtHand_19 (by decide) ?_
      refine lv_goto (tgt := 24) hx hb dX6_isAtHand_20 (by decide) ?_
      exact W.zret (v := 1) (ty := .boolean) hx hb hr rfl (fun t ht hW9 => ⟨⟨1, (th, ρ), rfl, (by refine ⟨?_, rfl, rfl⟩; unfold mp_hand; rw [if_neg c_8, if_pos c_16]), by show mm_W D d cB L m0 _ _ A t.heap; rw [ht]; exact hM⟩, hS.F ht⟩) hS.2.2 dX6_isAtHand_24
def mp_tens (ρ : hs_St) (f : Nat) : Int32 := mp_min (ρ 14 f 6 / 10) (ρ 0 0 13 / 10)
def mp_mend (ρ : hs_St) (f : Nat) : hs_St := hs_sg (hs_sg ρ 14 f 6 (ρ 14 f 6 - 10 * mp_tens ρ f)) 0 0 13 (ρ 0 0 13 - 10 * mp_tens ρ f)
set_option maxHeartbeats 4000000 in
set_option maxRecDepth 100000 in
/-- the reference: X6_mend -/
theorem kX6_mend (l : Launch) (D : va_G) (d : hs_Dm) (cB : ClassId) (L : hs_Lo) (m0 : Nat) (th : Int32) (ρ : hs_St) (A : Nat → Prop) (sz : Nat) (P F R : Nat) (hok : mh_ok P F R ρ) (x : Int32) : mm_Mi l yX6_mend wsX6_mend ({ frames := 3, cells := 0, slots := 0, locals := 70 } : Room) D d cB L m0 th ρ A sz [.ref m0, .int x] (fun r X => if mp_in x 0 (nI F - 1) = 0 then (0 : Int32) = r ∧ (1 : Int32) = X.1 ∧ ρ = X.2 else if mp_hand ρ x.toNatClampNeg = 0 then (0 : Int32) = r ∧ (2 : Int32) = X.1 ∧ ρ = X.2 else mp_mend ρ x.toNatClampNeg 14 x.toNatClampNeg 6 = r ∧ (0 : Int32) = X.1 ∧ mp_mend ρ x.toNatClampNeg = X.2) 0 0 := by
  refine Met.ofW (cc := cX6_mend) (maxL := 4) (ret := (some .int)) (by decide) rfl ?_
  intro p e s m args below meth c0 s₁ B hml hv
  obtain ⟨rfl, hsz, hM, hKK⟩ := hv
  have hx := B.exec
  have hb := B.bytes
  have hr := B.returns
  have hts := atoms_spec (ws := wsX6_mend) B.pre
  have hown : s.vm.findClass RX6 = some m.cls := findClass_of_methodNamed B.named
  have hlocks := B.notSynchronized
  have hS : va_S A s.heap s.heap [] := va_S.rf
  have hl := lv_entry ([.ref m0, .int x]) (n := 4) (Nat.le_of_ble_eq_true rfl)
  rw [lg_entry_eq]
  generalize (lg_sl ([.ref m0, .int x]) ++ List.replicate (4 - (lg_sl ([.ref m0, .int x])).length) Slot.unset).toArray = ls at hl ⊢
  have hl : lv_has ls 4 [(0, .ref m0), (1, .int x)] := hl
  refine lv_aload_n hx hb dX6_mend_0 rfl (lv_at hl 0 rfl) ?_
  refine lv_iconst (v := 0) hx hb dX6_mend_1 (by decide) ?_
  refine mm_putt hx hb hts (by decide +kernel) hown hKK.1 hM hS (hts (.fieldLink RX6 16 "WaxrowModel" "thrown" "I") (by decide +kernel)) (0 : Int32) dX6_mend_2 (fun H locs hM hS hz => ?_)
  have hM : mm_W D d cB L m0 0 ρ A H := hM
  have hW := hM.2.1
  refine lv_aload_n hx hb dX6_mend_5 rfl (lv_at hl 0 rfl) ?_
  refine lv_iload_n hx hb dX6_mend_6 rfl (lv_at hl 1 rfl) ?_
  refine mm_calli (As := [.int x]) ⟨hx, hb, hml, hown, hts⟩ (kX6_isFigure l D d cB L m0 (0 : Int32) ρ A H.size P F R hok x) (cwV 1 hts gX6_mend_X6_isFigure rfl rfl rfl (by decide +kernel) ⟨Nat.le_of_ble_eq_true rfl, Nat.le_of_ble_eq_true rfl⟩) hKK hM hS rfl hl.1 (Nat.le_of_ble_eq_true rfl) dX6_mend_7 ⟨Nat.le_of_ble_eq_true rfl, Nat.le_of_ble_eq_true rfl⟩ rfl (fun r_ X_ H locs hp hM hz hS => ?_)
  obtain ⟨t_, τ_⟩ := X_
  obtain ⟨e1_, e2_, e3_⟩ := hp
  have e2_ : (0 : Int32) = t_ := e2_
  have e3_ : ρ = τ_ := e3_
  subst e1_ e2_ e3_
  have hM : mm_W D d cB L m0 0 ρ A H := hM
  have hW := hM.2.1
  refine lv_if_ne (tgt := 19) hx hb dX6_mend_10 (by decide) (fun c_10 => ?_) (fun c_10 => ?_)
  · have hb9 := hok.2.1
    obtain ⟨j, hj, ej⟩ := mp_in_ix (by omega) c_10
    subst ej
    refine lv_aload_n hx hb dX6_mend_19 rfl (lv_at hl 0 rfl) ?_
    refine mm_house hx hb hts (by decide +kernel) hown hKK.1 hM (hts (.fieldLink RX6 10 "WaxrowModel" "house" "LWaxrowModel$House;") (by decide +kernel)) dX6_mend_20 ?_
    have hW := hM.2.1
    refine mh_get hx hb hts (by decide +kernel) hown hKK.1 hW 3 (by decide) (hts (.fieldLink RX6 60 "WaxrowModel$House" "figures" "[[I") (by decide +kernel)) rfl (v := .ref (L 4 0)) rfl dX6_mend_23 ?_
    refine lv_iload_n hx hb dX6_mend_26 rfl (lv_at hl 1 rfl) ?_
    refine mh_aald hx hb hKK.2.1 hW 4 j (by decide) (by decide) (by show j < mh_n 4; unfold mh_n; simp; omega) dX6_mend_27 ?_
    refine lv_astore_n (lv' := [(2, .ref (L 14 j)), (0, .ref m0), (1, .int (nI j))]) hx hb dX6_mend_28 rfl hl (by decide) rfl (fun ls hl => ?_)
    refine lv_aload_n hx hb dX6_mend_29 rfl (lv_at hl 1 rfl) ?_
    refine lv_aload_n hx hb dX6_mend_30 rfl (lv_at hl 0 rfl) ?_
    refine mm_calli (As := [.ref (L 14 j)]) ⟨hx, hb, hml, hown, hts⟩ (kX6_isAtHand l D d cB L m0 (0 : Int32) ρ A H.size j (by omega)) (cwV 1 hts gX6_mend_X6_isAtHand rfl rfl rfl (by decide +kernel) ⟨Nat.le_of_ble_eq_true rfl, Nat.le_of_ble_eq_true rfl⟩) hKK hM hS rfl hl.1 (Nat.le_of_ble_eq_true rfl) dX6_mend_31 ⟨Nat.le_of_ble_eq_true rfl, Nat.le_of_ble_eq_true rfl⟩ rfl (fun r_ X_ H locs hp hM hz hS => ?_)
    obtain ⟨t_, τ_⟩ := X_
    obtain ⟨e1_, e2_, e3_⟩ := hp
    have e2_ : (0 : Int32) = t_ := e2_
    have e3_ : ρ = τ_ := e3_
    subst e1_ e2_ e3_
    have hM : mm_W D d cB L m0 0 ρ A H := hM
    have hW := hM.2.1
    refine lv_if_ne (tgt := 43) hx hb dX6_mend_34 (by decide) (fun c_34 => ?_) (fun c_34 => ?_)
    · refine lv_aload_n hx hb dX6_mend_43 rfl (lv_at hl 0 rfl) ?_
      refine lv_bipush (v := 6) hx hb dX6_mend_44 (by decide) ?_
      refine mh_iald hx hb hKK.1 hW 14 j (by decide) (mh_ixR (k := 4) (by decide) (by decide) (by show j < mh_n 4; unfold mh_n; simp; omega)) (i := 6) (by unfold vp_in; decide) dX6_mend_46 ?_
      rw [show (6 : Int32).toNatClampNeg = 6 from by decide]
      refine lv_bipush (v := 10) hx hb dX6_mend_47 (by decide) ?_
      refine lv_idiv hx hb dX6_mend_49 (by decide) ?_
      refine lv_aload_n hx hb dX6_mend_50 rfl (lv_at hl 1 rfl) ?_
      refine mm_house hx hb hts (by decide +kernel) hown hKK.1 hM (hts (.fieldLink RX6 10 "WaxrowModel" "house" "LWaxrowModel$House;") (by decide +kernel)) dX6_mend_51 ?_
      have hW := hM.2.1
      refine mh_get hx hb hts (by decide +kernel) hown hKK.1 hW 13 (by decide) (hts (.fieldLink RX6 99 "WaxrowModel$House" "wax" "I") (by decide +kernel)) rfl (v := .int (ρ 0 0 13)) rfl dX6_mend_54 ?_
      refine lv_bipush (v := 10) hx hb dX6_mend_57 (by decide) ?_
      refine lv_idiv hx hb dX6_mend_59 (by decide) ?_
      refine va_mmin hx hb (by rw [hml]; exact hl.1.symm) hown (hts (.methodLink RX6 20 Lib.Math.min.name) (by decide +kernel)) (hts (.static Lib.Math.min.name) (by decide +kernel)) (hts (.initialized "java/lang/Math") (by decide +kernel)) (hts (.code Lib.Math.min.name Lib.Math.min.code 2 (some .int)) (by decide +kernel)) (Nat.le_of_ble_eq_true rfl) (Nat.le_of_ble_eq_true rfl) (Nat.zero_le _) (Nat.zero_le _) dX6_mend_60 ?_
      rw [show (if (ρ 0 0 13) / 10 < (ρ 14 j 6) / 10 then (ρ 0 0 13) / 10 else (ρ 14 j 6) / 10) = mp_tens ρ j from rfl]
      refine lv_istore_n (lv' := [(3, .int (mp_tens ρ j)), (2, .ref (L 14 j)), (0, .ref m0), (1, .int (nI j))]) hx hb dX6_mend_63 rfl hl (by decide) rfl (fun ls hl => ?_)
      refine lv_aload_n hx hb dX6_mend_64 rfl (lv_at hl 1 rfl) ?_
      refine lv_bipush (v := 6) hx hb dX6_mend_65 (by decide) ?_
      refine lv_dup2_11 hx hb dX6_mend_67 rfl rfl ?_
      refine mh_iald hx hb hKK.1 hW 14 j (by decide) (mh_ixR (k := 4) (by decide) (by decide) (by show j < mh_n 4; unfold mh_n; simp; omega)) (i := 6) (by unfold vp_in; decide) dX6_mend_68 ?_
      rw [show (6 : Int32).toNatClampNeg = 6 from by decide]
      refine lv_bipush (v := 10) hx hb dX6_mend_69 (by decide) ?_
      refine lv_iload_n hx hb dX6_mend_71 rfl (lv_at hl 0 rfl) ?_
      refine lv_imul hx hb dX6_mend_72 ?_
      refine lv_isub hx hb dX6_mend_73 ?_
      have hW := hM.2.1
      refine mh_iast hx hb hKK.1 hW hS 14 j (by decide) (mh_ixR (k := 4) (by decide) (by decide) (by show j < mh_n 4; unfold mh_n; simp; omega)) (i := 6) (x := (ρ 14 j 6) - (10 * (mp_tens ρ j))) (by unfold vp_in; decide) dX6_mend_74 (fun H locs hW hS hz hq => ?_)
      rw [show (6 : Int32).toNatClampNeg = 6 from by decide] at hW
      have hW : mh_W D d.1 cB L (hs_sg ρ 14 j 6 ((ρ 14 j 6) - (10 * (mp_tens ρ j)))) A H := hW
      have hM : mm_W D d cB L m0 0 (hs_sg ρ 14 j 6 ((ρ 14 j 6) - (10 * (mp_tens ρ j)))) A H := ⟨hM.1.kept (hq _ (fun z => hM.2.2.2 14 j (mh_ixR (k := 4) (by decide) (by decide) (by show j < mh_n 4; unfold mh_n; simp; omega)) z.symm)), hW, hM.2.2⟩
      refine lv_aload_n hx hb dX6_mend_75 rfl (lv_at hl 2 rfl) ?_
      refine mm_house hx hb hts (by decide +kernel) hown hKK.1 hM (hts (.fieldLink RX6 10 "WaxrowModel" "house" "LWaxrowModel$House;") (by decide +kernel)) dX6_mend_76 ?_
      have hW := hM.2.1
      refine lv_dup hx hb dX6_mend_79 rfl ?_
      refine mh_get hx hb hts (by decide +kernel) hown hKK.1 hW 13 (by decide) (hts (.fieldLink RX6 99 "WaxrowModel$House" "wax" "I") (by decide +kernel)) rfl (v := .int ((hs_sg ρ 14 j 6 ((ρ 14 j 6) - (10 * (mp_tens ρ j)))) 0 0 13)) rfl dX6_mend_80 ?_
      rw [show (hs_sg ρ 14 j 6 ((ρ 14 j 6) - (10 * (mp_tens ρ j)))) 0 0 13 = ρ 0 0 13 from by rw [pc9, if_neg (by omega)]]
      refine lv_bipush (v := 10) hx hb dX6_mend_83 (by decide) ?_
      refine lv_iload_n hx hb dX6_mend_85 rfl (lv_at hl 0 rfl) ?_
      refine lv_imul hx hb dX6_mend_86 ?_
      refine lv_isub hx hb dX6_mend_87 ?_
      have hW := hM.2.1
      refine mh_puti hx hb hts (by decide +kernel) hown hKK.1 hW hS 13 (by decide) (hts (.fieldLink RX6 99 "WaxrowModel$House" "wax" "I") (by decide +kernel)) rfl rfl ((ρ 0 0 13) - (10 * (mp_tens ρ j))) (by decide +kernel) rfl dX6_mend_88 (fun H locs hW hS hz hq => ?_)
      have hW : mh_W D d.1 cB L (hs_sg (hs_sg ρ 14 j 6 ((ρ 14 j 6) - (10 * (mp_tens ρ j)))) 0 0 13 ((ρ 0 0 13) - (10 * (mp_tens ρ j)))) A H := hW
      have hM : mm_W D d cB L m0 0 (hs_sg (hs_sg ρ 14 j 6 ((ρ 14 j 6) - (10 * (mp_tens ρ j)))) 0 0 13 ((ρ 0 0 13) - (10 * (mp_tens ρ j)))) A H := ⟨hM.1.kept (hq _ (fun z => hM.2.2.2 0 0 (mh_ixO (by decide)) z.symm)), hW, hM.2.2⟩
      refine lv_aload_n hx hb dX6_mend_91 rfl (lv_at hl 1 rfl) ?_
      refine lv_bipush (v := 6) hx hb dX6_mend_92 (by decide) ?_
      refine mh_iald hx hb hKK.1 hW 14 j (by decide) (mh_ixR (k := 4) (by decide) (by decide) (by show j < mh_n 4; unfold mh_n; simp; omega)) (i := 6) (by unfold vp_in; decide) dX6_mend_94 ?_
      rw [show (6 : Int32).toNatClampNeg = 6 from by decide]
      exact W.iret (v := (hs_sg (hs_sg ρ 14 j 6 ((ρ 14 j 6) - (10 * (mp_tens ρ j)))) 0 0 13 ((ρ 0 0 13) - (10 * (mp_tens ρ j)))) 14 j 6) hx hb hr (fun t ht hW9 => ⟨⟨(hs_sg (hs_sg ρ 14 j 6 ((ρ 14 j 6) - (10 * (mp_tens ρ j)))) 0 0 13 ((ρ 0 0 13) - (10 * (mp_tens ρ j)))) 14 j 6, (0, hs_sg (hs_sg ρ 14 j 6 ((ρ 14 j 6) - (10 * (mp_tens ρ j)))) 0 0 13 ((ρ 0 0 13) - (10 * (mp_tens ρ j)))), rfl, (by have hcl := nI_clamp (n := j) (by omega); show if mp_in (nI j) 0 (nI F - 1) = 0 then _ else if mp_hand ρ (nI j).toNatClampNeg = 0 then _ else mp_mend ρ (nI j).toNatClampNeg 14 (nI j).toNatClampNeg 6 = _ ∧ _ ∧ mp_mend ρ (nI j).toNatClampNeg = _; rw [if_neg c_10, hcl, if_neg c_34]; exact ⟨rfl, rfl, rfl⟩), by show mm_W D d cB L m0 _ _ A t.heap; rw [ht]; exact hM⟩, hS.F ht⟩) hS.2.2 dX6_mend_95
    · refine lv_aload_n hx hb dX6_mend_37 rfl (lv_at hl 1 rfl) ?_
      refine lv_iconst (v := 2) hx hb dX6_mend_38 (by decide) ?_
      refine mm_calli (As := [.int 2]) ⟨hx, hb, hml, hown, hts⟩ (kX6_no l D d cB L m0 (0 : Int32) ρ A H.size 2) (cwV 1 hts gX6_mend_X6_no rfl rfl rfl (by decide +kernel) ⟨Nat.le_of_ble_eq_true rfl, Nat.le_of_ble_eq_true rfl⟩) hKK hM hS rfl hl.1 (Nat.le_of_ble_eq_true rfl) dX6_mend_39 ⟨Nat.le_of_ble_eq_true rfl, Nat.le_of_ble_eq_true rfl⟩ rfl (fun r_ X_ H locs hp hM hz hS => ?_)
      obtain ⟨t_, τ_⟩ := X_
      obtain ⟨e1_, e2_, e3_⟩ := hp
      have e2_ : (2 : Int32) = t_ := e2_
      have e3_ : ρ = τ_ := e3_
      subst e1_ e2_ e3_
      have hM : mm_W D d cB L m0 2 ρ A H := hM
      have hW := hM.2.1
      exact W.iret (v := 0) hx hb hr (fun t ht hW9 => ⟨⟨0, (2, ρ), rfl, (by have hcl := nI_clamp (n := j) (by omega); show if mp_in (nI j) 0 (nI F - 1) = 0 then _ else if mp_hand ρ (nI j).toNatClampNeg = 0 then _ else mp_mend ρ (nI j).toNatClampNeg 14 (nI j).toNatClampNeg 6 = _ ∧ _ ∧ mp_mend ρ (nI j).toNatClampNeg = _; rw [if_neg c_10, hcl, if_pos c_34]; exact ⟨rfl, rfl, rfl⟩), by show mm_W D d cB L m0 _ _ A t.heap; rw [ht]; exact hM⟩, hS.F ht⟩) hS.2.2 dX6_mend_42
  · refine lv_aload_n hx hb dX6_mend_13 rfl (lv_at hl 0 rfl) ?_
    refine lv_iconst (v := 1) hx hb dX6_mend_14 (by decide) ?_
    refine mm_calli (As := [.int 1]) ⟨hx, hb, hml, hown, hts⟩ (kX6_no l D d cB L m0 (0 : Int32) ρ A H.size 1) (cwV 1 hts gX6_mend_X6_no rfl rfl rfl (by decide +kernel) ⟨Nat.le_of_ble_eq_true rfl, Nat.le_of_ble_eq_true rfl⟩) hKK hM hS rfl hl.1 (Nat.le_of_ble_eq_true rfl) dX6_mend_15 ⟨Nat.le_of_ble_eq_true rfl, Nat.le_of_ble_eq_true rfl⟩ rfl (fun r_ X_ H locs hp hM hz hS => ?_)
    obtain ⟨t_, τ_⟩ := X_
    obtain ⟨e1_, e2_, e3_⟩ := hp
    have e2_ : (1 : Int32) = t_ := e2_
    have e3_ : ρ = τ_ := e3_
    subst e1_ e2_ e3_
    have hM : mm_W D d cB L m0 1 ρ A H := hM
    have hW := hM.2.1
    exact W.iret (v := 0) hx hb hr (fun t ht hW9 => ⟨⟨0, (1, ρ), rfl, (by show if mp_in x 0 (nI F - 1) = 0 then _ else _; rw [if_pos c_10]; exact ⟨rfl, rfl, rfl⟩), by show mm_W D d cB L m0 _ _ A t.heap; rw [ht]; exact hM⟩, hS.F ht⟩) hS.2.2 dX6_mend_18
