/-! THE REFERENCE where nobody is told: calls that do something -/
set_option maxHeartbeats 4000000 in
set_option maxRecDepth 100000 in
/-- the reference: person, out of bounds -/
theorem rX6_person_bad (l : Launch) (D : va_G) (cI cB : ClassId) (sz : Nat) (x0 x1 a0 a1 a2 a3 a4 a5 : Nat) (t k u v : Int32) (A : Nat → Prop) (hD : va_D A [(x0, .inr (cRm, [.int t, .ref x1])), (x1, .inr (cRh, [.ref a0, .ref a1, .ref a2, .ref a3, .ref a4, .ref a5, .int 0, .int 0, .int 0, .int 0, .int 0, .int 5, .int 200, .int 30]))]) (h0 : sp_in k 0 999 = 0 ∨ sp_in u 0 999 = 0 ∨ sp_in v 0 999 = 0) : rf_Mi l yX6_person wsX6_person ({ frames := 1, cells := 0, slots := 0, locals := 44 }) D [(cI, .int), (cB, .array .int)] sz [(x0, .inr (cRm, [.int t, .ref x1])), (x1, .inr (cRh, [.ref a0, .ref a1, .ref a2, .ref a3, .ref a4, .ref a5, .int 0, .int 0, .int 0, .int 0, .int 0, .int 5, .int 200, .int 30]))] [(x0, .inr (cRm, [.int 1, .ref x1]))] A [.ref x0, .int k, .int u, .int v] (fun r => r = 0) 0 0 := by
  refine Met.ofW (cc := cX6_person) (maxL := 6) (ret := (some .int)) (by decide) rfl ?_
  intro p e s m args below meth c s₁ B hml hv
  obtain ⟨rfl, hsz, hP, hK⟩ := hv
  have hx := B.exec
  have hb := B.bytes
  have hr := B.returns
  have hts := atoms_spec (ws := wsX6_person) B.pre
  have hown : s.vm.findClass RX6 = some m.cls := findClass_of_methodNamed B.named
  have hlocks := B.notSynchronized
  have hS : va_S A s.heap s.heap [] := va_S.rf
  have hP : va_P D vwCl [(x0, .inr (cRm, [.int t, .ref x1])), (x1, .inr (cRh, [.ref a0, .ref a1, .ref a2, .ref a3, .ref a4, .ref a5, .int 0, .int 0, .int 0, .int 0, .int 0, .int 5, .int 200, .int 30]))] s.heap := hP
  have hl := lv_entry ([.ref x0, .int k, .int u, .int v]) (n := 6) (Nat.le_of_ble_eq_true rfl)
  rw [lg_entry_eq]
  generalize (lg_sl ([.ref x0, .int k, .int u, .int v]) ++ List.replicate (6 - (lg_sl ([.ref x0, .int k, .int u, .int v])).length) Slot.unset).toArray = ls at hl ⊢
  have hl : lv_has ls 6 [(0, .ref x0), (1, .int k), (2, .int u), (3, .int v)] := hl
  refine lv_aload_n hx hb dX6_person_0 rfl (lv_at hl 0 rfl) ?_
  refine lv_iconst (v := 0) hx hb dX6_person_1 (by decide) ?_
  refine va_put (ci := cRm) (C := RX6) (T := TX6) (N := 2) (ty := .int) hx hb hts (by decide +kernel) tyX6 tyX6_ok nmX6 hown hK hP hD hS 0 rfl rfl 0 (by decide) (hts (.fieldLink RX6 16 "WaxrowModel" "thrown" "I") (by decide +kernel)) (fun _ h9 => h9) rfl (by decide +kernel) rfl rfl (Nat.le_of_ble_eq_true rfl) dX6_person_2 (fun H locs hP hD hS => ?_)
  have hP : va_P D vwCl [(x0, .inr (cRm, [.int 0, .ref x1])), (x1, .inr (cRh, [.ref a0, .ref a1, .ref a2, .ref a3, .ref a4, .ref a5, .int 0, .int 0, .int 0, .int 0, .int 0, .int 5, .int 200, .int 30]))] H := hP
  have hD : va_D A [(x0, .inr (cRm, [.int 0, .ref x1])), (x1, .inr (cRh, [.ref a0, .ref a1, .ref a2, .ref a3, .ref a4, .ref a5, .int 0, .int 0, .int 0, .int 0, .int 0, .int 5, .int 200, .int 30]))] := hD
  refine lv_iload_n hx hb dX6_person_5 rfl (lv_at hl 1 rfl) ?_
  refine lv_iconst (v := 0) hx hb dX6_person_6 (by decide) ?_
  refine lv_sipush (v := 999) hx hb dX6_person_7 (by decide) ?_
  refine rf_runR (As := [.int k, .int 0, .int 999]) ⟨hx, hb, hml, hown, hts⟩ (rX6_in l k 0 999) (va_cwS 3 hts gX6_person_X6_in rfl rfl rfl (by decide +kernel) ⟨Nat.le_of_ble_eq_true rfl, Nat.le_of_ble_eq_true rfl⟩) hP hS rfl hl.1 (Nat.le_of_ble_eq_true rfl) dX6_person_10 ⟨Nat.le_of_ble_eq_true rfl, Nat.le_of_ble_eq_true rfl⟩ rfl (fun r_ H locs hp hP hS => ?_)
  obtain rfl := hp
  have hP : va_P D vwCl [(x0, .inr (cRm, [.int 0, .ref x1])), (x1, .inr (cRh, [.ref a0, .ref a1, .ref a2, .ref a3, .ref a4, .ref a5, .int 0, .int 0, .int 0, .int 0, .int 0, .int 5, .int 200, .int 30]))] H := hP
  refine lv_if_eq (tgt := 38) hx hb dX6_person_13 (by decide) (fun c_13 => ?_) (fun c_13 => ?_)
  · refine lv_aload_n hx hb dX6_person_38 rfl (lv_at hl 0 rfl) ?_
    refine lv_iconst (v := 1) hx hb dX6_person_39 (by decide) ?_
    refine rf_callW (As := [.int 1]) (V := [(x0, .inr (cRm, [.int 0, .ref x1]))]) (V2 := [(x0, .inr (cRm, [.int 1, .ref x1]))]) (q0 := 0) (ci := cRm) (r := (RX6, TX6, 2)) ⟨hx, hb, hml, hown, hts⟩ (rX6_no l D cI cB H.size x0 x1 0 1 A (hD.sub [0] (by decide) rfl)) (cwV 1 hts gX6_person_X6_no rfl rfl rfl (by decide +kernel) ⟨Nat.le_of_ble_eq_true rfl, Nat.le_of_ble_eq_true rfl⟩) hK hP (hP.sub [0] rfl) hS rfl rfl rfl rfl hl.1 (Nat.le_of_ble_eq_true rfl) dX6_person_40 ⟨Nat.le_of_ble_eq_true rfl, Nat.le_of_ble_eq_true rfl⟩ rfl (fun r_ H locs hp hP hS => ?_)
    subst hp
    have hP : va_P D vwCl [(x0, .inr (cRm, [.int 1, .ref x1]))] H := hP
    exact W.iret (v := 0) hx hb hr (fun U9 ht hW9 => ⟨⟨0, (), rfl, rfl, by show va_P D vwCl _ U9.heap; rw [ht]; exact hP.sub [0] rfl⟩, hS.F ht⟩) hS.2.2 dX6_person_43
  · refine lv_iload_n hx hb dX6_person_16 rfl (lv_at hl 2 rfl) ?_
    refine lv_iconst (v := 0) hx hb dX6_person_17 (by decide) ?_
    refine lv_sipush (v := 999) hx hb dX6_person_18 (by decide) ?_
    refine rf_runR (As := [.int u, .int 0, .int 999]) ⟨hx, hb, hml, hown, hts⟩ (rX6_in l u 0 999) (va_cwS 3 hts gX6_person_X6_in rfl rfl rfl (by decide +kernel) ⟨Nat.le_of_ble_eq_true rfl, Nat.le_of_ble_eq_true rfl⟩) hP hS rfl hl.1 (Nat.le_of_ble_eq_true rfl) dX6_person_21 ⟨Nat.le_of_ble_eq_true rfl, Nat.le_of_ble_eq_true rfl⟩ rfl (fun r_ H locs hp hP hS => ?_)
    obtain rfl := hp
    have hP : va_P D vwCl [(x0, .inr (cRm, [.int 0, .ref x1])), (x1, .inr (cRh, [.ref a0, .ref a1, .ref a2, .ref a3, .ref a4, .ref a5, .int 0, .int 0, .int 0, .int 0, .int 0, .int 5, .int 200, .int 30]))] H := hP
    refine lv_if_eq (tgt := 38) hx hb dX6_person_24 (by decide) (fun c_24 => ?_) (fun c_24 => ?_)
    · refine lv_aload_n hx hb dX6_person_38 rfl (lv_at hl 0 rfl) ?_
      refine lv_iconst (v := 1) hx hb dX6_person_39 (by decide) ?_
      refine rf_callW (As := [.int 1]) (V := [(x0, .inr (cRm, [.int 0, .ref x1]))]) (V2 := [(x0, .inr (cRm, [.int 1, .ref x1]))]) (q0 := 0) (ci := cRm) (r := (RX6, TX6, 2)) ⟨hx, hb, hml, hown, hts⟩ (rX6_no l D cI cB H.size x0 x1 0 1 A (hD.sub [0] (by decide) rfl)) (cwV 1 hts gX6_person_X6_no rfl rfl rfl (by decide +kernel) ⟨Nat.le_of_ble_eq_true rfl, Nat.le_of_ble_eq_true rfl⟩) hK hP (hP.sub [0] rfl) hS rfl rfl rfl rfl hl.1 (Nat.le_of_ble_eq_true rfl) dX6_person_40 ⟨Nat.le_of_ble_eq_true rfl, Nat.le_of_ble_eq_true rfl⟩ rfl (fun r_ H locs hp hP hS => ?_)
      subst hp
      have hP : va_P D vwCl [(x0, .inr (cRm, [.int 1, .ref x1]))] H := hP
      exact W.iret (v := 0) hx hb hr (fun U9 ht hW9 => ⟨⟨0, (), rfl, rfl, by show va_P D vwCl _ U9.heap; rw [ht]; exact hP.sub [0] rfl⟩, hS.F ht⟩) hS.2.2 dX6_person_43
    · refine lv_iload_n hx hb dX6_person_27 rfl (lv_at hl 3 rfl) ?_
      refine lv_iconst (v := 0) hx hb dX6_person_28 (by decide) ?_
      refine lv_sipush (v := 999) hx hb dX6_person_29 (by decide) ?_
      refine rf_runR (As := [.int v, .int 0, .int 999]) ⟨hx, hb, hml, hown, hts⟩ (rX6_in l v 0 999) (va_cwS 3 hts gX6_person_X6_in rfl rfl rfl (by decide +kernel) ⟨Nat.le_of_ble_eq_true rfl, Nat.le_of_ble_eq_true rfl⟩) hP hS rfl hl.1 (Nat.le_of_ble_eq_true rfl) dX6_person_32 ⟨Nat.le_of_ble_eq_true rfl, Nat.le_of_ble_eq_true rfl⟩ rfl (fun r_ H locs hp hP hS => ?_)
      obtain rfl := hp
      have hP : va_P D vwCl [(x0, .inr (cRm, [.int 0, .ref x1])), (x1, .inr (cRh, [.ref a0, .ref a1, .ref a2, .ref a3, .ref a4, .ref a5, .int 0, .int 0, .int 0, .int 0, .int 0, .int 5, .int 200, .int 30]))] H := hP
      refine lv_if_ne (tgt := 44) hx hb dX6_person_35 (by decide) (fun c_35 => ?_) (fun c_35 => ?_)
      · exact (h0.elim c_13 (fun h => h.elim c_24 c_35)).elim
      · refine lv_aload_n hx hb dX6_person_38 rfl (lv_at hl 0 rfl) ?_
        refine lv_iconst (v := 1) hx hb dX6_person_39 (by decide) ?_
        refine rf_callW (As := [.int 1]) (V := [(x0, .inr (cRm, [.int 0, .ref x1]))]) (V2 := [(x0, .inr (cRm, [.int 1, .ref x1]))]) (q0 := 0) (ci := cRm) (r := (RX6, TX6, 2)) ⟨hx, hb, hml, hown, hts⟩ (rX6_no l D cI cB H.size x0 x1 0 1 A (hD.sub [0] (by decide) rfl)) (cwV 1 hts gX6_person_X6_no rfl rfl rfl (by decide +kernel) ⟨Nat.le_of_ble_eq_true rfl, Nat.le_of_ble_eq_true rfl⟩) hK hP (hP.sub [0] rfl) hS rfl rfl rfl rfl hl.1 (Nat.le_of_ble_eq_true rfl) dX6_person_40 ⟨Nat.le_of_ble_eq_true rfl, Nat.le_of_ble_eq_true rfl⟩ rfl (fun r_ H locs hp hP hS => ?_)
        subst hp
        have hP : va_P D vwCl [(x0, .inr (cRm, [.int 1, .ref x1]))] H := hP
        exact W.iret (v := 0) hx hb hr (fun U9 ht hW9 => ⟨⟨0, (), rfl, rfl, by show va_P D vwCl _ U9.heap; rw [ht]; exact hP.sub [0] rfl⟩, hS.F ht⟩) hS.2.2 dX6_person_43
set_option maxHeartbeats 4000000 in
set_option maxRecDepth 100000 in
/-- the reference: person -/
theorem rX6_person_ok (l : Launch) (D : va_G) (cI cB : ClassId) (sz : Nat) (x0 x1 a0 a1 a2 a3 a4 a5 : Nat) (r0 r2 : Nat) (f0 f2 : Nat → Option Nat) (g0 g2 : Nat → Int32) (hf0 : f0 (0 : Int32).toNatClampNeg = some r0) (hf2 : f2 (0 : Int32).toNatClampNeg = some r2) (t k u v : Int32) (A : Nat → Prop) (hD : va_D A [(x0, .inr (cRm, [.int t, .ref x1])), (x1, .inr (cRh, [.ref a0, .ref a1, .ref a2, .ref a3, .ref a4, .ref a5, .int 0, .int 0, .int 0, .int 0, .int 0, .int 5, .int 200, .int 30])), (a0, .inl (cB, 10, .inr (.inr (.inr (.inr f0))))), (r0, .inl (cI, 9, .inl g0)), (a2, .inl (cB, 10, .inr (.inr (.inr (.inr f2))))), (r2, .inl (cI, 6, .inl g2))]) (h1 : sp_in k 0 999 = 1) (h2 : sp_in u 0 999 = 1) (h3 : sp_in v 0 999 = 1) : rf_Mi l yX6_person wsX6_person ({ frames := 1, cells := 0, slots := 0, locals := 44 }) D [(cI, .int), (cB, .array .int)] sz [(x0, .inr (cRm, [.int t, .ref x1])), (x1, .inr (cRh, [.ref a0, .ref a1, .ref a2, .ref a3, .ref a4, .ref a5, .int 0, .int 0, .int 0, .int 0, .int 0, .int 5, .int 200, .int 30])), (a0, .inl (cB, 10, .inr (.inr (.inr (.inr f0))))), (r0, .inl (cI, 9, .inl g0)), (a2, .inl (cB, 10, .inr (.inr (.inr (.inr f2))))), (r2, .inl (cI, 6, .inl g2))] [(x0, .inr (cRm, [.int 0, .ref x1]))] A [.ref x0, .int k, .int u, .int v] (fun r => r = 0) 0 0 := by
  refine Met.ofW (cc := cX6_person) (maxL := 6) (ret := (some .int)) (by decide) rfl ?_
  intro p e s m args below meth c s₁ B hml hv
  obtain ⟨rfl, hsz, hP, hK⟩ := hv
  have hx := B.exec
  have hb := B.bytes
  have hr := B.returns
  have hts := atoms_spec (ws := wsX6_person) B.pre
  have hown : s.vm.findClass RX6 = some m.cls := findClass_of_methodNamed B.named
  have hlocks := B.notSynchronized
  have hS : va_S A s.heap s.heap [] := va_S.rf
  have hP : va_P D vwCl [(x0, .inr (cRm, [.int t, .ref x1])), (x1, .inr (cRh, [.ref a0, .ref a1, .ref a2, .ref a3, .ref a4, .ref a5, .int 0, .int 0, .int 0, .int 0, .int 0, .int 5, .int 200, .int 30])), (a0, .inl (cB, 10, .inr (.inr (.inr (.inr f0))))), (r0, .inl (cI, 9, .inl g0)), (a2, .inl (cB, 10, .inr (.inr (.inr (.inr f2))))), (r2, .inl (cI, 6, .inl g2))] s.heap := hP
  have hl := lv_entry ([.ref x0, .int k, .int u, .int v]) (n := 6) (Nat.le_of_ble_eq_true rfl)
  rw [lg_entry_eq]
  generalize (lg_sl ([.ref x0, .int k, .int u, .int v]) ++ List.replicate (6 - (lg_sl ([.ref x0, .int k, .int u, .int v])).length) Slot.unset).toArray = ls at hl ⊢
  have hl : lv_has ls 6 [(0, .ref x0), (1, .int k), (2, .int u), (3, .int v)] := hl
  refine lv_aload_n hx hb dX6_person_0 rfl (lv_at hl 0 rfl) ?_
  refine lv_iconst (v := 0) hx hb dX6_person_1 (by decide) ?_
  refine va_put (ci := cRm) (C := RX6) (T := TX6) (N := 2) (ty := .int) hx hb hts (by decide +kernel) tyX6 tyX6_ok nmX6 hown hK hP hD hS 0 rfl rfl 0 (by decide) (hts (.fieldLink RX6 16 "WaxrowModel" "thrown" "I") (by decide +kernel)) (fun _ h9 => h9) rfl (by decide +kernel) rfl rfl (Nat.le_of_ble_eq_true rfl) dX6_person_2 (fun H locs hP hD hS => ?_)
  have hP : va_P D vwCl [(x0, .inr (cRm, [.int 0, .ref x1])), (x1, .inr (cRh, [.ref a0, .ref a1, .ref a2, .ref a3, .ref a4, .ref a5, .int 0, .int 0, .int 0, .int 0, .int 0, .int 5, .int 200, .int 30])), (a0, .inl (cB, 10, .inr (.inr (.inr (.inr f0))))), (r0, .inl (cI, 9, .inl g0)), (a2, .inl (cB, 10, .inr (.inr (.inr (.inr f2))))), (r2, .inl (cI, 6, .inl g2))] H := hP
  have hD : va_D A [(x0, .inr (cRm, [.int 0, .ref x1])), (x1, .inr (cRh, [.ref a0, .ref a1, .ref a2, .ref a3, .ref a4, .ref a5, .int 0, .int 0, .int 0, .int 0, .int 0, .int 5, .int 200, .int 30])), (a0, .inl (cB, 10, .inr (.inr (.inr (.inr f0))))), (r0, .inl (cI, 9, .inl g0)), (a2, .inl (cB, 10, .inr (.inr (.inr (.inr f2))))), (r2, .inl (cI, 6, .inl g2))] := hD
  refine lv_iload_n hx hb dX6_person_5 rfl (lv_at hl 1 rfl) ?_
  refine lv_iconst (v := 0) hx hb dX6_person_6 (by decide) ?_
  refine lv_sipush (v := 999) hx hb dX6_person_7 (by decide) ?_
  refine rf_runR (As := [.int k, .int 0, .int 999]) ⟨hx, hb, hml, hown, hts⟩ (rX6_in l k 0 999) (va_cwS 3 hts gX6_person_X6_in rfl rfl rfl (by decide +kernel) ⟨Nat.le_of_ble_eq_true rfl, Nat.le_of_ble_eq_true rfl⟩) hP hS rfl hl.1 (Nat.le_of_ble_eq_true rfl) dX6_person_10 ⟨Nat.le_of_ble_eq_true rfl, Nat.le_of_ble_eq_true rfl⟩ rfl (fun r_ H locs hp hP hS => ?_)
  obtain rfl := hp
  have hP : va_P D vwCl [(x0, .inr (cRm, [.int 0, .ref x1])), (x1, .inr (cRh, [.ref a0, .ref a1, .ref a2, .ref a3, .ref a4, .ref a5, .int 0, .int 0, .int 0, .int 0, .int 0, .int 5, .int 200, .int 30])), (a0, .inl (cB, 10, .inr (.inr (.inr (.inr f0))))), (r0, .inl (cI, 9, .inl g0)), (a2, .inl (cB, 10, .inr (.inr (.inr (.inr f2))))), (r2, .inl (cI, 6, .inl g2))] H := hP
  refine lv_if_eq (tgt := 38) hx hb dX6_person_13 (by decide) (fun c_13 => ?_) (fun c_13 => ?_)
  · exact absurd (h1.symm.trans c_13) (by decide)
  · refine lv_iload_n hx hb dX6_person_16 rfl (lv_at hl 2 rfl) ?_
    refine lv_iconst (v := 0) hx hb dX6_person_17 (by decide) ?_
    refine lv_sipush (v := 999) hx hb dX6_person_18 (by decide) ?_
    refine rf_runR (As := [.int u, .int 0, .int 999]) ⟨hx, hb, hml, hown, hts⟩ (rX6_in l u 0 999) (va_cwS 3 hts gX6_person_X6_in rfl rfl rfl (by decide +kernel) ⟨Nat.le_of_ble_eq_true rfl, Nat.le_of_ble_eq_true rfl⟩) hP hS rfl hl.1 (Nat.le_of_ble_eq_true rfl) dX6_person_21 ⟨Nat.le_of_ble_eq_true rfl, Nat.le_of_ble_eq_true rfl⟩ rfl (fun r_ H locs hp hP hS => ?_)
    obtain rfl := hp
    have hP : va_P D vwCl [(x0, .inr (cRm, [.int 0, .ref x1])), (x1, .inr (cRh, [.ref a0, .ref a1, .ref a2, .ref a3, .ref a4, .ref a5, .int 0, .int 0, .int 0, .int 0, .int 0, .int 5, .int 200, .int 30])), (a0, .inl (cB, 10, .inr (.inr (.inr (.inr f0))))), (r0, .inl (cI, 9, .inl g0)), (a2, .inl (cB, 10, .inr (.inr (.inr (.inr f2))))), (r2, .inl (cI, 6, .inl g2))] H := hP
    refine lv_if_eq (tgt := 38) hx hb dX6_person_24 (by decide) (fun c_24 => ?_) (fun c_24 => ?_)
    · exact absurd (h2.symm.trans c_24) (by decide)
    · refine lv_iload_n hx hb dX6_person_27 rfl (lv_at hl 3 rfl) ?_
      refine lv_iconst (v := 0) hx hb dX6_person_28 (by decide) ?_
      refine lv_sipush (v := 999) hx hb dX6_person_29 (by decide) ?_
      refine rf_runR (As := [.int v, .int 0, .int 999]) ⟨hx, hb, hml, hown, hts⟩ (rX6_in l v 0 999) (va_cwS 3 hts gX6_person_X6_in rfl rfl rfl (by decide +kernel) ⟨Nat.le_of_ble_eq_true rfl, Nat.le_of_ble_eq_true rfl⟩) hP hS rfl hl.1 (Nat.le_of_ble_eq_true rfl) dX6_person_32 ⟨Nat.le_of_ble_eq_true rfl, Nat.le_of_ble_eq_true rfl⟩ rfl (fun r_ H locs hp hP hS => ?_)
      obtain rfl := hp
      have hP : va_P D vwCl [(x0, .inr (cRm, [.int 0, .ref x1])), (x1, .inr (cRh, [.ref a0, .ref a1, .ref a2, .ref a3, .ref a4, .ref a5, .int 0, .int 0, .int 0, .int 0, .int 0, .int 5, .int 200, .int 30])), (a0, .inl (cB, 10, .inr (.inr (.inr (.inr f0))))), (r0, .inl (cI, 9, .inl g0)), (a2, .inl (cB, 10, .inr (.inr (.inr (.inr f2))))), (r2, .inl (cI, 6, .inl g2))] H := hP
      refine lv_if_ne (tgt := 44) hx hb dX6_person_35 (by decide) (fun c_35 => ?_) (fun c_35 => ?_)
      · refine lv_aload_n hx hb dX6_person_44 rfl (lv_at hl 0 rfl) ?_
        refine va_get (D := D) (ci := cRm) (C := RX6) (T := TX6) (N := 2) (v := .ref x1) hx hb hts (by decide +kernel) hown hK hP 0 rfl rfl 1 (by decide) (hts (.fieldLink RX6 10 "WaxrowModel" "house" "LWaxrowModel$House;") (by decide +kernel)) (fun _ h9 => h9) rfl dX6_person_45 ?_
        refine va_get (D := D) (ci := cRh) (C := RX5) (T := TX5) (N := 14) (v := .int 0) hx hb hts (by decide +kernel) hown hK hP 1 rfl rfl 6 (by decide) (hts (.fieldLink RX6 29 "WaxrowModel$House" "personCount" "I") (by decide +kernel)) (fun _ h9 => h9) rfl dX6_person_48 ?_
        refine lv_bipush (v := 10) hx hb dX6_person_51 (by decide) ?_
        refine lv_icmp_ne (tgt := 62) hx hb dX6_person_53 (by decide) (fun c_53 => ?_) (fun c_53 => ?_)
        · refine lv_aload_n hx hb dX6_person_62 rfl (lv_at hl 0 rfl) ?_
          refine va_get (D := D) (ci := cRm) (C := RX6) (T := TX6) (N := 2) (v := .ref x1) hx hb hts (by decide +kernel) hown hK hP 0 rfl rfl 1 (by decide) (hts (.fieldLink RX6 10 "WaxrowModel" "house" "LWaxrowModel$House;") (by decide +kernel)) (fun _ h9 => h9) rfl dX6_person_63 ?_
          refine va_get (D := D) (ci := cRh) (C := RX5) (T := TX5) (N := 14) (v := .ref a0) hx hb hts (by decide +kernel) hown hK hP 1 rfl rfl 0 (by decide) (hts (.fieldLink RX6 46 "WaxrowModel$House" "persons" "[[I") (by decide +kernel)) (fun _ h9 => h9) rfl dX6_person_66 ?_
          refine lv_aload_n hx hb dX6_person_69 rfl (lv_at hl 0 rfl) ?_
          refine va_get (D := D) (ci := cRm) (C := RX6) (T := TX6) (N := 2) (v := .ref x1) hx hb hts (by decide +kernel) hown hK hP 0 rfl rfl 1 (by decide) (hts (.fieldLink RX6 10 "WaxrowModel" "house" "LWaxrowModel$House;") (by decide +kernel)) (fun _ h9 => h9) rfl dX6_person_70 ?_
          refine va_get (D := D) (ci := cRh) (C := RX5) (T := TX5) (N := 14) (v := .int 0) hx hb hts (by decide +kernel) hown hK hP 1 rfl rfl 6 (by decide) (hts (.fieldLink RX6 29 "WaxrowModel$House" "personCount" "I") (by decide +kernel)) (fun _ h9 => h9) rfl dX6_person_73 ?_
          refine rf_aald (n := 10) (f := f0) (ad := r0) hx hb hK hP 2 1 rfl rfl (by unfold vp_in; decide) hf0 dX6_person_76 ?_
          refine lv_astore (lv' := [(4, .ref r0), (0, .ref x0), (1, .int k), (2, .int u), (3, .int v)]) hx hb dX6_person_77 hl (by decide) rfl (fun ls hl => ?_)
          refine lv_aload hx hb dX6_person_79 (lv_at hl 0 rfl) ?_
          refine lv_iconst (v := 0) hx hb dX6_person_81 (by decide) ?_
          refine lv_iload_n hx hb dX6_person_82 rfl (lv_at hl 2 rfl) ?_
          refine va_iast (x := k) (i := 0) (n := 9) (f := g0) hx hb hK hP hD hS 3 0 rfl rfl (show vp_in (0 : Int32) 9 from (by unfold vp_in; decide)) dX6_person_83 (fun H locs hP hD hS => ?_)
          have hP : va_P D vwCl [(x0, .inr (cRm, [.int 0, .ref x1])), (x1, .inr (cRh, [.ref a0, .ref a1, .ref a2, .ref a3, .ref a4, .ref a5, .int 0, .int 0, .int 0, .int 0, .int 0, .int 5, .int 200, .int 30])), (a0, .inl (cB, 10, .inr (.inr (.inr (.inr f0))))), (r0, .inl (cI, 9, .inl (upd (g0) (0 : Int32).toNatClampNeg k))), (a2, .inl (cB, 10, .inr (.inr (.inr (.inr f2))))), (r2, .inl (cI, 6, .inl g2))] H := hP
          have hD : va_D A [(x0, .inr (cRm, [.int 0, .ref x1])), (x1, .inr (cRh, [.ref a0, .ref a1, .ref a2, .ref a3, .ref a4, .ref a5, .int 0, .int 0, .int 0, .int 0, .int 0, .int 5, .int 200, .int 30])), (a0, .inl (cB, 10, .inr (.inr (.inr (.inr f0))))), (r0, .inl (cI, 9, .inl (upd (g0) (0 : Int32).toNatClampNeg k))), (a2, .inl (cB, 10, .inr (.inr (.inr (.inr f2))))), (r2, .inl (cI, 6, .inl g2))] := hD
          refine lv_aload hx hb dX6_person_84 (lv_at hl 0 rfl) ?_
          refine lv_iconst (v := 1) hx hb dX6_person_86 (by decide) ?_
          refine lv_iload_n hx hb dX6_person_87 rfl (lv_at hl 3 rfl) ?_
          refine va_iast (x := u) (i := 1) (n := 9) (f := upd (g0) (0 : Int32).toNatClampNeg k) hx hb hK hP hD hS 3 0 rfl rfl (show vp_in (1 : Int32) 9 from (by unfold vp_in; decide)) dX6_person_88 (fun H locs hP hD hS => ?_)
          have hP : va_P D vwCl [(x0, .inr (cRm, [.int 0, .ref x1])), (x1, .inr (cRh, [.ref a0, .ref a1, .ref a2, .ref a3, .ref a4, .ref a5, .int 0, .int 0, .int 0, .int 0, .int 0, .int 5, .int 200, .int 30])), (a0, .inl (cB, 10, .inr (.inr (.inr (.inr f0))))), (r0, .inl (cI, 9, .inl (upd (upd (g0) (0 : Int32).toNatClampNeg k) (1 : Int32).toNatClampNeg u))), (a2, .inl (cB, 10, .inr (.inr (.inr (.inr f2))))), (r2, .inl (cI, 6, .inl g2))] H := hP
          have hD : va_D A [(x0, .inr (cRm, [.int 0, .ref x1])), (x1, .inr (cRh, [.ref a0, .ref a1, .ref a2, .ref a3, .ref a4, .ref a5, .int 0, .int 0, .int 0, .int 0, .int 0, .int 5, .int 200, .int 30])), (a0, .inl (cB, 10, .inr (.inr (.inr (.inr f0))))), (r0, .inl (cI, 9, .inl (upd (upd (g0) (0 : Int32).toNatClampNeg k) (1 : Int32).toNatClampNeg u))), (a2, .inl (cB, 10, .inr (.inr (.inr (.inr f2))))), (r2, .inl (cI, 6, .inl g2))] := hD
          refine lv_aload hx hb dX6_person_89 (lv_at hl 0 rfl) ?_
          refine lv_iconst (v := 2) hx hb dX6_person_91 (by decide) ?_
          refine lv_iload_n hx hb dX6_person_92 rfl (lv_at hl 4 rfl) ?_
          refine va_iast (x := v) (i := 2) (n := 9) (f := upd (upd (g0) (0 : Int32).toNatClampNeg k) (1 : Int32).toNatClampNeg u) hx hb hK hP hD hS 3 0 rfl rfl (show vp_in (2 : Int32) 9 from (by unfold vp_in; decide)) dX6_person_93 (fun H locs hP hD hS => ?_)
          have hP : va_P D vwCl [(x0, .inr (cRm, [.int 0, .ref x1])), (x1, .inr (cRh, [.ref a0, .ref a1, .ref a2, .ref a3, .ref a4, .ref a5, .int 0, .int 0, .int 0, .int 0, .int 0, .int 5, .int 200, .int 30])), (a0, .inl (cB, 10, .inr (.inr (.inr (.inr f0))))), (r0, .inl (cI, 9, .inl (upd (upd (upd (g0) (0 : Int32).toNatClampNeg k) (1 : Int32).toNatClampNeg u) (2 : Int32).toNatClampNeg v))), (a2, .inl (cB, 10, .inr (.inr (.inr (.inr f2))))), (r2, .inl (cI, 6, .inl g2))] H := hP
          have hD : va_D A [(x0, .inr (cRm, [.int 0, .ref x1])), (x1, .inr (cRh, [.ref a0, .ref a1, .ref a2, .ref a3, .ref a4, .ref a5, .int 0, .int 0, .int 0, .int 0, .int 0, .int 5, .int 200, .int 30])), (a0, .inl (cB, 10, .inr (.inr (.inr (.inr f0))))), (r0, .inl (cI, 9, .inl (upd (upd (upd (g0) (0 : Int32).toNatClampNeg k) (1 : Int32).toNatClampNeg u) (2 : Int32).toNatClampNeg v))), (a2, .inl (cB, 10, .inr (.inr (.inr (.inr f2))))), (r2, .inl (cI, 6, .inl g2))] := hD
          refine lv_iconst (v := 0) hx hb dX6_person_94 (by decide) ?_
          refine lv_istore (lv' := [(5, .int 0), (4, .ref r0), (0, .ref x0), (1, .int k), (2, .int u), (3, .int v)]) hx hb dX6_person_95 hl (by decide) rfl (fun ls hl => ?_)
          refine lv_iload hx hb dX6_person_97 (lv_at hl 0 rfl) ?_
          refine lv_bipush (v := 6) hx hb dX6_person_99 (by decide) ?_
          refine lv_icmp_ge (tgt := 130) hx hb dX6_person_101 (by decide) (fun c_101 => ?_) (fun c_101 => ?_)
          · exact absurd c_101 (by decide +kernel)
          · refine lv_aload_n hx hb dX6_person_104 rfl (lv_at hl 2 rfl) ?_
            refine va_get (D := D) (ci := cRm) (C := RX6) (T := TX6) (N := 2) (v := .ref x1) hx hb hts (by decide +kernel) hown hK hP 0 rfl rfl 1 (by decide) (hts (.fieldLink RX6 10 "WaxrowModel" "house" "LWaxrowModel$House;") (by decide +kernel)) (fun _ h9 => h9) rfl dX6_person_105 ?_
            refine va_get (D := D) (ci := cRh) (C := RX5) (T := TX5) (N := 14) (v := .ref a2) hx hb hts (by decide +kernel) hown hK hP 1 rfl rfl 2 (by decide) (hts (.fieldLink RX6 50 "WaxrowModel$House" "high" "[[I") (by decide +kernel)) (fun _ h9 => h9) rfl dX6_person_108 ?_
            refine lv_aload_n hx hb dX6_person_111 rfl (lv_at hl 2 rfl) ?_
            refine va_get (D := D) (ci := cRm) (C := RX6) (T := TX6) (N := 2) (v := .ref x1) hx hb hts (by decide +kernel) hown hK hP 0 rfl rfl 1 (by decide) (hts (.fieldLink RX6 10 "WaxrowModel" "house" "LWaxrowModel$House;") (by decide +kernel)) (fun _ h9 => h9) rfl dX6_person_112 ?_
            refine va_get (D := D) (ci := cRh) (C := RX5) (T := TX5) (N := 14) (v := .int 0) hx hb hts (by decide +kernel) hown hK hP 1 rfl rfl 6 (by decide) (hts (.fieldLink RX6 29 "WaxrowModel$House" "personCount" "I") (by decide +kernel)) (fun _ h9 => h9) rfl dX6_person_115 ?_
            refine rf_aald (n := 10) (f := f2) (ad := r2) hx hb hK hP 4 1 rfl rfl (by unfold vp_in; decide) hf2 dX6_person_118 ?_
            refine lv_iload hx hb dX6_person_119 (lv_at hl 0 rfl) ?_
            refine lv_bipush (v := 99) hx hb dX6_person_121 (by decide) ?_
            refine va_iast (x := 99) (i := 0) (n := 6) (f := g2) hx hb hK hP hD hS 5 0 rfl rfl (show vp_in (0 : Int32) 6 from (by unfold vp_in; decide)) dX6_person_123 (fun H locs hP hD hS => ?_)
            have hP : va_P D vwCl [(x0, .inr (cRm, [.int 0, .ref x1])), (x1, .inr (cRh, [.ref a0, .ref a1, .ref a2, .ref a3, .ref a4, .ref a5, .int 0, .int 0, .int 0, .int 0, .int 0, .int 5, .int 200, .int 30])), (a0, .inl (cB, 10, .inr (.inr (.inr (.inr f0))))), (r0, .inl (cI, 9, .inl (upd (upd (upd (g0) (0 : Int32).toNatClampNeg k) (1 : Int32).toNatClampNeg u) (2 : Int32).toNatClampNeg v))), (a2, .inl (cB, 10, .inr (.inr (.inr (.inr f2))))), (r2, .inl (cI, 6, .inl (upd (g2) (0 : Int32).toNatClampNeg 99)))] H := hP
            have hD : va_D A [(x0, .inr (cRm, [.int 0, .ref x1])), (x1, .inr (cRh, [.ref a0, .ref a1, .ref a2, .ref a3, .ref a4, .ref a5, .int 0, .int 0, .int 0, .int 0, .int 0, .int 5, .int 200, .int 30])), (a0, .inl (cB, 10, .inr (.inr (.inr (.inr f0))))), (r0, .inl (cI, 9, .inl (upd (upd (upd (g0) (0 : Int32).toNatClampNeg k) (1 : Int32).toNatClampNeg u) (2 : Int32).toNatClampNeg v))), (a2, .inl (cB, 10, .inr (.inr (.inr (.inr f2))))), (r2, .inl (cI, 6, .inl (upd (g2) (0 : Int32).toNatClampNeg 99)))] := hD
            refine lv_iinc (v := 1) (lv' := [(5, .int 1), (4, .ref r0), (0, .ref x0), (1, .int k), (2, .int u), (3, .int v)]) hx hb dX6_person_124 hl (k := 0) rfl (by decide) (by decide) rfl (fun ls hl => ?_)
            refine lv_goto (tgt := 97) hx hb dX6_person_127 (by decide) ?_
            refine lv_iload hx hb dX6_person_97 (lv_at hl 0 rfl) ?_
            refine lv_bipush (v := 6) hx hb dX6_person_99 (by decide) ?_
            refine lv_icmp_ge (tgt := 130) hx hb dX6_person_101 (by decide) (fun c_101 => ?_) (fun c_101 => ?_)
            · exact absurd c_101 (by decide +kernel)
            · refine lv_aload_n hx hb dX6_person_104 rfl (lv_at hl 2 rfl) ?_
              refine va_get (D := D) (ci := cRm) (C := RX6) (T := TX6) (N := 2) (v := .ref x1) hx hb hts (by decide +kernel) hown hK hP 0 rfl rfl 1 (by decide) (hts (.fieldLink RX6 10 "WaxrowModel" "house" "LWaxrowModel$House;") (by decide +kernel)) (fun _ h9 => h9) rfl dX6_person_105 ?_
              refine va_get (D := D) (ci := cRh) (C := RX5) (T := TX5) (N := 14) (v := .ref a2) hx hb hts (by decide +kernel) hown hK hP 1 rfl rfl 2 (by decide) (hts (.fieldLink RX6 50 "WaxrowModel$House" "high" "[[I") (by decide +kernel)) (fun _ h9 => h9) rfl dX6_person_108 ?_
              refine lv_aload_n hx hb dX6_person_111 rfl (lv_at hl 2 rfl) ?_
              refine va_get (D := D) (ci := cRm) (C := RX6) (T := TX6) (N := 2) (v := .ref x1) hx hb hts (by decide +kernel) hown hK hP 0 rfl rfl 1 (by decide) (hts (.fieldLink RX6 10 "WaxrowModel" "house" "LWaxrowModel$House;") (by decide +kernel)) (fun _ h9 => h9) rfl dX6_person_112 ?_
              refine va_get (D := D) (ci := cRh) (C := RX5) (T := TX5) (N := 14) (v := .int 0) hx hb hts (by decide +kernel) hown hK hP 1 rfl rfl 6 (by decide) (hts (.fieldLink RX6 29 "WaxrowModel$House" "personCount" "I") (by decide +kernel)) (fun _ h9 => h9) rfl dX6_person_115 ?_
              refine rf_aald (n := 10) (f := f2) (ad := r2) hx hb hK hP 4 1 rfl rfl (by unfold vp_in; decide) hf2 dX6_person_118 ?_
              refine lv_iload hx hb dX6_person_119 (lv_at hl 0 rfl) ?_
              refine lv_bipush (v := 99) hx hb dX6_person_121 (by decide) ?_
              refine va_iast (x := 99) (i := 1) (n := 6) (f := upd (g2) (0 : Int32).toNatClampNeg 99) hx hb hK hP hD hS 5 0 rfl rfl (show vp_in (1 : Int32) 6 from (by unfold vp_in; decide)) dX6_person_123 (fun H locs hP hD hS => ?_)
              have hP : va_P D vwCl [(x0, .inr (cRm, [.int 0, .ref x1])), (x1, .inr (cRh, [.ref a0, .ref a1, .ref a2, .ref a3, .ref a4, .ref a5, .int 0, .int 0, .int 0, .int 0, .int 0, .int 5, .int 200, .int 30])), (a0, .inl (cB, 10, .inr (.inr (.inr (.inr f0))))), (r0, .inl (cI, 9, .inl (upd (upd (upd (g0) (0 : Int32).toNatClampNeg k) (1 : Int32).toNatClampNeg u) (2 : Int32).toNatClampNeg v))), (a2, .inl (cB, 10, .inr (.inr (.inr (.inr f2))))), (r2, .inl (cI, 6, .inl (upd (upd (g2) (0 : Int32).toNatClampNeg 99) (1 : Int32).toNatClampNeg 99)))] H := hP
              have hD : va_D A [(x0, .inr (cRm, [.int 0, .ref x1])), (x1, .inr (cRh, [.ref a0, .ref a1, .ref a2, .ref a3, .ref a4, .ref a5, .int 0, .int 0, .int 0, .int 0, .int 0, .int 5, .int 200, .int 30])), (a0, .inl (cB, 10, .inr (.inr (.inr (.inr f0))))), (r0, .inl (cI, 9, .inl (upd (upd (upd (g0) (0 : Int32).toNatClampNeg k) (1 : Int32).toNatClampNeg u) (2 : Int32).toNatClampNeg v))), (a2, .inl (cB, 10, .inr (.inr (.inr (.inr f2))))), (r2, .inl (cI, 6, .inl (upd (upd (g2) (0 : Int32).toNatClampNeg 99) (1 : Int32).toNatClampNeg 99)))] := hD
              refine lv_iinc (v := 2) (lv' := [(5, .int 2), (4, .ref r0), (0, .ref x0), (1, .int k), (2, .int u), (3, .int v)]) hx hb dX6_person_124 hl (k := 0) rfl (by decide) (by decide) rfl (fun ls hl => ?_)
              refine lv_goto (tgt := 97) hx hb dX6_person_127 (by decide) ?_
              refine lv_iload hx hb dX6_person_97 (lv_at hl 0 rfl) ?_
              refine lv_bipush (v := 6) hx hb dX6_person_99 (by decide) ?_
              refine lv_icmp_ge (tgt := 130) hx hb dX6_person_101 (by decide) (fun c_101 => ?_) (fun c_101 => ?_)
              · exact absurd c_101 (by decide +kernel)
              · refine lv_aload_n hx hb dX6_person_104 rfl (lv_at hl 2 rfl) ?_
                refine va_get (D := D) (ci := cRm) (C := RX6) (T := TX6) (N := 2) (v := .ref x1) hx hb hts (by decide +kernel) hown hK hP 0 rfl rfl 1 (by decide) (hts (.fieldLink RX6 10 "WaxrowModel" "house" "LWaxrowModel$House;") (by decide +kernel)) (fun _ h9 => h9) rfl dX6_person_105 ?_
                refine va_get (D := D) (ci := cRh) (C := RX5) (T := TX5) (N := 14) (v := .ref a2) hx hb hts (by decide +kernel) hown hK hP 1 rfl rfl 2 (by decide) (hts (.fieldLink RX6 50 "WaxrowModel$House" "high" "[[I") (by decide +kernel)) (fun _ h9 => h9) rfl dX6_person_108 ?_
                refine lv_aload_n hx hb dX6_person_111 rfl (lv_at hl 2 rfl) ?_
                refine va_get (D := D) (ci := cRm) (C := RX6) (T := TX6) (N := 2) (v := .ref x1) hx hb hts (by decide +kernel) hown hK hP 0 rfl rfl 1 (by decide) (hts (.fieldLink RX6 10 "WaxrowModel" "house" "LWaxrowModel$House;") (by decide +kernel)) (fun _ h9 => h9) rfl dX6_person_112 ?_
                refine va_get (D := D) (ci := cRh) (C := RX5) (T := TX5) (N := 14) (v := .int 0) hx hb hts (by decide +kernel) hown hK hP 1 rfl rfl 6 (by decide) (hts (.fieldLink RX6 29 "WaxrowModel$House" "personCount" "I") (by decide +kernel)) (fun _ h9 => h9) rfl dX6_person_115 ?_
                refine rf_aald (n := 10) (f := f2) (ad := r2) hx hb hK hP 4 1 rfl rfl (by unfold vp_in; decide) hf2 dX6_person_118 ?_
                refine lv_iload hx hb dX6_person_119 (lv_at hl 0 rfl) ?_
                refine lv_bipush (v := 99) hx hb dX6_person_121 (by decide) ?_
                refine va_iast (x := 99) (i := 2) (n := 6) (f := upd (upd (g2) (0 : Int32).toNatClampNeg 99) (1 : Int32).toNatClampNeg 99) hx hb hK hP hD hS 5 0 rfl rfl (show vp_in (2 : Int32) 6 from (by unfold vp_in; decide)) dX6_person_123 (fun H locs hP hD hS => ?_)
                have hP : va_P D vwCl [(x0, .inr (cRm, [.int 0, .ref x1])), (x1, .inr (cRh, [.ref a0, .ref a1, .ref a2, .ref a3, .ref a4, .ref a5, .int 0, .int 0, .int 0, .int 0, .int 0, .int 5, .int 200, .int 30])), (a0, .inl (cB, 10, .inr (.inr (.inr (.inr f0))))), (r0, .inl (cI, 9, .inl (upd (upd (upd (g0) (0 : Int32).toNatClampNeg k) (1 : Int32).toNatClampNeg u) (2 : Int32).toNatClampNeg v))), (a2, .inl (cB, 10, .inr (.inr (.inr (.inr f2))))), (r2, .inl (cI, 6, .inl (upd (upd (upd (g2) (0 : Int32).toNatClampNeg 99) (1 : Int32).toNatClampNeg 99) (2 : Int32).toNatClampNeg 99)))] H := hP
                have hD : va_D A [(x0, .inr (cRm, [.int 0, .ref x1])), (x1, .inr (cRh, [.ref a0, .ref a1, .ref a2, .ref a3, .ref a4, .ref a5, .int 0, .int 0, .int 0, .int 0, .int 0, .int 5, .int 200, .int 30])), (a0, .inl (cB, 10, .inr (.inr (.inr (.inr f0))))), (r0, .inl (cI, 9, .inl (upd (upd (upd (g0) (0 : Int32).toNatClampNeg k) (1 : Int32).toNatClampNeg u) (2 : Int32).toNatClampNeg v))), (a2, .inl (cB, 10, .inr (.inr (.inr (.inr f2))))), (r2, .inl (cI, 6, .inl (upd (upd (upd (g2) (0 : Int32).toNatClampNeg 99) (1 : Int32).toNatClampNeg 99) (2 : Int32).toNatClampNeg 99)))] := hD
                refine lv_iinc (v := 3) (lv' := [(5, .int 3), (4, .ref r0), (0, .ref x0), (1, .int k), (2, .int u), (3, .int v)]) hx hb dX6_person_124 hl (k := 0) rfl (by decide) (by decide) rfl (fun ls hl => ?_)
                refine lv_goto (tgt := 97) hx hb dX6_person_127 (by decide) ?_
                refine lv_iload hx hb dX6_person_97 (lv_at hl 0 rfl) ?_
                refine lv_bipush (v := 6) hx hb dX6_person_99 (by decide) ?_
                refine lv_icmp_ge (tgt := 130) hx hb dX6_person_101 (by decide) (fun c_101 => ?_) (fun c_101 => ?_)
                · exact absurd c_101 (by decide +kernel)
                · refine lv_aload_n hx hb dX6_person_104 rfl (lv_at hl 2 rfl) ?_
                  refine va_get (D := D) (ci := cRm) (C := RX6) (T := TX6) (N := 2) (v := .ref x1) hx hb hts (by decide +kernel) hown hK hP 0 rfl rfl 1 (by decide) (hts (.fieldLink RX6 10 "WaxrowModel" "house" "LWaxrowModel$House;") (by decide +kernel)) (fun _ h9 => h9) rfl dX6_person_105 ?_
                  refine va_get (D := D) (ci := cRh) (C := RX5) (T := TX5) (N := 14) (v := .ref a2) hx hb hts (by decide +kernel) hown hK hP 1 rfl rfl 2 (by decide) (hts (.fieldLink RX6 50 "WaxrowModel$House" "high" "[[I") (by decide +kernel)) (fun _ h9 => h9) rfl dX6_person_108 ?_
                  refine lv_aload_n hx hb dX6_person_111 rfl (lv_at hl 2 rfl) ?_
                  refine va_get (D := D) (ci := cRm) (C := RX6) (T := TX6) (N := 2) (v := .ref x1) hx hb hts (by decide +kernel) hown hK hP 0 rfl rfl 1 (by decide) (hts (.fieldLink RX6 10 "WaxrowModel" "house" "LWaxrowModel$House;") (by decide +kernel)) (fun _ h9 => h9) rfl dX6_person_112 ?_
                  refine va_get (D := D) (ci := cRh) (C := RX5) (T := TX5) (N := 14) (v := .int 0) hx hb hts (by decide +kernel) hown hK hP 1 rfl rfl 6 (by decide) (hts (.fieldLink RX6 29 "WaxrowModel$House" "personCount" "I") (by decide +kernel)) (fun _ h9 => h9) rfl dX6_person_115 ?_
                  refine rf_aald (n := 10) (f := f2) (ad := r2) hx hb hK hP 4 1 rfl rfl (by unfold vp_in; decide) hf2 dX6_person_118 ?_
                  refine lv_iload hx hb dX6_person_119 (lv_at hl 0 rfl) ?_
                  refine lv_bipush (v := 99) hx hb dX6_person_121 (by decide) ?_
                  refine va_iast (x := 99) (i := 3) (n := 6) (f := upd (upd (upd (g2) (0 : Int32).toNatClampNeg 99) (1 : Int32).toNatClampNeg 99) (2 : Int32).toNatClampNeg 99) hx hb hK hP hD hS 5 0 rfl rfl (show vp_in (3 : Int32) 6 from (by unfold vp_in; decide)) dX6_person_123 (fun H locs hP hD hS => ?_)
                  have hP : va_P D vwCl [(x0, .inr (cRm, [.int 0, .ref x1])), (x1, .inr (cRh, [.ref a0, .ref a1, .ref a2, .ref a3, .ref a4, .ref a5, .int 0, .int 0, .int 0, .int 0, .int 0, .int 5, .int 200, .int 30])), (a0, .inl (cB, 10, .inr (.inr (.inr (.inr f0))))), (r0, .inl (cI, 9, .inl (upd (upd (upd (g0) (0 : Int32).toNatClampNeg k) (1 : Int32).toNatClampNeg u) (2 : Int32).toNatClampNeg v))), (a2, .inl (cB, 10, .inr (.inr (.inr (.inr f2))))), (r2, .inl (cI, 6, .inl (upd (upd (upd (upd (g2) (0 : Int32).toNatClampNeg 99) (1 : Int32).toNatClampNeg 99) (2 : Int32).toNatClampNeg 99) (3 : Int32).toNatClampNeg 99)))] H := hP
                  have hD : va_D A [(x0, .inr (cRm, [.int 0, .ref x1])), (x1, .inr (cRh, [.ref a0, .ref a1, .ref a2, .ref a3, .ref a4, .ref a5, .int 0, .int 0, .int 0, .int 0, .int 0, .int 5, .int 200, .int 30])), (a0, .inl (cB, 10, .inr (.inr (.inr (.inr f0))))), (r0, .inl (cI, 9, .inl (upd (upd (upd (g0) (0 : Int32).toNatClampNeg k) (1 : Int32).toNatClampNeg u) (2 : Int32).toNatClampNeg v))), (a2, .inl (cB, 10, .inr (.inr (.inr (.inr f2))))), (r2, .inl (cI, 6, .inl (upd (upd (upd (upd (g2) (0 : Int32).toNatClampNeg 99) (1 : Int32).toNatClampNeg 99) (2 : Int32).toNatClampNeg 99) (3 : Int32).toNatClampNeg 99)))] := hD
                  refine lv_iinc (v := 4) (lv' := [(5, .int 4), (4, .ref r0), (0, .ref x0), (1, .int k), (2, .int u), (3, .int v)]) hx hb dX6_person_124 hl (k := 0) rfl (by decide) (by decide) rfl (fun ls hl => ?_)
                  refine lv_goto (tgt := 97) hx hb dX6_person_127 (by decide) ?_
                  refine lv_iload hx hb dX6_person_97 (lv_at hl 0 rfl) ?_
                  refine lv_bipush (v := 6) hx hb dX6_person_99 (by decide) ?_
                  refine lv_icmp_ge (tgt := 130) hx hb dX6_person_101 (by decide) (fun c_101 => ?_) (fun c_101 => ?_)
                  · exact absurd c_101 (by decide +kernel)
                  · refine lv_aload_n hx hb dX6_person_104 rfl (lv_at hl 2 rfl) ?_
                    refine va_get (D := D) (ci := cRm) (C := RX6) (T := TX6) (N := 2) (v := .ref x1) hx hb hts (by decide +kernel) hown hK hP 0 rfl rfl 1 (by decide) (hts (.fieldLink RX6 10 "WaxrowModel" "house" "LWaxrowModel$House;") (by decide +kernel)) (fun _ h9 => h9) rfl dX6_person_105 ?_
                    refine va_get (D := D) (ci := cRh) (C := RX5) (T := TX5) (N := 14) (v := .ref a2) hx hb hts (by decide +kernel) hown hK hP 1 rfl rfl 2 (by decide) (hts (.fieldLink RX6 50 "WaxrowModel$House" "high" "[[I") (by decide +kernel)) (fun _ h9 => h9) rfl dX6_person_108 ?_
                    refine lv_aload_n hx hb dX6_person_111 rfl (lv_at hl 2 rfl) ?_
                    refine va_get (D := D) (ci := cRm) (C := RX6) (T := TX6) (N := 2) (v := .ref x1) hx hb hts (by decide +kernel) hown hK hP 0 rfl rfl 1 (by decide) (hts (.fieldLink RX6 10 "WaxrowModel" "house" "LWaxrowModel$House;") (by decide +kernel)) (fun _ h9 => h9) rfl dX6_person_112 ?_
                    refine va_get (D := D) (ci := cRh) (C := RX5) (T := TX5) (N := 14) (v := .int 0) hx hb hts (by decide +kernel) hown hK hP 1 rfl rfl 6 (by decide) (hts (.fieldLink RX6 29 "WaxrowModel$House" "personCount" "I") (by decide +kernel)) (fun _ h9 => h9) rfl dX6_person_115 ?_
                    refine rf_aald (n := 10) (f := f2) (ad := r2) hx hb hK hP 4 1 rfl rfl (by unfold vp_in; decide) hf2 dX6_person_118 ?_
                    refine lv_iload hx hb dX6_person_119 (lv_at hl 0 rfl) ?_
                    refine lv_bipush (v := 99) hx hb dX6_person_121 (by decide) ?_
                    refine va_iast (x := 99) (i := 4) (n := 6) (f := upd (upd (upd (upd (g2) (0 : Int32).toNatClampNeg 99) (1 : Int32).toNatClampNeg 99) (2 : Int32).toNatClampNeg 99) (3 : Int32).toNatClampNeg 99) hx hb hK hP hD hS 5 0 rfl rfl (show vp_in (4 : Int32) 6 from (by unfold vp_in; decide)) dX6_person_123 (fun H locs hP hD hS => ?_)
                    have hP : va_P D vwCl [(x0, .inr (cRm, [.int 0, .ref x1])), (x1, .inr (cRh, [.ref a0, .ref a1, .ref a2, .ref a3, .ref a4, .ref a5, .int 0, .int 0, .int 0, .int 0, .int 0, .int 5, .int 200, .int 30])), (a0, .inl (cB, 10, .inr (.inr (.inr (.inr f0))))), (r0, .inl (cI, 9, .inl (upd (upd (upd (g0) (0 : Int32).toNatClampNeg k) (1 : Int32).toNatClampNeg u) (2 : Int32).toNatClampNeg v))), (a2, .inl (cB, 10, .inr (.inr (.inr (.inr f2))))), (r2, .inl (cI, 6, .inl (upd (upd (upd (upd (upd (g2) (0 : Int32).toNatClampNeg 99) (1 : Int32).toNatClampNeg 99) (2 : Int32).toNatClampNeg 99) (3 : Int32).toNatClampNeg 99) (4 : Int32).toNatClampNeg 99)))] H := hP
                    have hD : va_D A [(x0, .inr (cRm, [.int 0, .ref x1])), (x1, .inr (cRh, [.ref a0, .ref a1, .ref a2, .ref a3, .ref a4, .ref a5, .int 0, .int 0, .int 0, .int 0, .int 0, .int 5, .int 200, .int 30])), (a0, .inl (cB, 10, .inr (.inr (.inr (.inr f0))))), (r0, .inl (cI, 9, .inl (upd (upd (upd (g0) (0 : Int32).toNatClampNeg k) (1 : Int32).toNatClampNeg u) (2 : Int32).toNatClampNeg v))), (a2, .inl (cB, 10, .inr (.inr (.inr (.inr f2))))), (r2, .inl (cI, 6, .inl (upd (upd (upd (upd (upd (g2) (0 : Int32).toNatClampNeg 99) (1 : Int32).toNatClampNeg 99) (2 : Int32).toNatClampNeg 99) (3 : Int32).toNatClampNeg 99) (4 : Int32).toNatClampNeg 99)))] := hD
                    refine lv_iinc (v := 5) (lv' := [(5, .int 5), (4, .ref r0), (0, .ref x0), (1, .int k), (2, .int u), (3, .int v)]) hx hb dX6_person_124 hl (k := 0) rfl (by decide) (by decide) rfl (fun ls hl => ?_)
                    refine lv_goto (tgt := 97) hx hb dX6_person_127 (by decide) ?_
                    refine lv_iload hx hb dX6_person_97 (lv_at hl 0 rfl) ?_
                    refine lv_bipush (v := 6) hx hb dX6_person_99 (by decide) ?_
                    refine lv_icmp_ge (tgt := 130) hx hb dX6_person_101 (by decide) (fun c_101 => ?_) (fun c_101 => ?_)
                    · exact absurd c_101 (by decide +kernel)
                    · refine lv_aload_n hx hb dX6_person_104 rfl (lv_at hl 2 rfl) ?_
                      refine va_get (D := D) (ci := cRm) (C := RX6) (T := TX6) (N := 2) (v := .ref x1) hx hb hts (by decide +kernel) hown hK hP 0 rfl rfl 1 (by decide) (hts (.fieldLink RX6 10 "WaxrowModel" "house" "LWaxrowModel$House;") (by decide +kernel)) (fun _ h9 => h9) rfl dX6_person_105 ?_
                      refine va_get (D := D) (ci := cRh) (C := RX5) (T := TX5) (N := 14) (v := .ref a2) hx hb hts (by decide +kernel) hown hK hP 1 rfl rfl 2 (by decide) (hts (.fieldLink RX6 50 "WaxrowModel$House" "high" "[[I") (by decide +kernel)) (fun _ h9 => h9) rfl dX6_person_108 ?_
                      refine lv_aload_n hx hb dX6_person_111 rfl (lv_at hl 2 rfl) ?_
                      refine va_get (D := D) (ci := cRm) (C := RX6) (T := TX6) (N := 2) (v := .ref x1) hx hb hts (by decide +kernel) hown hK hP 0 rfl rfl 1 (by decide) (hts (.fieldLink RX6 10 "WaxrowModel" "house" "LWaxrowModel$House;") (by decide +kernel)) (fun _ h9 => h9) rfl dX6_person_112 ?_
                      refine va_get (D := D) (ci := cRh) (C := RX5) (T := TX5) (N := 14) (v := .int 0) hx hb hts (by decide +kernel) hown hK hP 1 rfl rfl 6 (by decide) (hts (.fieldLink RX6 29 "WaxrowModel$House" "personCount" "I") (by decide +kernel)) (fun _ h9 => h9) rfl dX6_person_115 ?_
                      refine rf_aald (n := 10) (f := f2) (ad := r2) hx hb hK hP 4 1 rfl rfl (by unfold vp_in; decide) hf2 dX6_person_118 ?_
                      refine lv_iload hx hb dX6_person_119 (lv_at hl 0 rfl) ?_
                      refine lv_bipush (v := 99) hx hb dX6_person_121 (by decide) ?_
                      refine va_iast (x := 99) (i := 5) (n := 6) (f := upd (upd (upd (upd (upd (g2) (0 : Int32).toNatClampNeg 99) (1 : Int32).toNatClampNeg 99) (2 : Int32).toNatClampNeg 99) (3 : Int32).toNatClampNeg 99) (4 : Int32).toNatClampNeg 99) hx hb hK hP hD hS 5 0 rfl rfl (show vp_in (5 : Int32) 6 from (by unfold vp_in; decide)) dX6_person_123 (fun H locs hP hD hS => ?_)
                      have hP : va_P D vwCl [(x0, .inr (cRm, [.int 0, .ref x1])), (x1, .inr (cRh, [.ref a0, .ref a1, .ref a2, .ref a3, .ref a4, .ref a5, .int 0, .int 0, .int 0, .int 0, .int 0, .int 5, .int 200, .int 30])), (a0, .inl (cB, 10, .inr (.inr (.inr (.inr f0))))), (r0, .inl (cI, 9, .inl (upd (upd (upd (g0) (0 : Int32).toNatClampNeg k) (1 : Int32).toNatClampNeg u) (2 : Int32).toNatClampNeg v))), (a2, .inl (cB, 10, .inr (.inr (.inr (.inr f2))))), (r2, .inl (cI, 6, .inl (upd (upd (upd (upd (upd (upd (g2) (0 : Int32).toNatClampNeg 99) (1 : Int32).toNatClampNeg 99) (2 : Int32).toNatClampNeg 99) (3 : Int32).toNatClampNeg 99) (4 : Int32).toNatClampNeg 99) (5 : Int32).toNatClampNeg 99)))] H := hP
                      have hD : va_D A [(x0, .inr (cRm, [.int 0, .ref x1])), (x1, .inr (cRh, [.ref a0, .ref a1, .ref a2, .ref a3, .ref a4, .ref a5, .int 0, .int 0, .int 0, .int 0, .int 0, .int 5, .int 200, .int 30])), (a0, .inl (cB, 10, .inr (.inr (.inr (.inr f0))))), (r0, .inl (cI, 9, .inl (upd (upd (upd (g0) (0 : Int32).toNatClampNeg k) (1 : Int32).toNatClampNeg u) (2 : Int32).toNatClampNeg v))), (a2, .inl (cB, 10, .inr (.inr (.inr (.inr f2))))), (r2, .inl (cI, 6, .inl (upd (upd (upd (upd (upd (upd (g2) (0 : Int32).toNatClampNeg 99) (1 : Int32).toNatClampNeg 99) (2 : Int32).toNatClampNeg 99) (3 : Int32).toNatClampNeg 99) (4 : Int32).toNatClampNeg 99) (5 : Int32).toNatClampNeg 99)))] := hD
                      refine lv_iinc (v := 6) (lv' := [(5, .int 6), (4, .ref r0), (0, .ref x0), (1, .int k), (2, .int u), (3, .int v)]) hx hb dX6_person_124 hl (k := 0) rfl (by decide) (by decide) rfl (fun ls hl => ?_)
                      refine lv_goto (tgt := 97) hx hb dX6_person_127 (by decide) ?_
                      refine lv_iload hx hb dX6_person_97 (lv_at hl 0 rfl) ?_
                      refine lv_bipush (v := 6) hx hb dX6_person_99 (by decide) ?_
                      refine lv_icmp_ge (tgt := 130) hx hb dX6_person_101 (by decide) (fun c_101 => ?_) (fun c_101 => ?_)
                      · refine lv_aload_n hx hb dX6_person_130 rfl (lv_at hl 2 rfl) ?_
                        refine va_get (D := D) (ci := cRm) (C := RX6) (T := TX6) (N := 2) (v := .ref x1) hx hb hts (by decide +kernel) hown hK hP 0 rfl rfl 1 (by decide) (hts (.fieldLink RX6 10 "WaxrowModel" "house" "LWaxrowModel$House;") (by decide +kernel)) (fun _ h9 => h9) rfl dX6_person_131 ?_
                        refine lv_dup hx hb dX6_person_134 rfl ?_
                        refine va_get (D := D) (ci := cRh) (C := RX5) (T := TX5) (N := 14) (v := .int 0) hx hb hts (by decide +kernel) hown hK hP 1 rfl rfl 6 (by decide) (hts (.fieldLink RX6 29 "WaxrowModel$House" "personCount" "I") (by decide +kernel)) (fun _ h9 => h9) rfl dX6_person_135 ?_
                        refine lv_dup_x1 hx hb dX6_person_138 rfl rfl ?_
                        refine lv_iconst (v := 1) hx hb dX6_person_139 (by decide) ?_
                        refine lv_iadd hx hb dX6_person_140 ?_
                        refine va_put (ci := cRh) (C := RX5) (T := TX5) (N := 14) (ty := .int) hx hb hts (by decide +kernel) tyX5 tyX5_ok nmX5 hown hK hP hD hS 1 rfl rfl 6 (by decide) (hts (.fieldLink RX6 29 "WaxrowModel$House" "personCount" "I") (by decide +kernel)) (fun _ h9 => h9) rfl (by decide +kernel) rfl rfl (Nat.le_of_ble_eq_true rfl) dX6_person_141 (fun H locs hP hD hS => ?_)
                        have hP : va_P D vwCl [(x0, .inr (cRm, [.int 0, .ref x1])), (x1, .inr (cRh, [.ref a0, .ref a1, .ref a2, .ref a3, .ref a4, .ref a5, .int (0 + 1), .int 0, .int 0, .int 0, .int 0, .int 5, .int 200, .int 30])), (a0, .inl (cB, 10, .inr (.inr (.inr (.inr f0))))), (r0, .inl (cI, 9, .inl (upd (upd (upd (g0) (0 : Int32).toNatClampNeg k) (1 : Int32).toNatClampNeg u) (2 : Int32).toNatClampNeg v))), (a2, .inl (cB, 10, .inr (.inr (.inr (.inr f2))))), (r2, .inl (cI, 6, .inl (upd (upd (upd (upd (upd (upd (g2) (0 : Int32).toNatClampNeg 99) (1 : Int32).toNatClampNeg 99) (2 : Int32).toNatClampNeg 99) (3 : Int32).toNatClampNeg 99) (4 : Int32).toNatClampNeg 99) (5 : Int32).toNatClampNeg 99)))] H := hP
                        have hD : va_D A [(x0, .inr (cRm, [.int 0, .ref x1])), (x1, .inr (cRh, [.ref a0, .ref a1, .ref a2, .ref a3, .ref a4, .ref a5, .int (0 + 1), .int 0, .int 0, .int 0, .int 0, .int 5, .int 200, .int 30])), (a0, .inl (cB, 10, .inr (.inr (.inr (.inr f0))))), (r0, .inl (cI, 9, .inl (upd (upd (upd (g0) (0 : Int32).toNatClampNeg k) (1 : Int32).toNatClampNeg u) (2 : Int32).toNatClampNeg v))), (a2, .inl (cB, 10, .inr (.inr (.inr (.inr f2))))), (r2, .inl (cI, 6, .inl (upd (upd (upd (upd (upd (upd (g2) (0 : Int32).toNatClampNeg 99) (1 : Int32).toNatClampNeg 99) (2 : Int32).toNatClampNeg 99) (3 : Int32).toNatClampNeg 99) (4 : Int32).toNatClampNeg 99) (5 : Int32).toNatClampNeg 99)))] := hD
                        exact W.iret (v := 0) hx hb hr (fun U9 ht hW9 => ⟨⟨0, (), rfl, rfl, by show va_P D vwCl _ U9.heap; rw [ht]; exact hP.sub [0] rfl⟩, hS.F ht⟩) hS.2.2 dX6_person_144
                      · exact absurd (by decide +kernel) c_101
        · exact absurd c_53 (by decide +kernel)
      · exact absurd (h3.symm.trans c_35) (by decide)
set_option maxHeartbeats 4000000 in
set_option maxRecDepth 100000 in
/-- the reference: room, out of bounds -/
theorem rX6_room_bad (l : Launch) (D : va_G) (cI cB : ClassId) (sz : Nat) (x0 x1 a0 a1 a2 a3 a4 a5 : Nat) (t k u : Int32) (A : Nat → Prop) (hD : va_D A [(x0, .inr (cRm, [.int t, .ref x1])), (x1, .inr (cRh, [.ref a0, .ref a1, .ref a2, .ref a3, .ref a4, .ref a5, .int 0, .int 0, .int 0, .int 0, .int 0, .int 5, .int 200, .int 30]))]) (h0 : sp_in k 0 9 = 0 ∨ sp_in u 1 4 = 0) : rf_Mi l yX6_room wsX6_room ({ frames := 1, cells := 0, slots := 0, locals := 44 }) D [(cI, .int), (cB, .array .int)] sz [(x0, .inr (cRm, [.int t, .ref x1])), (x1, .inr (cRh, [.ref a0, .ref a1, .ref a2, .ref a3, .ref a4, .ref a5, .int 0, .int 0, .int 0, .int 0, .int 0, .int 5, .int 200, .int 30]))] [(x0, .inr (cRm, [.int 1, .ref x1]))] A [.ref x0, .int k, .int u] (fun r => r = 0) 0 0 := by
  refine Met.ofW (cc := cX6_room) (maxL := 3) (ret := (some .int)) (by decide) rfl ?_
  intro p e s m args below meth c s₁ B hml hv
  obtain ⟨rfl, hsz, hP, hK⟩ := hv
  have hx := B.exec
  have hb := B.bytes
  have hr := B.returns
  have hts := atoms_spec (ws := wsX6_room) B.pre
  have hown : s.vm.findClass RX6 = some m.cls := findClass_of_methodNamed B.named
  have hlocks := B.notSynchronized
  have hS : va_S A s.heap s.heap [] := va_S.rf
  have hP : va_P D vwCl [(x0, .inr (cRm, [.int t, .ref x1])), (x1, .inr (cRh, [.ref a0, .ref a1, .ref a2, .ref a3, .ref a4, .ref a5, .int 0, .int 0, .int 0, .int 0, .int 0, .int 5, .int 200, .int 30]))] s.heap := hP
  have hl := lv_entry ([.ref x0, .int k, .int u]) (n := 3) (Nat.le_of_ble_eq_true rfl)
  rw [lg_entry_eq]
  generalize (lg_sl ([.ref x0, .int k, .int u]) ++ List.replicate (3 - (lg_sl ([.ref x0, .int k, .int u])).length) Slot.unset).toArray = ls at hl ⊢
  have hl : lv_has ls 3 [(0, .ref x0), (1, .int k), (2, .int u)] := hl
  refine lv_aload_n hx hb dX6_room_0 rfl (lv_at hl 0 rfl) ?_
  refine lv_iconst (v := 0) hx hb dX6_room_1 (by decide) ?_
  refine va_put (ci := cRm) (C := RX6) (T := TX6) (N := 2) (ty := .int) hx hb hts (by decide +kernel) tyX6 tyX6_ok nmX6 hown hK hP hD hS 0 rfl rfl 0 (by decide) (hts (.fieldLink RX6 16 "WaxrowModel" "thrown" "I") (by decide +kernel)) (fun _ h9 => h9) rfl (by decide +kernel) rfl rfl (Nat.le_of_ble_eq_true rfl) dX6_room_2 (fun H locs hP hD hS => ?_)
  have hP : va_P D vwCl [(x0, .inr (cRm, [.int 0, .ref x1])), (x1, .inr (cRh, [.ref a0, .ref a1, .ref a2, .ref a3, .ref a4, .ref a5, .int 0, .int 0, .int 0, .int 0, .int 0, .int 5, .int 200, .int 30]))] H := hP
  have hD : va_D A [(x0, .inr (cRm, [.int 0, .ref x1])), (x1, .inr (cRh, [.ref a0, .ref a1, .ref a2, .ref a3, .ref a4, .ref a5, .int 0, .int 0, .int 0, .int 0, .int 0, .int 5, .int 200, .int 30]))] := hD
  refine lv_iload_n hx hb dX6_room_5 rfl (lv_at hl 1 rfl) ?_
  refine lv_iconst (v := 0) hx hb dX6_room_6 (by decide) ?_
  refine lv_bipush (v := 9) hx hb dX6_room_7 (by decide) ?_
  refine rf_runR (As := [.int k, .int 0, .int 9]) ⟨hx, hb, hml, hown, hts⟩ (rX6_in l k 0 9) (va_cwS 3 hts gX6_room_X6_in rfl rfl rfl (by decide +kernel) ⟨Nat.le_of_ble_eq_true rfl, Nat.le_of_ble_eq_true rfl⟩) hP hS rfl hl.1 (Nat.le_of_ble_eq_true rfl) dX6_room_9 ⟨Nat.le_of_ble_eq_true rfl, Nat.le_of_ble_eq_true rfl⟩ rfl (fun r_ H locs hp hP hS => ?_)
  obtain rfl := hp
  have hP : va_P D vwCl [(x0, .inr (cRm, [.int 0, .ref x1])), (x1, .inr (cRh, [.ref a0, .ref a1, .ref a2, .ref a3, .ref a4, .ref a5, .int 0, .int 0, .int 0, .int 0, .int 0, .int 5, .int 200, .int 30]))] H := hP
  refine lv_if_eq (tgt := 24) hx hb dX6_room_12 (by decide) (fun c_12 => ?_) (fun c_12 => ?_)
  · refine lv_aload_n hx hb dX6_room_24 rfl (lv_at hl 0 rfl) ?_
    refine lv_iconst (v := 1) hx hb dX6_room_25 (by decide) ?_
    refine rf_callW (As := [.int 1]) (V := [(x0, .inr (cRm, [.int 0, .ref x1]))]) (V2 := [(x0, .inr (cRm, [.int 1, .ref x1]))]) (q0 := 0) (ci := cRm) (r := (RX6, TX6, 2)) ⟨hx, hb, hml, hown, hts⟩ (rX6_no l D cI cB H.size x0 x1 0 1 A (hD.sub [0] (by decide) rfl)) (cwV 1 hts gX6_room_X6_no rfl rfl rfl (by decide +kernel) ⟨Nat.le_of_ble_eq_true rfl, Nat.le_of_ble_eq_true rfl⟩) hK hP (hP.sub [0] rfl) hS rfl rfl rfl rfl hl.1 (Nat.le_of_ble_eq_true rfl) dX6_room_26 ⟨Nat.le_of_ble_eq_true rfl, Nat.le_of_ble_eq_true rfl⟩ rfl (fun r_ H locs hp hP hS => ?_)
    subst hp
    have hP : va_P D vwCl [(x0, .inr (cRm, [.int 1, .ref x1]))] H := hP
    exact W.iret (v := 0) hx hb hr (fun U9 ht hW9 => ⟨⟨0, (), rfl, rfl, by show va_P D vwCl _ U9.heap; rw [ht]; exact hP.sub [0] rfl⟩, hS.F ht⟩) hS.2.2 dX6_room_29
  · refine lv_iload_n hx hb dX6_room_15 rfl (lv_at hl 2 rfl) ?_
    refine lv_iconst (v := 1) hx hb dX6_room_16 (by decide) ?_
    refine lv_iconst (v := 4) hx hb dX6_room_17 (by decide) ?_
    refine rf_runR (As := [.int u, .int 1, .int 4]) ⟨hx, hb, hml, hown, hts⟩ (rX6_in l u 1 4) (va_cwS 3 hts gX6_room_X6_in rfl rfl rfl (by decide +kernel) ⟨Nat.le_of_ble_eq_true rfl, Nat.le_of_ble_eq_true rfl⟩) hP hS rfl hl.1 (Nat.le_of_ble_eq_true rfl) dX6_room_18 ⟨Nat.le_of_ble_eq_true rfl, Nat.le_of_ble_eq_true rfl⟩ rfl (fun r_ H locs hp hP hS => ?_)
    obtain rfl := hp
    have hP : va_P D vwCl [(x0, .inr (cRm, [.int 0, .ref x1])), (x1, .inr (cRh, [.ref a0, .ref a1, .ref a2, .ref a3, .ref a4, .ref a5, .int 0, .int 0, .int 0, .int 0, .int 0, .int 5, .int 200, .int 30]))] H := hP
    refine lv_if_ne (tgt := 30) hx hb dX6_room_21 (by decide) (fun c_21 => ?_) (fun c_21 => ?_)
    · exact (h0.elim c_12 c_21).elim
    · refine lv_aload_n hx hb dX6_room_24 rfl (lv_at hl 0 rfl) ?_
      refine lv_iconst (v := 1) hx hb dX6_room_25 (by decide) ?_
      refine rf_callW (As := [.int 1]) (V := [(x0, .inr (cRm, [.int 0, .ref x1]))]) (V2 := [(x0, .inr (cRm, [.int 1, .ref x1]))]) (q0 := 0) (ci := cRm) (r := (RX6, TX6, 2)) ⟨hx, hb, hml, hown, hts⟩ (rX6_no l D cI cB H.size x0 x1 0 1 A (hD.sub [0] (by decide) rfl)) (cwV 1 hts gX6_room_X6_no rfl rfl rfl (by decide +kernel) ⟨Nat.le_of_ble_eq_true rfl, Nat.le_of_ble_eq_true rfl⟩) hK hP (hP.sub [0] rfl) hS rfl rfl rfl rfl hl.1 (Nat.le_of_ble_eq_true rfl) dX6_room_26 ⟨Nat.le_of_ble_eq_true rfl, Nat.le_of_ble_eq_true rfl⟩ rfl (fun r_ H locs hp hP hS => ?_)
      subst hp
      have hP : va_P D vwCl [(x0, .inr (cRm, [.int 1, .ref x1]))] H := hP
      exact W.iret (v := 0) hx hb hr (fun U9 ht hW9 => ⟨⟨0, (), rfl, rfl, by show va_P D vwCl _ U9.heap; rw [ht]; exact hP.sub [0] rfl⟩, hS.F ht⟩) hS.2.2 dX6_room_29
set_option maxHeartbeats 4000000 in
set_option maxRecDepth 100000 in
/-- the reference: room -/
theorem rX6_room_ok (l : Launch) (D : va_G) (cI cB : ClassId) (sz : Nat) (x0 x1 a0 a1 a2 a3 a4 a5 : Nat) (g4 g5 : Nat → Int32) (t k u : Int32) (A : Nat → Prop) (hD : va_D A [(x0, .inr (cRm, [.int t, .ref x1])), (x1, .inr (cRh, [.ref a0, .ref a1, .ref a2, .ref a3, .ref a4, .ref a5, .int 0, .int 0, .int 0, .int 0, .int 0, .int 5, .int 200, .int 30])), (a4, .inl (cI, 5, .inl g4)), (a5, .inl (cI, 5, .inl g5))]) (h1 : sp_in k 0 9 = 1) (h2 : sp_in u 1 4 = 1) : rf_Mi l yX6_room wsX6_room ({ frames := 1, cells := 0, slots := 0, locals := 44 }) D [(cI, .int), (cB, .array .int)] sz [(x0, .inr (cRm, [.int t, .ref x1])), (x1, .inr (cRh, [.ref a0, .ref a1, .ref a2, .ref a3, .ref a4, .ref a5, .int 0, .int 0, .int 0, .int 0, .int 0, .int 5, .int 200, .int 30])), (a4, .inl (cI, 5, .inl g4)), (a5, .inl (cI, 5, .inl g5))] [(x0, .inr (cRm, [.int 0, .ref x1]))] A [.ref x0, .int k, .int u] (fun r => r = 0) 0 0 := by
  refine Met.ofW (cc := cX6_room) (maxL := 3) (ret := (some .int)) (by decide) rfl ?_
  intro p e s m args below meth c s₁ B hml hv
  obtain ⟨rfl, hsz, hP, hK⟩ := hv
  have hx := B.exec
  have hb := B.bytes
  have hr := B.returns
  have hts := atoms_spec (ws := wsX6_room) B.pre
  have hown : s.vm.findClass RX6 = some m.cls := findClass_of_methodNamed B.named
  have hlocks := B.notSynchronized
  have hS : va_S A s.heap s.heap [] := va_S.rf
  have hP : va_P D vwCl [(x0, .inr (cRm, [.int t, .ref x1])), (x1, .inr (cRh, [.ref a0, .ref a1, .ref a2, .ref a3, .ref a4, .ref a5, .int 0, .int 0, .int 0, .int 0, .int 0, .int 5, .int 200, .int 30])), (a4, .inl (cI, 5, .inl g4)), (a5, .inl (cI, 5, .inl g5))] s.heap := hP
  have hl := lv_entry ([.ref x0, .int k, .int u]) (n := 3) (Nat.le_of_ble_eq_true rfl)
  rw [lg_entry_eq]
  generalize (lg_sl ([.ref x0, .int k, .int u]) ++ List.replicate (3 - (lg_sl ([.ref x0, .int k, .int u])).length) Slot.unset).toArray = ls at hl ⊢
  have hl : lv_has ls 3 [(0, .ref x0), (1, .int k), (2, .int u)] := hl
  refine lv_aload_n hx hb dX6_room_0 rfl (lv_at hl 0 rfl) ?_
  refine lv_iconst (v := 0) hx hb dX6_room_1 (by decide) ?_
  refine va_put (ci := cRm) (C := RX6) (T := TX6) (N := 2) (ty := .int) hx hb hts (by decide +kernel) tyX6 tyX6_ok nmX6 hown hK hP hD hS 0 rfl rfl 0 (by decide) (hts (.fieldLink RX6 16 "WaxrowModel" "thrown" "I") (by decide +kernel)) (fun _ h9 => h9) rfl (by decide +kernel) rfl rfl (Nat.le_of_ble_eq_true rfl) dX6_room_2 (fun H locs hP hD hS => ?_)
  have hP : va_P D vwCl [(x0, .inr (cRm, [.int 0, .ref x1])), (x1, .inr (cRh, [.ref a0, .ref a1, .ref a2, .ref a3, .ref a4, .ref a5, .int 0, .int 0, .int 0, .int 0, .int 0, .int 5, .int 200, .int 30])), (a4, .inl (cI, 5, .inl g4)), (a5, .inl (cI, 5, .inl g5))] H := hP
  have hD : va_D A [(x0, .inr (cRm, [.int 0, .ref x1])), (x1, .inr (cRh, [.ref a0, .ref a1, .ref a2, .ref a3, .ref a4, .ref a5, .int 0, .int 0, .int 0, .int 0, .int 0, .int 5, .int 200, .int 30])), (a4, .inl (cI, 5, .inl g4)), (a5, .inl (cI, 5, .inl g5))] := hD
  refine lv_iload_n hx hb dX6_room_5 rfl (lv_at hl 1 rfl) ?_
  refine lv_iconst (v := 0) hx hb dX6_room_6 (by decide) ?_
  refine lv_bipush (v := 9) hx hb dX6_room_7 (by decide) ?_
  refine rf_runR (As := [.int k, .int 0, .int 9]) ⟨hx, hb, hml, hown, hts⟩ (rX6_in l k 0 9) (va_cwS 3 hts gX6_room_X6_in rfl rfl rfl (by decide +kernel) ⟨Nat.le_of_ble_eq_true rfl, Nat.le_of_ble_eq_true rfl⟩) hP hS rfl hl.1 (Nat.le_of_ble_eq_true rfl) dX6_room_9 ⟨Nat.le_of_ble_eq_true rfl, Nat.le_of_ble_eq_true rfl⟩ rfl (fun r_ H locs hp hP hS => ?_)
  obtain rfl := hp
  have hP : va_P D vwCl [(x0, .inr (cRm, [.int 0, .ref x1])), (x1, .inr (cRh, [.ref a0, .ref a1, .ref a2, .ref a3, .ref a4, .ref a5, .int 0, .int 0, .int 0, .int 0, .int 0, .int 5, .int 200, .int 30])), (a4, .inl (cI, 5, .inl g4)), (a5, .inl (cI, 5, .inl g5))] H := hP
  refine lv_if_eq (tgt := 24) hx hb dX6_room_12 (by decide) (fun c_12 => ?_) (fun c_12 => ?_)
  · exact absurd (h1.symm.trans c_12) (by decide)
  · refine lv_iload_n hx hb dX6_room_15 rfl (lv_at hl 2 rfl) ?_
    refine lv_iconst (v := 1) hx hb dX6_room_16 (by decide) ?_
    refine lv_iconst (v := 4) hx hb dX6_room_17 (by decide) ?_
    refine rf_runR (As := [.int u, .int 1, .int 4]) ⟨hx, hb, hml, hown, hts⟩ (rX6_in l u 1 4) (va_cwS 3 hts gX6_room_X6_in rfl rfl rfl (by decide +kernel) ⟨Nat.le_of_ble_eq_true rfl, Nat.le_of_ble_eq_true rfl⟩) hP hS rfl hl.1 (Nat.le_of_ble_eq_true rfl) dX6_room_18 ⟨Nat.le_of_ble_eq_true rfl, Nat.le_of_ble_eq_true rfl⟩ rfl (fun r_ H locs hp hP hS => ?_)
    obtain rfl := hp
    have hP : va_P D vwCl [(x0, .inr (cRm, [.int 0, .ref x1])), (x1, .inr (cRh, [.ref a0, .ref a1, .ref a2, .ref a3, .ref a4, .ref a5, .int 0, .int 0, .int 0, .int 0, .int 0, .int 5, .int 200, .int 30])), (a4, .inl (cI, 5, .inl g4)), (a5, .inl (cI, 5, .inl g5))] H := hP
    refine lv_if_ne (tgt := 30) hx hb dX6_room_21 (by decide) (fun c_21 => ?_) (fun c_21 => ?_)
    · refine lv_aload_n hx hb dX6_room_30 rfl (lv_at hl 0 rfl) ?_
      refine va_get (D := D) (ci := cRm) (C := RX6) (T := TX6) (N := 2) (v := .ref x1) hx hb hts (by decide +kernel) hown hK hP 0 rfl rfl 1 (by decide) (hts (.fieldLink RX6 10 "WaxrowModel" "house" "LWaxrowModel$House;") (by decide +kernel)) (fun _ h9 => h9) rfl dX6_room_31 ?_
      refine va_get (D := D) (ci := cRh) (C := RX5) (T := TX5) (N := 14) (v := .int 0) hx hb hts (by decide +kernel) hown hK hP 1 rfl rfl 8 (by decide) (hts (.fieldLink RX6 39 "WaxrowModel$House" "roomCount" "I") (by decide +kernel)) (fun _ h9 => h9) rfl dX6_room_34 ?_
      refine lv_iconst (v := 5) hx hb dX6_room_37 (by decide) ?_
      refine lv_icmp_ne (tgt := 47) hx hb dX6_room_38 (by decide) (fun c_38 => ?_) (fun c_38 => ?_)
      · refine lv_aload_n hx hb dX6_room_47 rfl (lv_at hl 0 rfl) ?_
        refine va_get (D := D) (ci := cRm) (C := RX6) (T := TX6) (N := 2) (v := .ref x1) hx hb hts (by decide +kernel) hown hK hP 0 rfl rfl 1 (by decide) (hts (.fieldLink RX6 10 "WaxrowModel" "house" "LWaxrowModel$House;") (by decide +kernel)) (fun _ h9 => h9) rfl dX6_room_48 ?_
        refine va_get (D := D) (ci := cRh) (C := RX5) (T := TX5) (N := 14) (v := .ref a4) hx hb hts (by decide +kernel) hown hK hP 1 rfl rfl 4 (by decide) (hts (.fieldLink RX6 102 "WaxrowModel$House" "lamps" "[I") (by decide +kernel)) (fun _ h9 => h9) rfl dX6_room_51 ?_
        refine lv_aload_n hx hb dX6_room_54 rfl (lv_at hl 0 rfl) ?_
        refine va_get (D := D) (ci := cRm) (C := RX6) (T := TX6) (N := 2) (v := .ref x1) hx hb hts (by decide +kernel) hown hK hP 0 rfl rfl 1 (by decide) (hts (.fieldLink RX6 10 "WaxrowModel" "house" "LWaxrowModel$House;") (by decide +kernel)) (fun _ h9 => h9) rfl dX6_room_55 ?_
        refine va_get (D := D) (ci := cRh) (C := RX5) (T := TX5) (N := 14) (v := .int 0) hx hb hts (by decide +kernel) hown hK hP 1 rfl rfl 8 (by decide) (hts (.fieldLink RX6 39 "WaxrowModel$House" "roomCount" "I") (by decide +kernel)) (fun _ h9 => h9) rfl dX6_room_58 ?_
        refine lv_iload_n hx hb dX6_room_61 rfl (lv_at hl 1 rfl) ?_
        refine va_iast (x := k) (i := 0) (n := 5) (f := g4) hx hb hK hP hD hS 2 0 rfl rfl (show vp_in (0 : Int32) 5 from (by unfold vp_in; decide)) dX6_room_62 (fun H locs hP hD hS => ?_)
        have hP : va_P D vwCl [(x0, .inr (cRm, [.int 0, .ref x1])), (x1, .inr (cRh, [.ref a0, .ref a1, .ref a2, .ref a3, .ref a4, .ref a5, .int 0, .int 0, .int 0, .int 0, .int 0, .int 5, .int 200, .int 30])), (a4, .inl (cI, 5, .inl (upd (g4) (0 : Int32).toNatClampNeg k))), (a5, .inl (cI, 5, .inl g5))] H := hP
        have hD : va_D A [(x0, .inr (cRm, [.int 0, .ref x1])), (x1, .inr (cRh, [.ref a0, .ref a1, .ref a2, .ref a3, .ref a4, .ref a5, .int 0, .int 0, .int 0, .int 0, .int 0, .int 5, .int 200, .int 30])), (a4, .inl (cI, 5, .inl (upd (g4) (0 : Int32).toNatClampNeg k))), (a5, .inl (cI, 5, .inl g5))] := hD
        refine lv_aload_n hx hb dX6_room_63 rfl (lv_at hl 0 rfl) ?_
        refine va_get (D := D) (ci := cRm) (C := RX6) (T := TX6) (N := 2) (v := .ref x1) hx hb hts (by decide +kernel) hown hK hP 0 rfl rfl 1 (by decide) (hts (.fieldLink RX6 10 "WaxrowModel" "house" "LWaxrowModel$House;") (by decide +kernel)) (fun _ h9 => h9) rfl dX6_room_64 ?_
        refine va_get (D := D) (ci := cRh) (C := RX5) (T := TX5) (N := 14) (v := .ref a5) hx hb hts (by decide +kernel) hown hK hP 1 rfl rfl 5 (by decide) (hts (.fieldLink RX6 106 "WaxrowModel$House" "spots" "[I") (by decide +kernel)) (fun _ h9 => h9) rfl dX6_room_67 ?_
        refine lv_aload_n hx hb dX6_room_70 rfl (lv_at hl 0 rfl) ?_
        refine va_get (D := D) (ci := cRm) (C := RX6) (T := TX6) (N := 2) (v := .ref x1) hx hb hts (by decide +kernel) hown hK hP 0 rfl rfl 1 (by decide) (hts (.fieldLink RX6 10 "WaxrowModel" "house" "LWaxrowModel$House;") (by decide +kernel)) (fun _ h9 => h9) rfl dX6_room_71 ?_
        refine va_get (D := D) (ci := cRh) (C := RX5) (T := TX5) (N := 14) (v := .int 0) hx hb hts (by decide +kernel) hown hK hP 1 rfl rfl 8 (by decide) (hts (.fieldLink RX6 39 "WaxrowModel$House" "roomCount" "I") (by decide +kernel)) (fun _ h9 => h9) rfl dX6_room_74 ?_
        refine lv_iload_n hx hb dX6_room_77 rfl (lv_at hl 2 rfl) ?_
        refine va_iast (x := u) (i := 0) (n := 5) (f := g5) hx hb hK hP hD hS 3 0 rfl rfl (show vp_in (0 : Int32) 5 from (by unfold vp_in; decide)) dX6_room_78 (fun H locs hP hD hS => ?_)
        have hP : va_P D vwCl [(x0, .inr (cRm, [.int 0, .ref x1])), (x1, .inr (cRh, [.ref a0, .ref a1, .ref a2, .ref a3, .ref a4, .ref a5, .int 0, .int 0, .int 0, .int 0, .int 0, .int 5, .int 200, .int 30])), (a4, .inl (cI, 5, .inl (upd (g4) (0 : Int32).toNatClampNeg k))), (a5, .inl (cI, 5, .inl (upd (g5) (0 : Int32).toNatClampNeg u)))] H := hP
        have hD : va_D A [(x0, .inr (cRm, [.int 0, .ref x1])), (x1, .inr (cRh, [.ref a0, .ref a1, .ref a2, .ref a3, .ref a4, .ref a5, .int 0, .int 0, .int 0, .int 0, .int 0, .int 5, .int 200, .int 30])), (a4, .inl (cI, 5, .inl (upd (g4) (0 : Int32).toNatClampNeg k))), (a5, .inl (cI, 5, .inl (upd (g5) (0 : Int32).toNatClampNeg u)))] := hD
        refine lv_aload_n hx hb dX6_room_79 rfl (lv_at hl 0 rfl) ?_
        refine va_get (D := D) (ci := cRm) (C := RX6) (T := TX6) (N := 2) (v := .ref x1) hx hb hts (by decide +kernel) hown hK hP 0 rfl rfl 1 (by decide) (hts (.fieldLink RX6 10 "WaxrowModel" "house" "LWaxrowModel$House;") (by decide +kernel)) (fun _ h9 => h9) rfl dX6_room_80 ?_
        refine lv_dup hx hb dX6_room_83 rfl ?_
        refine va_get (D := D) (ci := cRh) (C := RX5) (T := TX5) (N := 14) (v := .int 0) hx hb hts (by decide +kernel) hown hK hP 1 rfl rfl 8 (by decide) (hts (.fieldLink RX6 39 "WaxrowModel$House" "roomCount" "I") (by decide +kernel)) (fun _ h9 => h9) rfl dX6_room_84 ?_
        refine lv_dup_x1 hx hb dX6_room_87 rfl rfl ?_
        refine lv_iconst (v := 1) hx hb dX6_room_88 (by decide) ?_
        refine lv_iadd hx hb dX6_room_89 ?_
        refine va_put (ci := cRh) (C := RX5) (T := TX5) (N := 14) (ty := .int) hx hb hts (by decide +kernel) tyX5 tyX5_ok nmX5 hown hK hP hD hS 1 rfl rfl 8 (by decide) (hts (.fieldLink RX6 39 "WaxrowModel$House" "roomCount" "I") (by decide +kernel)) (fun _ h9 => h9) rfl (by decide +kernel) rfl rfl (Nat.le_of_ble_eq_true rfl) dX6_room_90 (fun H locs hP hD hS => ?_)
        have hP : va_P D vwCl [(x0, .inr (cRm, [.int 0, .ref x1])), (x1, .inr (cRh, [.ref a0, .ref a1, .ref a2, .ref a3, .ref a4, .ref a5, .int 0, .int 0, .int (0 + 1), .int 0, .int 0, .int 5, .int 200, .int 30])), (a4, .inl (cI, 5, .inl (upd (g4) (0 : Int32).toNatClampNeg k))), (a5, .inl (cI, 5, .inl (upd (g5) (0 : Int32).toNatClampNeg u)))] H := hP
        have hD : va_D A [(x0, .inr (cRm, [.int 0, .ref x1])), (x1, .inr (cRh, [.ref a0, .ref a1, .ref a2, .ref a3, .ref a4, .ref a5, .int 0, .int 0, .int (0 + 1), .int 0, .int 0, .int 5, .int 200, .int 30])), (a4, .inl (cI, 5, .inl (upd (g4) (0 : Int32).toNatClampNeg k))), (a5, .inl (cI, 5, .inl (upd (g5) (0 : Int32).toNatClampNeg u)))] := hD
        exact W.iret (v := 0) hx hb hr (fun U9 ht hW9 => ⟨⟨0, (), rfl, rfl, by show va_P D vwCl _ U9.heap; rw [ht]; exact hP.sub [0] rfl⟩, hS.F ht⟩) hS.2.2 dX6_room_93
      · exact absurd c_38 (by decide +kernel)
    · exact absurd (h2.symm.trans c_21) (by decide)
set_option maxHeartbeats 4000000 in
set_option maxRecDepth 100000 in
/-- the reference: price, out of bounds -/
theorem rX6_price_bad (l : Launch) (D : va_G) (cI cB : ClassId) (sz : Nat) (x0 x1 a0 a1 a2 a3 a4 a5 : Nat) (t k : Int32) (A : Nat → Prop) (hD : va_D A [(x0, .inr (cRm, [.int t, .ref x1])), (x1, .inr (cRh, [.ref a0, .ref a1, .ref a2, .ref a3, .ref a4, .ref a5, .int 0, .int 0, .int 0, .int 0, .int 0, .int 5, .int 200, .int 30]))]) (h0 : sp_in k 0 20 = 0) : rf_Mi l yX6_price wsX6_price ({ frames := 1, cells := 0, slots := 0, locals := 44 }) D [(cI, .int), (cB, .array .int)] sz [(x0, .inr (cRm, [.int t, .ref x1])), (x1, .inr (cRh, [.ref a0, .ref a1, .ref a2, .ref a3, .ref a4, .ref a5, .int 0, .int 0, .int 0, .int 0, .int 0, .int 5, .int 200, .int 30]))] [(x0, .inr (cRm, [.int 1, .ref x1]))] A [.ref x0, .int k] (fun r => r = 0) 0 0 := by
  refine Met.ofW (cc := cX6_price) (maxL := 3) (ret := (some .int)) (by decide) rfl ?_
  intro p e s m args below meth c s₁ B hml hv
  obtain ⟨rfl, hsz, hP, hK⟩ := hv
  have hx := B.exec
  have hb := B.bytes
  have hr := B.returns
  have hts := atoms_spec (ws := wsX6_price) B.pre
  have hown : s.vm.findClass RX6 = some m.cls := findClass_of_methodNamed B.named
  have hlocks := B.notSynchronized
  have hS : va_S A s.heap s.heap [] := va_S.rf
  have hP : va_P D vwCl [(x0, .inr (cRm, [.int t, .ref x1])), (x1, .inr (cRh, [.ref a0, .ref a1, .ref a2, .ref a3, .ref a4, .ref a5, .int 0, .int 0, .int 0, .int 0, .int 0, .int 5, .int 200, .int 30]))] s.heap := hP
  have hl := lv_entry ([.ref x0, .int k]) (n := 3) (Nat.le_of_ble_eq_true rfl)
  rw [lg_entry_eq]
  generalize (lg_sl ([.ref x0, .int k]) ++ List.replicate (3 - (lg_sl ([.ref x0, .int k])).length) Slot.unset).toArray = ls at hl ⊢
  have hl : lv_has ls 3 [(0, .ref x0), (1, .int k)] := hl
  refine lv_aload_n hx hb dX6_price_0 rfl (lv_at hl 0 rfl) ?_
  refine lv_iconst (v := 0) hx hb dX6_price_1 (by decide) ?_
  refine va_put (ci := cRm) (C := RX6) (T := TX6) (N := 2) (ty := .int) hx hb hts (by decide +kernel) tyX6 tyX6_ok nmX6 hown hK hP hD hS 0 rfl rfl 0 (by decide) (hts (.fieldLink RX6 16 "WaxrowModel" "thrown" "I") (by decide +kernel)) (fun _ h9 => h9) rfl (by decide +kernel) rfl rfl (Nat.le_of_ble_eq_true rfl) dX6_price_2 (fun H locs hP hD hS => ?_)
  have hP : va_P D vwCl [(x0, .inr (cRm, [.int 0, .ref x1])), (x1, .inr (cRh, [.ref a0, .ref a1, .ref a2, .ref a3, .ref a4, .ref a5, .int 0, .int 0, .int 0, .int 0, .int 0, .int 5, .int 200, .int 30]))] H := hP
  have hD : va_D A [(x0, .inr (cRm, [.int 0, .ref x1])), (x1, .inr (cRh, [.ref a0, .ref a1, .ref a2, .ref a3, .ref a4, .ref a5, .int 0, .int 0, .int 0, .int 0, .int 0, .int 5, .int 200, .int 30]))] := hD
  refine lv_iload_n hx hb dX6_price_5 rfl (lv_at hl 1 rfl) ?_
  refine lv_iconst (v := 0) hx hb dX6_price_6 (by decide) ?_
  refine lv_bipush (v := 20) hx hb dX6_price_7 (by decide) ?_
  refine rf_runR (As := [.int k, .int 0, .int 20]) ⟨hx, hb, hml, hown, hts⟩ (rX6_in l k 0 20) (va_cwS 3 hts gX6_price_X6_in rfl rfl rfl (by decide +kernel) ⟨Nat.le_of_ble_eq_true rfl, Nat.le_of_ble_eq_true rfl⟩) hP hS rfl hl.1 (Nat.le_of_ble_eq_true rfl) dX6_price_9 ⟨Nat.le_of_ble_eq_true rfl, Nat.le_of_ble_eq_true rfl⟩ rfl (fun r_ H locs hp hP hS => ?_)
  obtain rfl := hp
  have hP : va_P D vwCl [(x0, .inr (cRm, [.int 0, .ref x1])), (x1, .inr (cRh, [.ref a0, .ref a1, .ref a2, .ref a3, .ref a4, .ref a5, .int 0, .int 0, .int 0, .int 0, .int 0, .int 5, .int 200, .int 30]))] H := hP
  refine lv_if_ne (tgt := 21) hx hb dX6_price_12 (by decide) (fun c_12 => ?_) (fun c_12 => ?_)
  · exact (c_12 h0).elim
  · refine lv_aload_n hx hb dX6_price_15 rfl (lv_at hl 0 rfl) ?_
    refine lv_iconst (v := 1) hx hb dX6_price_16 (by decide) ?_
    refine rf_callW (As := [.int 1]) (V := [(x0, .inr (cRm, [.int 0, .ref x1]))]) (V2 := [(x0, .inr (cRm, [.int 1, .ref x1]))]) (q0 := 0) (ci := cRm) (r := (RX6, TX6, 2)) ⟨hx, hb, hml, hown, hts⟩ (rX6_no l D cI cB H.size x0 x1 0 1 A (hD.sub [0] (by decide) rfl)) (cwV 1 hts gX6_price_X6_no rfl rfl rfl (by decide +kernel) ⟨Nat.le_of_ble_eq_true rfl, Nat.le_of_ble_eq_true rfl⟩) hK hP (hP.sub [0] rfl) hS rfl rfl rfl rfl hl.1 (Nat.le_of_ble_eq_true rfl) dX6_price_17 ⟨Nat.le_of_ble_eq_true rfl, Nat.le_of_ble_eq_true rfl⟩ rfl (fun r_ H locs hp hP hS => ?_)
    subst hp
    have hP : va_P D vwCl [(x0, .inr (cRm, [.int 1, .ref x1]))] H := hP
    exact W.iret (v := 0) hx hb hr (fun U9 ht hW9 => ⟨⟨0, (), rfl, rfl, by show va_P D vwCl _ U9.heap; rw [ht]; exact hP.sub [0] rfl⟩, hS.F ht⟩) hS.2.2 dX6_price_20
set_option maxHeartbeats 4000000 in
set_option maxRecDepth 100000 in
/-- the reference: price -/
theorem rX6_price_ok (l : Launch) (D : va_G) (cI cB : ClassId) (sz : Nat) (x0 x1 a0 a1 a2 a3 a4 a5 : Nat) (t k : Int32) (A : Nat → Prop) (hD : va_D A [(x0, .inr (cRm, [.int t, .ref x1])), (x1, .inr (cRh, [.ref a0, .ref a1, .ref a2, .ref a3, .ref a4, .ref a5, .int 0, .int 0, .int 0, .int 0, .int 0, .int 5, .int 200, .int 30]))]) (h1 : sp_in k 0 20 = 1) : rf_Mi l yX6_price wsX6_price ({ frames := 1, cells := 0, slots := 0, locals := 44 }) D [(cI, .int), (cB, .array .int)] sz [(x0, .inr (cRm, [.int t, .ref x1])), (x1, .inr (cRh, [.ref a0, .ref a1, .ref a2, .ref a3, .ref a4, .ref a5, .int 0, .int 0, .int 0, .int 0, .int 0, .int 5, .int 200, .int 30]))] [(x0, .inr (cRm, [.int 0, .ref x1]))] A [.ref x0, .int k] (fun r => r = 5) 0 0 := by
  refine Met.ofW (cc := cX6_price) (maxL := 3) (ret := (some .int)) (by decide) rfl ?_
  intro p e s m args below meth c s₁ B hml hv
  obtain ⟨rfl, hsz, hP, hK⟩ := hv
  have hx := B.exec
  have hb := B.bytes
  have hr := B.returns
  have hts := atoms_spec (ws := wsX6_price) B.pre
  have hown : s.vm.findClass RX6 = some m.cls := findClass_of_methodNamed B.named
  have hlocks := B.notSynchronized
  have hS : va_S A s.heap s.heap [] := va_S.rf
  have hP : va_P D vwCl [(x0, .inr (cRm, [.int t, .ref x1])), (x1, .inr (cRh, [.ref a0, .ref a1, .ref a2, .ref a3, .ref a4, .ref a5, .int 0, .int 0, .int 0, .int 0, .int 0, .int 5, .int 200, .int 30]))] s.heap := hP
  have hl := lv_entry ([.ref x0, .int k]) (n := 3) (Nat.le_of_ble_eq_true rfl)
  rw [lg_entry_eq]
  generalize (lg_sl ([.ref x0, .int k]) ++ List.replicate (3 - (lg_sl ([.ref x0, .int k])).length) Slot.unset).toArray = ls at hl ⊢
  have hl : lv_has ls 3 [(0, .ref x0), (1, .int k)] := hl
  refine lv_aload_n hx hb dX6_price_0 rfl (lv_at hl 0 rfl) ?_
  refine lv_iconst (v := 0) hx hb dX6_price_1 (by decide) ?_
  refine va_put (ci := cRm) (C := RX6) (T := TX6) (N := 2) (ty := .int) hx hb hts (by decide +kernel) tyX6 tyX6_ok nmX6 hown hK hP hD hS 0 rfl rfl 0 (by decide) (hts (.fieldLink RX6 16 "WaxrowModel" "thrown" "I") (by decide +kernel)) (fun _ h9 => h9) rfl (by decide +kernel) rfl rfl (Nat.le_of_ble_eq_true rfl) dX6_price_2 (fun H locs hP hD hS => ?_)
  have hP : va_P D vwCl [(x0, .inr (cRm, [.int 0, .ref x1])), (x1, .inr (cRh, [.ref a0, .ref a1, .ref a2, .ref a3, .ref a4, .ref a5, .int 0, .int 0, .int 0, .int 0, .int 0, .int 5, .int 200, .int 30]))] H := hP
  have hD : va_D A [(x0, .inr (cRm, [.int 0, .ref x1])), (x1, .inr (cRh, [.ref a0, .ref a1, .ref a2, .ref a3, .ref a4, .ref a5, .int 0, .int 0, .int 0, .int 0, .int 0, .int 5, .int 200, .int 30]))] := hD
  refine lv_iload_n hx hb dX6_price_5 rfl (lv_at hl 1 rfl) ?_
  refine lv_iconst (v := 0) hx hb dX6_price_6 (by decide) ?_
  refine lv_bipush (v := 20) hx hb dX6_price_7 (by decide) ?_
  refine rf_runR (As := [.int k, .int 0, .int 20]) ⟨hx, hb, hml, hown, hts⟩ (rX6_in l k 0 20) (va_cwS 3 hts gX6_price_X6_in rfl rfl rfl (by decide +kernel) ⟨Nat.le_of_ble_eq_true rfl, Nat.le_of_ble_eq_true rfl⟩) hP hS rfl hl.1 (Nat.le_of_ble_eq_true rfl) dX6_price_9 ⟨Nat.le_of_ble_eq_true rfl, Nat.le_of_ble_eq_true rfl⟩ rfl (fun r_ H locs hp hP hS => ?_)
  obtain rfl := hp
  have hP : va_P D vwCl [(x0, .inr (cRm, [.int 0, .ref x1])), (x1, .inr (cRh, [.ref a0, .ref a1, .ref a2, .ref a3, .ref a4, .ref a5, .int 0, .int 0, .int 0, .int 0, .int 0, .int 5, .int 200, .int 30]))] H := hP
  refine lv_if_ne (tgt := 21) hx hb dX6_price_12 (by decide) (fun c_12 => ?_) (fun c_12 => ?_)
  · refine lv_aload_n hx hb dX6_price_21 rfl (lv_at hl 0 rfl) ?_
    refine va_get (D := D) (ci := cRm) (C := RX6) (T := TX6) (N := 2) (v := .ref x1) hx hb hts (by decide +kernel) hown hK hP 0 rfl rfl 1 (by decide) (hts (.fieldLink RX6 10 "WaxrowModel" "house" "LWaxrowModel$House;") (by decide +kernel)) (fun _ h9 => h9) rfl dX6_price_22 ?_
    refine va_get (D := D) (ci := cRh) (C := RX5) (T := TX5) (N := 14) (v := .int 5) hx hb hts (by decide +kernel) hown hK hP 1 rfl rfl 11 (by decide) (hts (.fieldLink RX6 121 "WaxrowModel$House" "price" "I") (by decide +kernel)) (fun _ h9 => h9) rfl dX6_price_25 ?_
    refine lv_istore_n (lv' := [(2, .int 5), (0, .ref x0), (1, .int k)]) hx hb dX6_price_28 rfl hl (by decide) rfl (fun ls hl => ?_)
    refine lv_aload_n hx hb dX6_price_29 rfl (lv_at hl 1 rfl) ?_
    refine va_get (D := D) (ci := cRm) (C := RX6) (T := TX6) (N := 2) (v := .ref x1) hx hb hts (by decide +kernel) hown hK hP 0 rfl rfl 1 (by decide) (hts (.fieldLink RX6 10 "WaxrowModel" "house" "LWaxrowModel$House;") (by decide +kernel)) (fun _ h9 => h9) rfl dX6_price_30 ?_
    refine lv_iload_n hx hb dX6_price_33 rfl (lv_at hl 2 rfl) ?_
    refine va_put (ci := cRh) (C := RX5) (T := TX5) (N := 14) (ty := .int) hx hb hts (by decide +kernel) tyX5 tyX5_ok nmX5 hown hK hP hD hS 1 rfl rfl 11 (by decide) (hts (.fieldLink RX6 121 "WaxrowModel$House" "price" "I") (by decide +kernel)) (fun _ h9 => h9) rfl (by decide +kernel) rfl rfl (Nat.le_of_ble_eq_true rfl) dX6_price_34 (fun H locs hP hD hS => ?_)
    have hP : va_P D vwCl [(x0, .inr (cRm, [.int 0, .ref x1])), (x1, .inr (cRh, [.ref a0, .ref a1, .ref a2, .ref a3, .ref a4, .ref a5, .int 0, .int 0, .int 0, .int 0, .int 0, .int k, .int 200, .int 30]))] H := hP
    have hD : va_D A [(x0, .inr (cRm, [.int 0, .ref x1])), (x1, .inr (cRh, [.ref a0, .ref a1, .ref a2, .ref a3, .ref a4, .ref a5, .int 0, .int 0, .int 0, .int 0, .int 0, .int k, .int 200, .int 30]))] := hD
    refine lv_iload_n hx hb dX6_price_37 rfl (lv_at hl 0 rfl) ?_
    exact W.iret (v := 5) hx hb hr (fun U9 ht hW9 => ⟨⟨5, (), rfl, rfl, by show va_P D vwCl _ U9.heap; rw [ht]; exact hP.sub [0] rfl⟩, hS.F ht⟩) hS.2.2 dX6_price_38
  · exact absurd (h1.symm.trans c_12) (by decide)
set_option maxHeartbeats 4000000 in
set_option maxRecDepth 100000 in
/-- the reference: countAt -/
theorem rX6_countAt (l : Launch) (D : va_G) (cI cB : ClassId) (sz : Nat) (x0 x1 a0 a1 a2 a3 a4 a5 : Nat) (t k u : Int32) : rf_Mi l yX6_countAt wsX6_countAt ({ frames := 0, cells := 0, slots := 0, locals := 0 }) D [(cI, .int), (cB, .array .int)] sz [(x0, .inr (cRm, [.int t, .ref x1])), (x1, .inr (cRh, [.ref a0, .ref a1, .ref a2, .ref a3, .ref a4, .ref a5, .int 0, .int 0, .int 0, .int 0, .int 0, .int 5, .int 200, .int 30]))] [(x0, .inr (cRm, [.int t, .ref x1])), (x1, .inr (cRh, [.ref a0, .ref a1, .ref a2, .ref a3, .ref a4, .ref a5, .int 0, .int 0, .int 0, .int 0, .int 0, .int 5, .int 200, .int 30]))] (fun _ => False) [.ref x0, .int k, .int u] (fun r => r = 0) 0 0 := by
  refine Met.ofW (cc := cX6_countAt) (maxL := 5) (ret := (some .int)) (by decide) rfl ?_
  intro p e s m args below meth c s₁ B hml hv
  obtain ⟨rfl, hsz, hP, hK⟩ := hv
  have hx := B.exec
  have hb := B.bytes
  have hr := B.returns
  have hts := atoms_spec (ws := wsX6_countAt) B.pre
  have hown : s.vm.findClass RX6 = some m.cls := findClass_of_methodNamed B.named
  have hlocks := B.notSynchronized
  have hS : va_S (fun _ => False) s.heap s.heap [] := va_S.rf
  have hP : va_P D vwCl [(x0, .inr (cRm, [.int t, .ref x1])), (x1, .inr (cRh, [.ref a0, .ref a1, .ref a2, .ref a3, .ref a4, .ref a5, .int 0, .int 0, .int 0, .int 0, .int 0, .int 5, .int 200, .int 30]))] s.heap := hP
  have hl := lv_entry ([.ref x0, .int k, .int u]) (n := 5) (Nat.le_of_ble_eq_true rfl)
  rw [lg_entry_eq]
  generalize (lg_sl ([.ref x0, .int k, .int u]) ++ List.replicate (5 - (lg_sl ([.ref x0, .int k, .int u])).length) Slot.unset).toArray = ls at hl ⊢
  have hl : lv_has ls 5 [(0, .ref x0), (1, .int k), (2, .int u)] := hl
  refine lv_iconst (v := 0) hx hb dX6_countAt_0 (by decide) ?_
  refine lv_istore_n (lv' := [(3, .int 0), (0, .ref x0), (1, .int k), (2, .int u)]) hx hb dX6_countAt_1 rfl hl (by decide) rfl (fun ls hl => ?_)
  refine lv_iconst (v := 0) hx hb dX6_countAt_2 (by decide) ?_
  refine lv_istore (lv' := [(4, .int 0), (3, .int 0), (0, .ref x0), (1, .int k), (2, .int u)]) hx hb dX6_countAt_3 hl (by decide) rfl (fun ls hl => ?_)
  refine lv_iload hx hb dX6_countAt_5 (lv_at hl 0 rfl) ?_
  refine lv_aload_n hx hb dX6_countAt_7 rfl (lv_at hl 2 rfl) ?_
  refine va_get (D := D) (ci := cRm) (C := RX6) (T := TX6) (N := 2) (v := .ref x1) hx hb hts (by decide +kernel) hown hK hP 0 rfl rfl 1 (by decide) (hts (.fieldLink RX6 10 "WaxrowModel" "house" "LWaxrowModel$House;") (by decide +kernel)) (fun _ h9 => h9) rfl dX6_countAt_8 ?_
  refine va_get (D := D) (ci := cRh) (C := RX5) (T := TX5) (N := 14) (v := .int 0) hx hb hts (by decide +kernel) hown hK hP 1 rfl rfl 7 (by decide) (hts (.fieldLink RX6 36 "WaxrowModel$House" "figureCount" "I") (by decide +kernel)) (fun _ h9 => h9) rfl dX6_countAt_11 ?_
  refine lv_icmp_ge (tgt := 52) hx hb dX6_countAt_14 (by decide) (fun c_14 => ?_) (fun c_14 => ?_)
  · refine lv_iload_n hx hb dX6_countAt_52 rfl (lv_at hl 1 rfl) ?_
    exact W.iret (v := 0) hx hb hr (fun U9 ht hW9 => ⟨⟨0, (), rfl, rfl, by show va_P D vwCl _ U9.heap; rw [ht]; exact hP.sub [0, 1] rfl⟩, hS.F ht⟩) hS.2.2 dX6_countAt_53
  · exact absurd (by decide +kernel) c_14
set_option maxHeartbeats 4000000 in
set_option maxRecDepth 100000 in
/-- the reference: hands -/
theorem rX5_hands (l : Launch) (D : va_G) (cI cB : ClassId) (sz : Nat) (x0 x1 a0 a1 a2 a3 a4 a5 : Nat)  : rf_Mi l yX5_hands wsX5_hands ({ frames := 0, cells := 0, slots := 0, locals := 0 }) D [(cI, .int), (cB, .array .int)] sz [(x1, .inr (cRh, [.ref a0, .ref a1, .ref a2, .ref a3, .ref a4, .ref a5, .int 0, .int 0, .int 0, .int 0, .int 0, .int 5, .int 200, .int 30]))] [(x1, .inr (cRh, [.ref a0, .ref a1, .ref a2, .ref a3, .ref a4, .ref a5, .int 0, .int 0, .int 0, .int 0, .int 0, .int 5, .int 200, .int 30]))] (fun _ => False) [.ref x1] (fun r => r = 0) 0 0 := by
  refine Met.ofW (cc := cX5_hands) (maxL := 3) (ret := (some .int)) (by decide) rfl ?_
  intro p e s m args below meth c s₁ B hml hv
  obtain ⟨rfl, hsz, hP, hK⟩ := hv
  have hx := B.exec
  have hb := B.bytes
  have hr := B.returns
  have hts := atoms_spec (ws := wsX5_hands) B.pre
  have hown : s.vm.findClass RX5 = some m.cls := findClass_of_methodNamed B.named
  have hlocks := B.notSynchronized
  have hS : va_S (fun _ => False) s.heap s.heap [] := va_S.rf
  have hP : va_P D vwCl [(x1, .inr (cRh, [.ref a0, .ref a1, .ref a2, .ref a3, .ref a4, .ref a5, .int 0, .int 0, .int 0, .int 0, .int 0, .int 5, .int 200, .int 30]))] s.heap := hP
  have hl := lv_entry ([.ref x1]) (n := 3) (Nat.le_of_ble_eq_true rfl)
  rw [lg_entry_eq]
  generalize (lg_sl ([.ref x1]) ++ List.replicate (3 - (lg_sl ([.ref x1])).length) Slot.unset).toArray = ls at hl ⊢
  have hl : lv_has ls 3 [(0, .ref x1)] := hl
  refine lv_iconst (v := 0) hx hb dX5_hands_0 (by decide) ?_
  refine lv_istore_n (lv' := [(1, .int 0), (0, .ref x1)]) hx hb dX5_hands_1 rfl hl (by decide) rfl (fun ls hl => ?_)
  refine lv_iconst (v := 0) hx hb dX5_hands_2 (by decide) ?_
  refine lv_istore_n (lv' := [(2, .int 0), (1, .int 0), (0, .ref x1)]) hx hb dX5_hands_3 rfl hl (by decide) rfl (fun ls hl => ?_)
  refine lv_iload_n hx hb dX5_hands_4 rfl (lv_at hl 0 rfl) ?_
  refine lv_aload_n hx hb dX5_hands_5 rfl (lv_at hl 2 rfl) ?_
  refine va_get (D := D) (ci := cRh) (C := RX5) (T := TX5) (N := 14) (v := .int 0) hx hb hts (by decide +kernel) hown hK hP 0 rfl rfl 7 (by decide) (hts (.fieldLink RX5 56 "WaxrowModel$House" "figureCount" "I") (by decide +kernel)) (fun _ h9 => h9) rfl dX5_hands_6 ?_
  refine lv_icmp_ge (tgt := 29) hx hb dX5_hands_9 (by decide) (fun c_9 => ?_) (fun c_9 => ?_)
  · refine lv_iload_n hx hb dX5_hands_29 rfl (lv_at hl 1 rfl) ?_
    exact W.iret (v := 0) hx hb hr (fun U9 ht hW9 => ⟨⟨0, (), rfl, rfl, by show va_P D vwCl _ U9.heap; rw [ht]; exact hP.sub [0] rfl⟩, hS.F ht⟩) hS.2.2 dX5_hands_30
  · exact absurd (by decide +kernel) c_9
set_option maxHeartbeats 4000000 in
set_option maxRecDepth 100000 in
/-- the reference: drawsIn -/
theorem rX5_drawsIn (l : Launch) (D : va_G) (cI cB : ClassId) (sz : Nat) (x0 x1 a0 a1 a2 a3 a4 a5 : Nat) (k u : Int32) : rf_Mi l yX5_drawsIn wsX5_drawsIn ({ frames := 0, cells := 0, slots := 0, locals := 0 }) D [(cI, .int), (cB, .array .int)] sz [(x1, .inr (cRh, [.ref a0, .ref a1, .ref a2, .ref a3, .ref a4, .ref a5, .int 0, .int 0, .int 0, .int 0, .int 0, .int 5, .int 200, .int 30]))] [(x1, .inr (cRh, [.ref a0, .ref a1, .ref a2, .ref a3, .ref a4, .ref a5, .int 0, .int 0, .int 0, .int 0, .int 0, .int 5, .int 200, .int 30]))] (fun _ => False) [.ref x1, .int k, .int u] (fun r => r = 0) 0 0 := by
  refine Met.ofW (cc := cX5_drawsIn) (maxL := 5) (ret := (some .int)) (by decide) rfl ?_
  intro p e s m args below meth c s₁ B hml hv
  obtain ⟨rfl, hsz, hP, hK⟩ := hv
  have hx := B.exec
  have hb := B.bytes
  have hr := B.returns
  have hts := atoms_spec (ws := wsX5_drawsIn) B.pre
  have hown : s.vm.findClass RX5 = some m.cls := findClass_of_methodNamed B.named
  have hlocks := B.notSynchronized
  have hS : va_S (fun _ => False) s.heap s.heap [] := va_S.rf
  have hP : va_P D vwCl [(x1, .inr (cRh, [.ref a0, .ref a1, .ref a2, .ref a3, .ref a4, .ref a5, .int 0, .int 0, .int 0, .int 0, .int 0, .int 5, .int 200, .int 30]))] s.heap := hP
  have hl := lv_entry ([.ref x1, .int k, .int u]) (n := 5) (Nat.le_of_ble_eq_true rfl)
  rw [lg_entry_eq]
  generalize (lg_sl ([.ref x1, .int k, .int u]) ++ List.replicate (5 - (lg_sl ([.ref x1, .int k, .int u])).length) Slot.unset).toArray = ls at hl ⊢
  have hl : lv_has ls 5 [(0, .ref x1), (1, .int k), (2, .int u)] := hl
  refine lv_iconst (v := 0) hx hb dX5_drawsIn_0 (by decide) ?_
  refine lv_istore_n (lv' := [(3, .int 0), (0, .ref x1), (1, .int k), (2, .int u)]) hx hb dX5_drawsIn_1 rfl hl (by decide) rfl (fun ls hl => ?_)
  refine lv_iconst (v := 0) hx hb dX5_drawsIn_2 (by decide) ?_
  refine lv_istore (lv' := [(4, .int 0), (3, .int 0), (0, .ref x1), (1, .int k), (2, .int u)]) hx hb dX5_drawsIn_3 hl (by decide) rfl (fun ls hl => ?_)
  refine lv_iload hx hb dX5_drawsIn_5 (lv_at hl 0 rfl) ?_
  refine lv_aload_n hx hb dX5_drawsIn_7 rfl (lv_at hl 2 rfl) ?_
  refine va_get (D := D) (ci := cRh) (C := RX5) (T := TX5) (N := 14) (v := .int 0) hx hb hts (by decide +kernel) hown hK hP 0 rfl rfl 7 (by decide) (hts (.fieldLink RX5 56 "WaxrowModel$House" "figureCount" "I") (by decide +kernel)) (fun _ h9 => h9) rfl dX5_drawsIn_8 ?_
  refine lv_icmp_ge (tgt := 56) hx hb dX5_drawsIn_11 (by decide) (fun c_11 => ?_) (fun c_11 => ?_)
  · refine lv_iload_n hx hb dX5_drawsIn_56 rfl (lv_at hl 1 rfl) ?_
    exact W.iret (v := 0) hx hb hr (fun U9 ht hW9 => ⟨⟨0, (), rfl, rfl, by show va_P D vwCl _ U9.heap; rw [ht]; exact hP.sub [0] rfl⟩, hS.F ht⟩) hS.2.2 dX5_drawsIn_57
  · exact absurd (by decide +kernel) c_11
set_option maxHeartbeats 4000000 in
set_option maxRecDepth 100000 in
/-- the reference: nextNow -/
theorem rX6_nextNow (l : Launch) (D : va_G) (cI cB : ClassId) (sz : Nat) (x0 x1 a0 a1 a2 a3 a4 a5 : Nat) (t : Int32) : rf_Mi l yX6_nextNow wsX6_nextNow ({ frames := 0, cells := 0, slots := 0, locals := 0 }) D [(cI, .int), (cB, .array .int)] sz [(x0, .inr (cRm, [.int t, .ref x1])), (x1, .inr (cRh, [.ref a0, .ref a1, .ref a2, .ref a3, .ref a4, .ref a5, .int 0, .int 0, .int 0, .int 0, .int 0, .int 5, .int 200, .int 30]))] [(x0, .inr (cRm, [.int t, .ref x1])), (x1, .inr (cRh, [.ref a0, .ref a1, .ref a2, .ref a3, .ref a4, .ref a5, .int 0, .int 0, .int 0, .int 0, .int 0, .int 5, .int 200, .int 30]))] (fun _ => False) [.ref x0] (fun r => r = -1) 0 0 := by
  refine Met.ofW (cc := cX6_nextNow) (maxL := 4) (ret := (some .int)) (by decide) rfl ?_
  intro p e s m args below meth c s₁ B hml hv
  obtain ⟨rfl, hsz, hP, hK⟩ := hv
  have hx := B.exec
  have hb := B.bytes
  have hr := B.returns
  have hts := atoms_spec (ws := wsX6_nextNow) B.pre
  have hown : s.vm.findClass RX6 = some m.cls := findClass_of_methodNamed B.named
  have hlocks := B.notSynchronized
  have hS : va_S (fun _ => False) s.heap s.heap [] := va_S.rf
  have hP : va_P D vwCl [(x0, .inr (cRm, [.int t, .ref x1])), (x1, .inr (cRh, [.ref a0, .ref a1, .ref a2, .ref a3, .ref a4, .ref a5, .int 0, .int 0, .int 0, .int 0, .int 0, .int 5, .int 200, .int 30]))] s.heap := hP
  have hl := lv_entry ([.ref x0]) (n := 4) (Nat.le_of_ble_eq_true rfl)
  rw [lg_entry_eq]
  generalize (lg_sl ([.ref x0]) ++ List.replicate (4 - (lg_sl ([.ref x0])).length) Slot.unset).toArray = ls at hl ⊢
  have hl : lv_has ls 4 [(0, .ref x0)] := hl
  refine lv_iconst (v := (-1)) hx hb dX6_nextNow_0 (by decide) ?_
  refine lv_istore_n (lv' := [(1, .int (-1)), (0, .ref x0)]) hx hb dX6_nextNow_1 rfl hl (by decide) rfl (fun ls hl => ?_)
  refine lv_iconst (v := 0) hx hb dX6_nextNow_2 (by decide) ?_
  refine lv_istore_n (lv' := [(2, .int 0), (1, .int (-1)), (0, .ref x0)]) hx hb dX6_nextNow_3 rfl hl (by decide) rfl (fun ls hl => ?_)
  refine lv_iload_n hx hb dX6_nextNow_4 rfl (lv_at hl 0 rfl) ?_
  refine lv_aload_n hx hb dX6_nextNow_5 rfl (lv_at hl 2 rfl) ?_
  refine va_get (D := D) (ci := cRm) (C := RX6) (T := TX6) (N := 2) (v := .ref x1) hx hb hts (by decide +kernel) hown hK hP 0 rfl rfl 1 (by decide) (hts (.fieldLink RX6 10 "WaxrowModel" "house" "LWaxrowModel$House;") (by decide +kernel)) (fun _ h9 => h9) rfl dX6_nextNow_6 ?_
  refine va_get (D := D) (ci := cRh) (C := RX5) (T := TX5) (N := 14) (v := .int 0) hx hb hts (by decide +kernel) hown hK hP 1 rfl rfl 6 (by decide) (hts (.fieldLink RX6 29 "WaxrowModel$House" "personCount" "I") (by decide +kernel)) (fun _ h9 => h9) rfl dX6_nextNow_9 ?_
  refine lv_icmp_ge (tgt := 103) hx hb dX6_nextNow_12 (by decide) (fun c_12 => ?_) (fun c_12 => ?_)
  · refine lv_iload_n hx hb dX6_nextNow_103 rfl (lv_at hl 1 rfl) ?_
    exact W.iret (v := (-1)) hx hb hr (fun U9 ht hW9 => ⟨⟨(-1), (), rfl, rfl, by show va_P D vwCl _ U9.heap; rw [ht]; exact hP.sub [0, 1] rfl⟩, hS.F ht⟩) hS.2.2 dX6_nextNow_104
  · exact absurd (by decide +kernel) c_12
set_option maxHeartbeats 4000000 in
set_option maxRecDepth 100000 in
/-- the reference: bestNext -/
theorem rX6_bestNext (l : Launch) (D : va_G) (cI cB : ClassId) (sz : Nat) (x0 x1 a0 a1 a2 a3 a4 a5 : Nat) (t : Int32) (A : Nat → Prop) (hD : va_D A [(x0, .inr (cRm, [.int t, .ref x1])), (x1, .inr (cRh, [.ref a0, .ref a1, .ref a2, .ref a3, .ref a4, .ref a5, .int 0, .int 0, .int 0, .int 0, .int 0, .int 5, .int 200, .int 30]))]) : rf_Mi l yX6_bestNext wsX6_bestNext ({ frames := 1, cells := 0, slots := 0, locals := 24 }) D [(cI, .int), (cB, .array .int)] sz [(x0, .inr (cRm, [.int t, .ref x1])), (x1, .inr (cRh, [.ref a0, .ref a1, .ref a2, .ref a3, .ref a4, .ref a5, .int 0, .int 0, .int 0, .int 0, .int 0, .int 5, .int 200, .int 30]))] [(x0, .inr (cRm, [.int 0, .ref x1]))] A [.ref x0] (fun r => r = -1) 0 0 := by
  refine Met.ofW (cc := cX6_bestNext) (maxL := 1) (ret := (some .int)) (by decide) rfl ?_
  intro p e s m args below meth c s₁ B hml hv
  obtain ⟨rfl, hsz, hP, hK⟩ := hv
  have hx := B.exec
  have hb := B.bytes
  have hr := B.returns
  have hts := atoms_spec (ws := wsX6_bestNext) B.pre
  have hown : s.vm.findClass RX6 = some m.cls := findClass_of_methodNamed B.named
  have hlocks := B.notSynchronized
  have hS : va_S A s.heap s.heap [] := va_S.rf
  have hP : va_P D vwCl [(x0, .inr (cRm, [.int t, .ref x1])), (x1, .inr (cRh, [.ref a0, .ref a1, .ref a2, .ref a3, .ref a4, .ref a5, .int 0, .int 0, .int 0, .int 0, .int 0, .int 5, .int 200, .int 30]))] s.heap := hP
  have hl := lv_entry ([.ref x0]) (n := 1) (Nat.le_of_ble_eq_true rfl)
  rw [lg_entry_eq]
  generalize (lg_sl ([.ref x0]) ++ List.replicate (1 - (lg_sl ([.ref x0])).length) Slot.unset).toArray = ls at hl ⊢
  have hl : lv_has ls 1 [(0, .ref x0)] := hl
  refine lv_aload_n hx hb dX6_bestNext_0 rfl (lv_at hl 0 rfl) ?_
  refine lv_iconst (v := 0) hx hb dX6_bestNext_1 (by decide) ?_
  refine va_put (ci := cRm) (C := RX6) (T := TX6) (N := 2) (ty := .int) hx hb hts (by decide +kernel) tyX6 tyX6_ok nmX6 hown hK hP hD hS 0 rfl rfl 0 (by decide) (hts (.fieldLink RX6 16 "WaxrowModel" "thrown" "I") (by decide +kernel)) (fun _ h9 => h9) rfl (by decide +kernel) rfl rfl (Nat.le_of_ble_eq_true rfl) dX6_bestNext_2 (fun H locs hP hD hS => ?_)
  have hP : va_P D vwCl [(x0, .inr (cRm, [.int 0, .ref x1])), (x1, .inr (cRh, [.ref a0, .ref a1, .ref a2, .ref a3, .ref a4, .ref a5, .int 0, .int 0, .int 0, .int 0, .int 0, .int 5, .int 200, .int 30]))] H := hP
  have hD : va_D A [(x0, .inr (cRm, [.int 0, .ref x1])), (x1, .inr (cRh, [.ref a0, .ref a1, .ref a2, .ref a3, .ref a4, .ref a5, .int 0, .int 0, .int 0, .int 0, .int 0, .int 5, .int 200, .int 30]))] := hD
  refine lv_aload_n hx hb dX6_bestNext_5 rfl (lv_at hl 0 rfl) ?_
  refine rf_callR (As := []) (V := [(x0, .inr (cRm, [.int 0, .ref x1])), (x1, .inr (cRh, [.ref a0, .ref a1, .ref a2, .ref a3, .ref a4, .ref a5, .int 0, .int 0, .int 0, .int 0, .int 0, .int 5, .int 200, .int 30]))]) (q0 := 0) (ci := cRm) (r := (RX6, TX6, 2)) ⟨hx, hb, hml, hown, hts⟩ (rX6_nextNow l D cI cB H.size x0 x1 a0 a1 a2 a3 a4 a5 0) (cwV 0 hts gX6_bestNext_X6_nextNow rfl rfl rfl (by decide +kernel) ⟨Nat.le_of_ble_eq_true rfl, Nat.le_of_ble_eq_true rfl⟩) hK hP (hP.sub [0, 1] rfl) hS rfl rfl rfl rfl hl.1 (Nat.le_of_ble_eq_true rfl) dX6_bestNext_6 ⟨Nat.le_of_ble_eq_true rfl, Nat.le_of_ble_eq_true rfl⟩ rfl (fun r_ H locs hp hP hS => ?_)
  subst hp
  have hP : va_P D vwCl [(x0, .inr (cRm, [.int 0, .ref x1])), (x1, .inr (cRh, [.ref a0, .ref a1, .ref a2, .ref a3, .ref a4, .ref a5, .int 0, .int 0, .int 0, .int 0, .int 0, .int 5, .int 200, .int 30]))] H := hP
  exact W.iret (v := (-1)) hx hb hr (fun U9 ht hW9 => ⟨⟨(-1), (), rfl, rfl, by show va_P D vwCl _ U9.heap; rw [ht]; exact hP.sub [0] rfl⟩, hS.F ht⟩) hS.2.2 dX6_bestNext_9
def rf_all : Nat → Int32 := fun n => match n with
  | 8 => 200
  | 9 => 30
  | 13 => 5
  | _ => 0
set_option maxHeartbeats 4000000 in
set_option maxRecDepth 100000 in
/-- the reference: manyNow -/
theorem rX6_manyNow (l : Launch) (D : va_G) (cI cB : ClassId) (sz : Nat) (x0 x1 a0 a1 a2 a3 a4 a5 : Nat) (t : Int32) (n : Nat) (hn : n < 15) (A : Nat → Prop) (hA : ∀ q, sz ≤ q → A q) (hD : va_D A [(x0, .inr (cRm, [.int t, .ref x1])), (x1, .inr (cRh, [.ref a0, .ref a1, .ref a2, .ref a3, .ref a4, .ref a5, .int 0, .int 0, .int 0, .int 0, .int 0, .int 5, .int 200, .int 30]))]) : rf_Mi l yX6_manyNow wsX6_manyNow ({ frames := 1, cells := 1, slots := 15, locals := 24 }) D [(cI, .int), (cB, .array .int)] sz [(x0, .inr (cRm, [.int t, .ref x1])), (x1, .inr (cRh, [.ref a0, .ref a1, .ref a2, .ref a3, .ref a4, .ref a5, .int 0, .int 0, .int 0, .int 0, .int 0, .int 5, .int 200, .int 30]))] [(x0, .inr (cRm, [.int t, .ref x1])), (x1, .inr (cRh, [.ref a0, .ref a1, .ref a2, .ref a3, .ref a4, .ref a5, .int 0, .int 0, .int 0, .int 0, .int 0, .int 5, .int 200, .int 30]))] A [.ref x0, .int (nI n)] (fun r => r = rf_all n) 1 15 := by
  refine Met.ofW (cc := cX6_manyNow) (maxL := 5) (ret := (some .int)) (by decide) rfl ?_
  intro p e s m args below meth c s₁ B hml hv
  obtain ⟨rfl, hsz, hP, hK⟩ := hv
  have hx := B.exec
  have hb := B.bytes
  have hr := B.returns
  have hts := atoms_spec (ws := wsX6_manyNow) B.pre
  have hown : s.vm.findClass RX6 = some m.cls := findClass_of_methodNamed B.named
  have hlocks := B.notSynchronized
  have hS : va_S A s.heap s.heap [] := va_S.rf
  have hP : va_P D vwCl [(x0, .inr (cRm, [.int t, .ref x1])), (x1, .inr (cRh, [.ref a0, .ref a1, .ref a2, .ref a3, .ref a4, .ref a5, .int 0, .int 0, .int 0, .int 0, .int 0, .int 5, .int 200, .int 30]))] s.heap := hP
  have hl := lv_entry ([.ref x0, .int (nI n)]) (n := 5) (Nat.le_of_ble_eq_true rfl)
  rw [lg_entry_eq]
  generalize (lg_sl ([.ref x0, .int (nI n)]) ++ List.replicate (5 - (lg_sl ([.ref x0, .int (nI n)])).length) Slot.unset).toArray = ls at hl ⊢
  have hl : lv_has ls 5 [(0, .ref x0), (1, .int (nI n))] := hl
  refine lv_iconst (v := 0) hx hb dX6_manyNow_0 (by decide) ?_
  refine lv_istore_n (lv' := [(2, .int 0), (0, .ref x0), (1, .int (nI n))]) hx hb dX6_manyNow_1 rfl hl (by decide) rfl (fun ls hl => ?_)
  refine lv_iconst (v := 0) hx hb dX6_manyNow_2 (by decide) ?_
  refine lv_istore_n (lv' := [(3, .int 0), (2, .int 0), (0, .ref x0), (1, .int (nI n))]) hx hb dX6_manyNow_3 rfl hl (by decide) rfl (fun ls hl => ?_)
  refine lv_iload_n hx hb dX6_manyNow_4 rfl (lv_at hl 0 rfl) ?_
  refine lv_aload_n hx hb dX6_manyNow_5 rfl (lv_at hl 2 rfl) ?_
  refine va_get (D := D) (ci := cRm) (C := RX6) (T := TX6) (N := 2) (v := .ref x1) hx hb hts (by decide +kernel) hown hK hP 0 rfl rfl 1 (by decide) (hts (.fieldLink RX6 10 "WaxrowModel" "house" "LWaxrowModel$House;") (by decide +kernel)) (fun _ h9 => h9) rfl dX6_manyNow_6 ?_
  refine va_get (D := D) (ci := cRh) (C := RX5) (T := TX5) (N := 14) (v := .int 0) hx hb hts (by decide +kernel) hown hK hP 1 rfl rfl 7 (by decide) (hts (.fieldLink RX6 36 "WaxrowModel$House" "figureCount" "I") (by decide +kernel)) (fun _ h9 => h9) rfl dX6_manyNow_9 ?_
  refine lv_icmp_ge (tgt := 48) hx hb dX6_manyNow_12 (by decide) (fun c_12 => ?_) (fun c_12 => ?_)
  · refine lv_iconst (v := 0) hx hb dX6_manyNow_48 (by decide) ?_
    refine lv_istore_n (lv' := [(3, .int 0), (2, .int 0), (0, .ref x0), (1, .int (nI n))]) hx hb dX6_manyNow_49 rfl hl (by decide) rfl (fun ls hl => ?_)
    refine lv_iconst (v := 0) hx hb dX6_manyNow_50 (by decide) ?_
    refine lv_istore (lv' := [(4, .int 0), (3, .int 0), (2, .int 0), (0, .ref x0), (1, .int (nI n))]) hx hb dX6_manyNow_51 hl (by decide) rfl (fun ls hl => ?_)
    refine lv_iload hx hb dX6_manyNow_53 (lv_at hl 0 rfl) ?_
    refine lv_aload_n hx hb dX6_manyNow_55 rfl (lv_at hl 3 rfl) ?_
    refine va_get (D := D) (ci := cRm) (C := RX6) (T := TX6) (N := 2) (v := .ref x1) hx hb hts (by decide +kernel) hown hK hP 0 rfl rfl 1 (by decide) (hts (.fieldLink RX6 10 "WaxrowModel" "house" "LWaxrowModel$House;") (by decide +kernel)) (fun _ h9 => h9) rfl dX6_manyNow_56 ?_
    refine va_get (D := D) (ci := cRh) (C := RX5) (T := TX5) (N := 14) (v := .int 0) hx hb hts (by decide +kernel) hown hK hP 1 rfl rfl 6 (by decide) (hts (.fieldLink RX6 29 "WaxrowModel$House" "personCount" "I") (by decide +kernel)) (fun _ h9 => h9) rfl dX6_manyNow_59 ?_
    refine lv_icmp_ge (tgt := 87) hx hb dX6_manyNow_62 (by decide) (fun c_62 => ?_) (fun c_62 => ?_)
    · refine lv_bipush (v := 15) hx hb dX6_manyNow_87 (by decide) ?_
      refine va_newa (a0 := (15, .inl (fun _ => 0))) (N' := 15) hx hb (atype := .int) (hts (.arrayClass .int) (by decide +kernel)) rfl hK hP hD hS (fun z hz => hA z (by rw [← hsz]; exact hz)) (fun cA => by rw [vp_cell_i]; rfl) (by decide) rfl (by decide) (by decide) (by decide) dX6_manyNow_89 (fun q1 cA1 H hK1 hP hD hS => ?_)
      have hP : va_P D vwCl [(x0, .inr (cRm, [.int t, .ref x1])), (x1, .inr (cRh, [.ref a0, .ref a1, .ref a2, .ref a3, .ref a4, .ref a5, .int 0, .int 0, .int 0, .int 0, .int 0, .int 5, .int 200, .int 30])), (q1, .inl (cA1, 15, .inl (fun _ => 0)))] H := hP
      have hD : va_D A [(x0, .inr (cRm, [.int t, .ref x1])), (x1, .inr (cRh, [.ref a0, .ref a1, .ref a2, .ref a3, .ref a4, .ref a5, .int 0, .int 0, .int 0, .int 0, .int 0, .int 5, .int 200, .int 30])), (q1, .inl (cA1, 15, .inl (fun _ => 0)))] := hD
      refine lv_dup hx hb dX6_manyNow_91 rfl ?_
      refine lv_iconst (v := 0) hx hb dX6_manyNow_92 (by decide) ?_
      refine lv_aload_n hx hb dX6_manyNow_93 rfl (lv_at hl 3 rfl) ?_
      refine va_get (D := D) (ci := cRm) (C := RX6) (T := TX6) (N := 2) (v := .ref x1) hx hb hts (by decide +kernel) hown hK hP 0 rfl rfl 1 (by decide) (hts (.fieldLink RX6 10 "WaxrowModel" "house" "LWaxrowModel$House;") (by decide +kernel)) (fun _ h9 => h9) rfl dX6_manyNow_94 ?_
      refine va_get (D := D) (ci := cRh) (C := RX5) (T := TX5) (N := 14) (v := .int 0) hx hb hts (by decide +kernel) hown hK hP 1 rfl rfl 9 (by decide) (hts (.fieldLink RX6 143 "WaxrowModel$House" "day" "I") (by decide +kernel)) (fun _ h9 => h9) rfl dX6_manyNow_97 ?_
      refine va_iast (x := 0) (i := 0) (n := 15) (f := fun _ => 0) hx hb hK1 hP hD hS 2 2 rfl rfl (show vp_in (0 : Int32) 15 from (by unfold vp_in; decide)) dX6_manyNow_100 (fun H locs hP hD hS => ?_)
      have hP : va_P D vwCl [(x0, .inr (cRm, [.int t, .ref x1])), (x1, .inr (cRh, [.ref a0, .ref a1, .ref a2, .ref a3, .ref a4, .ref a5, .int 0, .int 0, .int 0, .int 0, .int 0, .int 5, .int 200, .int 30])), (q1, .inl (cA1, 15, .inl (upd (fun _ => 0) (0 : Int32).toNatClampNeg 0)))] H := hP
      have hD : va_D A [(x0, .inr (cRm, [.int t, .ref x1])), (x1, .inr (cRh, [.ref a0, .ref a1, .ref a2, .ref a3, .ref a4, .ref a5, .int 0, .int 0, .int 0, .int 0, .int 0, .int 5, .int 200, .int 30])), (q1, .inl (cA1, 15, .inl (upd (fun _ => 0) (0 : Int32).toNatClampNeg 0)))] := hD
      refine lv_dup hx hb dX6_manyNow_101 rfl ?_
      refine lv_iconst (v := 1) hx hb dX6_manyNow_102 (by decide) ?_
      refine lv_aload_n hx hb dX6_manyNow_103 rfl (lv_at hl 3 rfl) ?_
      refine va_get (D := D) (ci := cRm) (C := RX6) (T := TX6) (N := 2) (v := .ref x1) hx hb hts (by decide +kernel) hown hK hP 0 rfl rfl 1 (by decide) (hts (.fieldLink RX6 10 "WaxrowModel" "house" "LWaxrowModel$House;") (by decide +kernel)) (fun _ h9 => h9) rfl dX6_manyNow_104 ?_
      refine va_get (D := D) (ci := cRh) (C := RX5) (T := TX5) (N := 14) (v := .int 0) hx hb hts (by decide +kernel) hown hK hP 1 rfl rfl 6 (by decide) (hts (.fieldLink RX6 29 "WaxrowModel$House" "personCount" "I") (by decide +kernel)) (fun _ h9 => h9) rfl dX6_manyNow_107 ?_
      refine va_iast (x := 0) (i := 1) (n := 15) (f := upd (fun _ => 0) (0 : Int32).toNatClampNeg 0) hx hb hK1 hP hD hS 2 2 rfl rfl (show vp_in (1 : Int32) 15 from (by unfold vp_in; decide)) dX6_manyNow_110 (fun H locs hP hD hS => ?_)
      have hP : va_P D vwCl [(x0, .inr (cRm, [.int t, .ref x1])), (x1, .inr (cRh, [.ref a0, .ref a1, .ref a2, .ref a3, .ref a4, .ref a5, .int 0, .int 0, .int 0, .int 0, .int 0, .int 5, .int 200, .int 30])), (q1, .inl (cA1, 15, .inl (upd (upd (fun _ => 0) (0 : Int32).toNatClampNeg 0) (1 : Int32).toNatClampNeg 0)))] H := hP
      have hD : va_D A [(x0, .inr (cRm, [.int t, .ref x1])), (x1, .inr (cRh, [.ref a0, .ref a1, .ref a2, .ref a3, .ref a4, .ref a5, .int 0, .int 0, .int 0, .int 0, .int 0, .int 5, .int 200, .int 30])), (q1, .inl (cA1, 15, .inl (upd (upd (fun _ => 0) (0 : Int32).toNatClampNeg 0) (1 : Int32).toNatClampNeg 0)))] := hD
      refine lv_dup hx hb dX6_manyNow_111 rfl ?_
      refine lv_iconst (v := 2) hx hb dX6_manyNow_112 (by decide) ?_
      refine lv_aload_n hx hb dX6_manyNow_113 rfl (lv_at hl 3 rfl) ?_
      refine va_get (D := D) (ci := cRm) (C := RX6) (T := TX6) (N := 2) (v := .ref x1) hx hb hts (by decide +kernel) hown hK hP 0 rfl rfl 1 (by decide) (hts (.fieldLink RX6 10 "WaxrowModel" "house" "LWaxrowModel$House;") (by decide +kernel)) (fun _ h9 => h9) rfl dX6_manyNow_114 ?_
      refine va_get (D := D) (ci := cRh) (C := RX5) (T := TX5) (N := 14) (v := .int 0) hx hb hts (by decide +kernel) hown hK hP 1 rfl rfl 7 (by decide) (hts (.fieldLink RX6 36 "WaxrowModel$House" "figureCount" "I") (by decide +kernel)) (fun _ h9 => h9) rfl dX6_manyNow_117 ?_
      refine va_iast (x := 0) (i := 2) (n := 15) (f := upd (upd (fun _ => 0) (0 : Int32).toNatClampNeg 0) (1 : Int32).toNatClampNeg 0) hx hb hK1 hP hD hS 2 2 rfl rfl (show vp_in (2 : Int32) 15 from (by unfold vp_in; decide)) dX6_manyNow_120 (fun H locs hP hD hS => ?_)
      have hP : va_P D vwCl [(x0, .inr (cRm, [.int t, .ref x1])), (x1, .inr (cRh, [.ref a0, .ref a1, .ref a2, .ref a3, .ref a4, .ref a5, .int 0, .int 0, .int 0, .int 0, .int 0, .int 5, .int 200, .int 30])), (q1, .inl (cA1, 15, .inl (upd (upd (upd (fun _ => 0) (0 : Int32).toNatClampNeg 0) (1 : Int32).toNatClampNeg 0) (2 : Int32).toNatClampNeg 0)))] H := hP
      have hD : va_D A [(x0, .inr (cRm, [.int t, .ref x1])), (x1, .inr (cRh, [.ref a0, .ref a1, .ref a2, .ref a3, .ref a4, .ref a5, .int 0, .int 0, .int 0, .int 0, .int 0, .int 5, .int 200, .int 30])), (q1, .inl (cA1, 15, .inl (upd (upd (upd (fun _ => 0) (0 : Int32).toNatClampNeg 0) (1 : Int32).toNatClampNeg 0) (2 : Int32).toNatClampNeg 0)))] := hD
      refine lv_dup hx hb dX6_manyNow_121 rfl ?_
      refine lv_iconst (v := 3) hx hb dX6_manyNow_122 (by decide) ?_
      refine lv_iload_n hx hb dX6_manyNow_123 rfl (lv_at hl 2 rfl) ?_
      refine va_iast (x := 0) (i := 3) (n := 15) (f := upd (upd (upd (fun _ => 0) (0 : Int32).toNatClampNeg 0) (1 : Int32).toNatClampNeg 0) (2 : Int32).toNatClampNeg 0) hx hb hK1 hP hD hS 2 2 rfl rfl (show vp_in (3 : Int32) 15 from (by unfold vp_in; decide)) dX6_manyNow_124 (fun H locs hP hD hS => ?_)
      have hP : va_P D vwCl [(x0, .inr (cRm, [.int t, .ref x1])), (x1, .inr (cRh, [.ref a0, .ref a1, .ref a2, .ref a3, .ref a4, .ref a5, .int 0, .int 0, .int 0, .int 0, .int 0, .int 5, .int 200, .int 30])), (q1, .inl (cA1, 15, .inl (upd (upd (upd (upd (fun _ => 0) (0 : Int32).toNatClampNeg 0) (1 : Int32).toNatClampNeg 0) (2 : Int32).toNatClampNeg 0) (3 : Int32).toNatClampNeg 0)))] H := hP
      have hD : va_D A [(x0, .inr (cRm, [.int t, .ref x1])), (x1, .inr (cRh, [.ref a0, .ref a1, .ref a2, .ref a3, .ref a4, .ref a5, .int 0, .int 0, .int 0, .int 0, .int 0, .int 5, .int 200, .int 30])), (q1, .inl (cA1, 15, .inl (upd (upd (upd (upd (fun _ => 0) (0 : Int32).toNatClampNeg 0) (1 : Int32).toNatClampNeg 0) (2 : Int32).toNatClampNeg 0) (3 : Int32).toNatClampNeg 0)))] := hD
      refine lv_dup hx hb dX6_manyNow_125 rfl ?_
      refine lv_iconst (v := 4) hx hb dX6_manyNow_126 (by decide) ?_
      refine lv_aload_n hx hb dX6_manyNow_127 rfl (lv_at hl 3 rfl) ?_
      refine lv_iconst (v := 0) hx hb dX6_manyNow_128 (by decide) ?_
      refine lv_iconst (v := 4) hx hb dX6_manyNow_129 (by decide) ?_
      refine rf_callR (As := [.int 0, .int 4]) (V := [(x0, .inr (cRm, [.int t, .ref x1])), (x1, .inr (cRh, [.ref a0, .ref a1, .ref a2, .ref a3, .ref a4, .ref a5, .int 0, .int 0, .int 0, .int 0, .int 0, .int 5, .int 200, .int 30]))]) (q0 := 0) (ci := cRm) (r := (RX6, TX6, 2)) ⟨hx, hb, hml, hown, hts⟩ (rX6_countAt l D cI cB H.size x0 x1 a0 a1 a2 a3 a4 a5 t 0 4) (cwV 2 hts gX6_manyNow_X6_countAt rfl rfl rfl (by decide +kernel) ⟨Nat.le_of_ble_eq_true rfl, Nat.le_of_ble_eq_true rfl⟩) hK hP (hP.sub [0, 1] rfl) hS rfl rfl rfl rfl hl.1 (Nat.le_of_ble_eq_true rfl) dX6_manyNow_130 ⟨Nat.le_of_ble_eq_true rfl, Nat.le_of_ble_eq_true rfl⟩ rfl (fun r_ H locs hp hP hS => ?_)
      subst hp
      have hP : va_P D vwCl [(x0, .inr (cRm, [.int t, .ref x1])), (x1, .inr (cRh, [.ref a0, .ref a1, .ref a2, .ref a3, .ref a4, .ref a5, .int 0, .int 0, .int 0, .int 0, .int 0, .int 5, .int 200, .int 30])), (q1, .inl (cA1, 15, .inl (upd (upd (upd (upd (fun _ => 0) (0 : Int32).toNatClampNeg 0) (1 : Int32).toNatClampNeg 0) (2 : Int32).toNatClampNeg 0) (3 : Int32).toNatClampNeg 0)))] H := hP
      refine va_iast (x := 0) (i := 4) (n := 15) (f := upd (upd (upd (upd (fun _ => 0) (0 : Int32).toNatClampNeg 0) (1 : Int32).toNatClampNeg 0) (2 : Int32).toNatClampNeg 0) (3 : Int32).toNatClampNeg 0) hx hb hK1 hP hD hS 2 2 rfl rfl (show vp_in (4 : Int32) 15 from (by unfold vp_in; decide)) dX6_manyNow_133 (fun H locs hP hD hS => ?_)
      have hP : va_P D vwCl [(x0, .inr (cRm, [.int t, .ref x1])), (x1, .inr (cRh, [.ref a0, .ref a1, .ref a2, .ref a3, .ref a4, .ref a5, .int 0, .int 0, .int 0, .int 0, .int 0, .int 5, .int 200, .int 30])), (q1, .inl (cA1, 15, .inl (upd (upd (upd (upd (upd (fun _ => 0) (0 : Int32).toNatClampNeg 0) (1 : Int32).toNatClampNeg 0) (2 : Int32).toNatClampNeg 0) (3 : Int32).toNatClampNeg 0) (4 : Int32).toNatClampNeg 0)))] H := hP
      have hD : va_D A [(x0, .inr (cRm, [.int t, .ref x1])), (x1, .inr (cRh, [.ref a0, .ref a1, .ref a2, .ref a3, .ref a4, .ref a5, .int 0, .int 0, .int 0, .int 0, .int 0, .int 5, .int 200, .int 30])), (q1, .inl (cA1, 15, .inl (upd (upd (upd (upd (upd (fun _ => 0) (0 : Int32).toNatClampNeg 0) (1 : Int32).toNatClampNeg 0) (2 : Int32).toNatClampNeg 0) (3 : Int32).toNatClampNeg 0) (4 : Int32).toNatClampNeg 0)))] := hD
      refine lv_dup hx hb dX6_manyNow_134 rfl ?_
      refine lv_iconst (v := 5) hx hb dX6_manyNow_135 (by decide) ?_
      refine lv_aload_n hx hb dX6_manyNow_136 rfl (lv_at hl 3 rfl) ?_
      refine lv_bipush (v := 6) hx hb dX6_manyNow_137 (by decide) ?_
      refine lv_bipush (v := 6) hx hb dX6_manyNow_139 (by decide) ?_
      refine rf_callR (As := [.int 6, .int 6]) (V := [(x0, .inr (cRm, [.int t, .ref x1])), (x1, .inr (cRh, [.ref a0, .ref a1, .ref a2, .ref a3, .ref a4, .ref a5, .int 0, .int 0, .int 0, .int 0, .int 0, .int 5, .int 200, .int 30]))]) (q0 := 0) (ci := cRm) (r := (RX6, TX6, 2)) ⟨hx, hb, hml, hown, hts⟩ (rX6_countAt l D cI cB H.size x0 x1 a0 a1 a2 a3 a4 a5 t 6 6) (cwV 2 hts gX6_manyNow_X6_countAt rfl rfl rfl (by decide +kernel) ⟨Nat.le_of_ble_eq_true rfl, Nat.le_of_ble_eq_true rfl⟩) hK hP (hP.sub [0, 1] rfl) hS rfl rfl rfl rfl hl.1 (Nat.le_of_ble_eq_true rfl) dX6_manyNow_141 ⟨Nat.le_of_ble_eq_true rfl, Nat.le_of_ble_eq_true rfl⟩ rfl (fun r_ H locs hp hP hS => ?_)
      subst hp
      have hP : va_P D vwCl [(x0, .inr (cRm, [.int t, .ref x1])), (x1, .inr (cRh, [.ref a0, .ref a1, .ref a2, .ref a3, .ref a4, .ref a5, .int 0, .int 0, .int 0, .int 0, .int 0, .int 5, .int 200, .int 30])), (q1, .inl (cA1, 15, .inl (upd (upd (upd (upd (upd (fun _ => 0) (0 : Int32).toNatClampNeg 0) (1 : Int32).toNatClampNeg 0) (2 : Int32).toNatClampNeg 0) (3 : Int32).toNatClampNeg 0) (4 : Int32).toNatClampNeg 0)))] H := hP
      refine va_iast (x := 0) (i := 5) (n := 15) (f := upd (upd (upd (upd (upd (fun _ => 0) (0 : Int32).toNatClampNeg 0) (1 : Int32).toNatClampNeg 0) (2 : Int32).toNatClampNeg 0) (3 : Int32).toNatClampNeg 0) (4 : Int32).toNatClampNeg 0) hx hb hK1 hP hD hS 2 2 rfl rfl (show vp_in (5 : Int32) 15 from (by unfold vp_in; decide)) dX6_manyNow_144 (fun H locs hP hD hS => ?_)
      have hP : va_P D vwCl [(x0, .inr (cRm, [.int t, .ref x1])), (x1, .inr (cRh, [.ref a0, .ref a1, .ref a2, .ref a3, .ref a4, .ref a5, .int 0, .int 0, .int 0, .int 0, .int 0, .int 5, .int 200, .int 30])), (q1, .inl (cA1, 15, .inl (upd (upd (upd (upd (upd (upd (fun _ => 0) (0 : Int32).toNatClampNeg 0) (1 : Int32).toNatClampNeg 0) (2 : Int32).toNatClampNeg 0) (3 : Int32).toNatClampNeg 0) (4 : Int32).toNatClampNeg 0) (5 : Int32).toNatClampNeg 0)))] H := hP
      have hD : va_D A [(x0, .inr (cRm, [.int t, .ref x1])), (x1, .inr (cRh, [.ref a0, .ref a1, .ref a2, .ref a3, .ref a4, .ref a5, .int 0, .int 0, .int 0, .int 0, .int 0, .int 5, .int 200, .int 30])), (q1, .inl (cA1, 15, .inl (upd (upd (upd (upd (upd (upd (fun _ => 0) (0 : Int32).toNatClampNeg 0) (1 : Int32).toNatClampNeg 0) (2 : Int32).toNatClampNeg 0) (3 : Int32).toNatClampNeg 0) (4 : Int32).toNatClampNeg 0) (5 : Int32).toNatClampNeg 0)))] := hD
      refine lv_dup hx hb dX6_manyNow_145 rfl ?_
      refine lv_bipush (v := 6) hx hb dX6_manyNow_146 (by decide) ?_
      refine lv_aload_n hx hb dX6_manyNow_148 rfl (lv_at hl 3 rfl) ?_
      refine lv_bipush (v := 7) hx hb dX6_manyNow_149 (by decide) ?_
      refine lv_bipush (v := 7) hx hb dX6_manyNow_151 (by decide) ?_
      refine rf_callR (As := [.int 7, .int 7]) (V := [(x0, .inr (cRm, [.int t, .ref x1])), (x1, .inr (cRh, [.ref a0, .ref a1, .ref a2, .ref a3, .ref a4, .ref a5, .int 0, .int 0, .int 0, .int 0, .int 0, .int 5, .int 200, .int 30]))]) (q0 := 0) (ci := cRm) (r := (RX6, TX6, 2)) ⟨hx, hb, hml, hown, hts⟩ (rX6_countAt l D cI cB H.size x0 x1 a0 a1 a2 a3 a4 a5 t 7 7) (cwV 2 hts gX6_manyNow_X6_countAt rfl rfl rfl (by decide +kernel) ⟨Nat.le_of_ble_eq_true rfl, Nat.le_of_ble_eq_true rfl⟩) hK hP (hP.sub [0, 1] rfl) hS rfl rfl rfl rfl hl.1 (Nat.le_of_ble_eq_true rfl) dX6_manyNow_153 ⟨Nat.le_of_ble_eq_true rfl, Nat.le_of_ble_eq_true rfl⟩ rfl (fun r_ H locs hp hP hS => ?_)
      subst hp
      have hP : va_P D vwCl [(x0, .inr (cRm, [.int t, .ref x1])), (x1, .inr (cRh, [.ref a0, .ref a1, .ref a2, .ref a3, .ref a4, .ref a5, .int 0, .int 0, .int 0, .int 0, .int 0, .int 5, .int 200, .int 30])), (q1, .inl (cA1, 15, .inl (upd (upd (upd (upd (upd (upd (fun _ => 0) (0 : Int32).toNatClampNeg 0) (1 : Int32).toNatClampNeg 0) (2 : Int32).toNatClampNeg 0) (3 : Int32).toNatClampNeg 0) (4 : Int32).toNatClampNeg 0) (5 : Int32).toNatClampNeg 0)))] H := hP
      refine va_iast (x := 0) (i := 6) (n := 15) (f := upd (upd (upd (upd (upd (upd (fun _ => 0) (0 : Int32).toNatClampNeg 0) (1 : Int32).toNatClampNeg 0) (2 : Int32).toNatClampNeg 0) (3 : Int32).toNatClampNeg 0) (4 : Int32).toNatClampNeg 0) (5 : Int32).toNatClampNeg 0) hx hb hK1 hP hD hS 2 2 rfl rfl (show vp_in (6 : Int32) 15 from (by unfold vp_in; decide)) dX6_manyNow_156 (fun H locs hP hD hS => ?_)
      have hP : va_P D vwCl [(x0, .inr (cRm, [.int t, .ref x1])), (x1, .inr (cRh, [.ref a0, .ref a1, .ref a2, .ref a3, .ref a4, .ref a5, .int 0, .int 0, .int 0, .int 0, .int 0, .int 5, .int 200, .int 30])), (q1, .inl (cA1, 15, .inl (upd (upd (upd (upd (upd (upd (upd (fun _ => 0) (0 : Int32).toNatClampNeg 0) (1 : Int32).toNatClampNeg 0) (2 : Int32).toNatClampNeg 0) (3 : Int32).toNatClampNeg 0) (4 : Int32).toNatClampNeg 0) (5 : Int32).toNatClampNeg 0) (6 : Int32).toNatClampNeg 0)))] H := hP
      have hD : va_D A [(x0, .inr (cRm, [.int t, .ref x1])), (x1, .inr (cRh, [.ref a0, .ref a1, .ref a2, .ref a3, .ref a4, .ref a5, .int 0, .int 0, .int 0, .int 0, .int 0, .int 5, .int 200, .int 30])), (q1, .inl (cA1, 15, .inl (upd (upd (upd (upd (upd (upd (upd (fun _ => 0) (0 : Int32).toNatClampNeg 0) (1 : Int32).toNatClampNeg 0) (2 : Int32).toNatClampNeg 0) (3 : Int32).toNatClampNeg 0) (4 : Int32).toNatClampNeg 0) (5 : Int32).toNatClampNeg 0) (6 : Int32).toNatClampNeg 0)))] := hD
      refine lv_dup hx hb dX6_manyNow_157 rfl ?_
      refine lv_bipush (v := 7) hx hb dX6_manyNow_158 (by decide) ?_
      refine lv_aload_n hx hb dX6_manyNow_160 rfl (lv_at hl 3 rfl) ?_
      refine va_get (D := D) (ci := cRm) (C := RX6) (T := TX6) (N := 2) (v := .ref x1) hx hb hts (by decide +kernel) hown hK hP 0 rfl rfl 1 (by decide) (hts (.fieldLink RX6 10 "WaxrowModel" "house" "LWaxrowModel$House;") (by decide +kernel)) (fun _ h9 => h9) rfl dX6_manyNow_161 ?_
      refine va_get (D := D) (ci := cRh) (C := RX5) (T := TX5) (N := 14) (v := .int 0) hx hb hts (by decide +kernel) hown hK hP 1 rfl rfl 8 (by decide) (hts (.fieldLink RX6 39 "WaxrowModel$House" "roomCount" "I") (by decide +kernel)) (fun _ h9 => h9) rfl dX6_manyNow_164 ?_
      refine va_iast (x := 0) (i := 7) (n := 15) (f := upd (upd (upd (upd (upd (upd (upd (fun _ => 0) (0 : Int32).toNatClampNeg 0) (1 : Int32).toNatClampNeg 0) (2 : Int32).toNatClampNeg 0) (3 : Int32).toNatClampNeg 0) (4 : Int32).toNatClampNeg 0) (5 : Int32).toNatClampNeg 0) (6 : Int32).toNatClampNeg 0) hx hb hK1 hP hD hS 2 2 rfl rfl (show vp_in (7 : Int32) 15 from (by unfold vp_in; decide)) dX6_manyNow_167 (fun H locs hP hD hS => ?_)
      have hP : va_P D vwCl [(x0, .inr (cRm, [.int t, .ref x1])), (x1, .inr (cRh, [.ref a0, .ref a1, .ref a2, .ref a3, .ref a4, .ref a5, .int 0, .int 0, .int 0, .int 0, .int 0, .int 5, .int 200, .int 30])), (q1, .inl (cA1, 15, .inl (upd (upd (upd (upd (upd (upd (upd (upd (fun _ => 0) (0 : Int32).toNatClampNeg 0) (1 : Int32).toNatClampNeg 0) (2 : Int32).toNatClampNeg 0) (3 : Int32).toNatClampNeg 0) (4 : Int32).toNatClampNeg 0) (5 : Int32).toNatClampNeg 0) (6 : Int32).toNatClampNeg 0) (7 : Int32).toNatClampNeg 0)))] H := hP
      have hD : va_D A [(x0, .inr (cRm, [.int t, .ref x1])), (x1, .inr (cRh, [.ref a0, .ref a1, .ref a2, .ref a3, .ref a4, .ref a5, .int 0, .int 0, .int 0, .int 0, .int 0, .int 5, .int 200, .int 30])), (q1, .inl (cA1, 15, .inl (upd (upd (upd (upd (upd (upd (upd (upd (fun _ => 0) (0 : Int32).toNatClampNeg 0) (1 : Int32).toNatClampNeg 0) (2 : Int32).toNatClampNeg 0) (3 : Int32).toNatClampNeg 0) (4 : Int32).toNatClampNeg 0) (5 : Int32).toNatClampNeg 0) (6 : Int32).toNatClampNeg 0) (7 : Int32).toNatClampNeg 0)))] := hD
      refine lv_dup hx hb dX6_manyNow_168 rfl ?_
      refine lv_bipush (v := 8) hx hb dX6_manyNow_169 (by decide) ?_
      refine lv_aload_n hx hb dX6_manyNow_171 rfl (lv_at hl 3 rfl) ?_
      refine va_get (D := D) (ci := cRm) (C := RX6) (T := TX6) (N := 2) (v := .ref x1) hx hb hts (by decide +kernel) hown hK hP 0 rfl rfl 1 (by decide) (hts (.fieldLink RX6 10 "WaxrowModel" "house" "LWaxrowModel$House;") (by decide +kernel)) (fun _ h9 => h9) rfl dX6_manyNow_172 ?_
      refine va_get (D := D) (ci := cRh) (C := RX5) (T := TX5) (N := 14) (v := .int 200) hx hb hts (by decide +kernel) hown hK hP 1 rfl rfl 12 (by decide) (hts (.fieldLink RX6 70 "WaxrowModel$House" "money" "I") (by decide +kernel)) (fun _ h9 => h9) rfl dX6_manyNow_175 ?_
      refine va_iast (x := 200) (i := 8) (n := 15) (f := upd (upd (upd (upd (upd (upd (upd (upd (fun _ => 0) (0 : Int32).toNatClampNeg 0) (1 : Int32).toNatClampNeg 0) (2 : Int32).toNatClampNeg 0) (3 : Int32).toNatClampNeg 0) (4 : Int32).toNatClampNeg 0) (5 : Int32).toNatClampNeg 0) (6 : Int32).toNatClampNeg 0) (7 : Int32).toNatClampNeg 0) hx hb hK1 hP hD hS 2 2 rfl rfl (show vp_in (8 : Int32) 15 from (by unfold vp_in; decide)) dX6_manyNow_178 (fun H locs hP hD hS => ?_)
      have hP : va_P D vwCl [(x0, .inr (cRm, [.int t, .ref x1])), (x1, .inr (cRh, [.ref a0, .ref a1, .ref a2, .ref a3, .ref a4, .ref a5, .int 0, .int 0, .int 0, .int 0, .int 0, .int 5, .int 200, .int 30])), (q1, .inl (cA1, 15, .inl (upd (upd (upd (upd (upd (upd (upd (upd (upd (fun _ => 0) (0 : Int32).toNatClampNeg 0) (1 : Int32).toNatClampNeg 0) (2 : Int32).toNatClampNeg 0) (3 : Int32).toNatClampNeg 0) (4 : Int32).toNatClampNeg 0) (5 : Int32).toNatClampNeg 0) (6 : Int32).toNatClampNeg 0) (7 : Int32).toNatClampNeg 0) (8 : Int32).toNatClampNeg 200)))] H := hP
      have hD : va_D A [(x0, .inr (cRm, [.int t, .ref x1])), (x1, .inr (cRh, [.ref a0, .ref a1, .ref a2, .ref a3, .ref a4, .ref a5, .int 0, .int 0, .int 0, .int 0, .int 0, .int 5, .int 200, .int 30])), (q1, .inl (cA1, 15, .inl (upd (upd (upd (upd (upd (upd (upd (upd (upd (fun _ => 0) (0 : Int32).toNatClampNeg 0) (1 : Int32).toNatClampNeg 0) (2 : Int32).toNatClampNeg 0) (3 : Int32).toNatClampNeg 0) (4 : Int32).toNatClampNeg 0) (5 : Int32).toNatClampNeg 0) (6 : Int32).toNatClampNeg 0) (7 : Int32).toNatClampNeg 0) (8 : Int32).toNatClampNeg 200)))] := hD
      refine lv_dup hx hb dX6_manyNow_179 rfl ?_
      refine lv_bipush (v := 9) hx hb dX6_manyNow_180 (by decide) ?_
      refine lv_aload_n hx hb dX6_manyNow_182 rfl (lv_at hl 3 rfl) ?_
      refine va_get (D := D) (ci := cRm) (C := RX6) (T := TX6) (N := 2) (v := .ref x1) hx hb hts (by decide +kernel) hown hK hP 0 rfl rfl 1 (by decide) (hts (.fieldLink RX6 10 "WaxrowModel" "house" "LWaxrowModel$House;") (by decide +kernel)) (fun _ h9 => h9) rfl dX6_manyNow_183 ?_
      refine va_get (D := D) (ci := cRh) (C := RX5) (T := TX5) (N := 14) (v := .int 30) hx hb hts (by decide +kernel) hown hK hP 1 rfl rfl 13 (by decide) (hts (.fieldLink RX6 99 "WaxrowModel$House" "wax" "I") (by decide +kernel)) (fun _ h9 => h9) rfl dX6_manyNow_186 ?_
      refine va_iast (x := 30) (i := 9) (n := 15) (f := upd (upd (upd (upd (upd (upd (upd (upd (upd (fun _ => 0) (0 : Int32).toNatClampNeg 0) (1 : Int32).toNatClampNeg 0) (2 : Int32).toNatClampNeg 0) (3 : Int32).toNatClampNeg 0) (4 : Int32).toNatClampNeg 0) (5 : Int32).toNatClampNeg 0) (6 : Int32).toNatClampNeg 0) (7 : Int32).toNatClampNeg 0) (8 : Int32).toNatClampNeg 200) hx hb hK1 hP hD hS 2 2 rfl rfl (show vp_in (9 : Int32) 15 from (by unfold vp_in; decide)) dX6_manyNow_189 (fun H locs hP hD hS => ?_)
      have hP : va_P D vwCl [(x0, .inr (cRm, [.int t, .ref x1])), (x1, .inr (cRh, [.ref a0, .ref a1, .ref a2, .ref a3, .ref a4, .ref a5, .int 0, .int 0, .int 0, .int 0, .int 0, .int 5, .int 200, .int 30])), (q1, .inl (cA1, 15, .inl (upd (upd (upd (upd (upd (upd (upd (upd (upd (upd (fun _ => 0) (0 : Int32).toNatClampNeg 0) (1 : Int32).toNatClampNeg 0) (2 : Int32).toNatClampNeg 0) (3 : Int32).toNatClampNeg 0) (4 : Int32).toNatClampNeg 0) (5 : Int32).toNatClampNeg 0) (6 : Int32).toNatClampNeg 0) (7 : Int32).toNatClampNeg 0) (8 : Int32).toNatClampNeg 200) (9 : Int32).toNatClampNeg 30)))] H := hP
      have hD : va_D A [(x0, .inr (cRm, [.int t, .ref x1])), (x1, .inr (cRh, [.ref a0, .ref a1, .ref a2, .ref a3, .ref a4, .ref a5, .int 0, .int 0, .int 0, .int 0, .int 0, .int 5, .int 200, .int 30])), (q1, .inl (cA1, 15, .inl (upd (upd (upd (upd (upd (upd (upd (upd (upd (upd (fun _ => 0) (0 : Int32).toNatClampNeg 0) (1 : Int32).toNatClampNeg 0) (2 : Int32).toNatClampNeg 0) (3 : Int32).toNatClampNeg 0) (4 : Int32).toNatClampNeg 0) (5 : Int32).toNatClampNeg 0) (6 : Int32).toNatClampNeg 0) (7 : Int32).toNatClampNeg 0) (8 : Int32).toNatClampNeg 200) (9 : Int32).toNatClampNeg 30)))] := hD
      refine lv_dup hx hb dX6_manyNow_190 rfl ?_
      refine lv_bipush (v := 10) hx hb dX6_manyNow_191 (by decide) ?_
      refine lv_iload_n hx hb dX6_manyNow_193 rfl (lv_at hl 1 rfl) ?_
      refine va_iast (x := 0) (i := 10) (n := 15) (f := upd (upd (upd (upd (upd (upd (upd (upd (upd (upd (fun _ => 0) (0 : Int32).toNatClampNeg 0) (1 : Int32).toNatClampNeg 0) (2 : Int32).toNatClampNeg 0) (3 : Int32).toNatClampNeg 0) (4 : Int32).toNatClampNeg 0) (5 : Int32).toNatClampNeg 0) (6 : Int32).toNatClampNeg 0) (7 : Int32).toNatClampNeg 0) (8 : Int32).toNatClampNeg 200) (9 : Int32).toNatClampNeg 30) hx hb hK1 hP hD hS 2 2 rfl rfl (show vp_in (10 : Int32) 15 from (by unfold vp_in; decide)) dX6_manyNow_194 (fun H locs hP hD hS => ?_)
      have hP : va_P D vwCl [(x0, .inr (cRm, [.int t, .ref x1])), (x1, .inr (cRh, [.ref a0, .ref a1, .ref a2, .ref a3, .ref a4, .ref a5, .int 0, .int 0, .int 0, .int 0, .int 0, .int 5, .int 200, .int 30])), (q1, .inl (cA1, 15, .inl (upd (upd (upd (upd (upd (upd (upd (upd (upd (upd (upd (fun _ => 0) (0 : Int32).toNatClampNeg 0) (1 : Int32).toNatClampNeg 0) (2 : Int32).toNatClampNeg 0) (3 : Int32).toNatClampNeg 0) (4 : Int32).toNatClampNeg 0) (5 : Int32).toNatClampNeg 0) (6 : Int32).toNatClampNeg 0) (7 : Int32).toNatClampNeg 0) (8 : Int32).toNatClampNeg 200) (9 : Int32).toNatClampNeg 30) (10 : Int32).toNatClampNeg 0)))] H := hP
      have hD : va_D A [(x0, .inr (cRm, [.int t, .ref x1])), (x1, .inr (cRh, [.ref a0, .ref a1, .ref a2, .ref a3, .ref a4, .ref a5, .int 0, .int 0, .int 0, .int 0, .int 0, .int 5, .int 200, .int 30])), (q1, .inl (cA1, 15, .inl (upd (upd (upd (upd (upd (upd (upd (upd (upd (upd (upd (fun _ => 0) (0 : Int32).toNatClampNeg 0) (1 : Int32).toNatClampNeg 0) (2 : Int32).toNatClampNeg 0) (3 : Int32).toNatClampNeg 0) (4 : Int32).toNatClampNeg 0) (5 : Int32).toNatClampNeg 0) (6 : Int32).toNatClampNeg 0) (7 : Int32).toNatClampNeg 0) (8 : Int32).toNatClampNeg 200) (9 : Int32).toNatClampNeg 30) (10 : Int32).toNatClampNeg 0)))] := hD
      refine lv_dup hx hb dX6_manyNow_195 rfl ?_
      refine lv_bipush (v := 11) hx hb dX6_manyNow_196 (by decide) ?_
      refine lv_aload_n hx hb dX6_manyNow_198 rfl (lv_at hl 3 rfl) ?_
      refine va_get (D := D) (ci := cRm) (C := RX6) (T := TX6) (N := 2) (v := .ref x1) hx hb hts (by decide +kernel) hown hK hP 0 rfl rfl 1 (by decide) (hts (.fieldLink RX6 10 "WaxrowModel" "house" "LWaxrowModel$House;") (by decide +kernel)) (fun _ h9 => h9) rfl dX6_manyNow_199 ?_
      refine va_get (D := D) (ci := cRh) (C := RX5) (T := TX5) (N := 14) (v := .int 0) hx hb hts (by decide +kernel) hown hK hP 1 rfl rfl 10 (by decide) (hts (.fieldLink RX6 149 "WaxrowModel$House" "came" "I") (by decide +kernel)) (fun _ h9 => h9) rfl dX6_manyNow_202 ?_
      refine va_iast (x := 0) (i := 11) (n := 15) (f := upd (upd (upd (upd (upd (upd (upd (upd (upd (upd (upd (fun _ => 0) (0 : Int32).toNatClampNeg 0) (1 : Int32).toNatClampNeg 0) (2 : Int32).toNatClampNeg 0) (3 : Int32).toNatClampNeg 0) (4 : Int32).toNatClampNeg 0) (5 : Int32).toNatClampNeg 0) (6 : Int32).toNatClampNeg 0) (7 : Int32).toNatClampNeg 0) (8 : Int32).toNatClampNeg 200) (9 : Int32).toNatClampNeg 30) (10 : Int32).toNatClampNeg 0) hx hb hK1 hP hD hS 2 2 rfl rfl (show vp_in (11 : Int32) 15 from (by unfold vp_in; decide)) dX6_manyNow_205 (fun H locs hP hD hS => ?_)
      have hP : va_P D vwCl [(x0, .inr (cRm, [.int t, .ref x1])), (x1, .inr (cRh, [.ref a0, .ref a1, .ref a2, .ref a3, .ref a4, .ref a5, .int 0, .int 0, .int 0, .int 0, .int 0, .int 5, .int 200, .int 30])), (q1, .inl (cA1, 15, .inl (upd (upd (upd (upd (upd (upd (upd (upd (upd (upd (upd (upd (fun _ => 0) (0 : Int32).toNatClampNeg 0) (1 : Int32).toNatClampNeg 0) (2 : Int32).toNatClampNeg 0) (3 : Int32).toNatClampNeg 0) (4 : Int32).toNatClampNeg 0) (5 : Int32).toNatClampNeg 0) (6 : Int32).toNatClampNeg 0) (7 : Int32).toNatClampNeg 0) (8 : Int32).toNatClampNeg 200) (9 : Int32).toNatClampNeg 30) (10 : Int32).toNatClampNeg 0) (11 : Int32).toNatClampNeg 0)))] H := hP
      have hD : va_D A [(x0, .inr (cRm, [.int t, .ref x1])), (x1, .inr (cRh, [.ref a0, .ref a1, .ref a2, .ref a3, .ref a4, .ref a5, .int 0, .int 0, .int 0, .int 0, .int 0, .int 5, .int 200, .int 30])), (q1, .inl (cA1, 15, .inl (upd (upd (upd (upd (upd (upd (upd (upd (upd (upd (upd (upd (fun _ => 0) (0 : Int32).toNatClampNeg 0) (1 : Int32).toNatClampNeg 0) (2 : Int32).toNatClampNeg 0) (3 : Int32).toNatClampNeg 0) (4 : Int32).toNatClampNeg 0) (5 : Int32).toNatClampNeg 0) (6 : Int32).toNatClampNeg 0) (7 : Int32).toNatClampNeg 0) (8 : Int32).toNatClampNeg 200) (9 : Int32).toNatClampNeg 30) (10 : Int32).toNatClampNeg 0) (11 : Int32).toNatClampNeg 0)))] := hD
      refine lv_dup hx hb dX6_manyNow_206 rfl ?_
      refine lv_bipush (v := 12) hx hb dX6_manyNow_207 (by decide) ?_
      refine lv_aload_n hx hb dX6_manyNow_209 rfl (lv_at hl 3 rfl) ?_
      refine va_get (D := D) (ci := cRm) (C := RX6) (T := TX6) (N := 2) (v := .ref x1) hx hb hts (by decide +kernel) hown hK hP 0 rfl rfl 1 (by decide) (hts (.fieldLink RX6 10 "WaxrowModel" "house" "LWaxrowModel$House;") (by decide +kernel)) (fun _ h9 => h9) rfl dX6_manyNow_210 ?_
      refine rf_callR (As := []) (V := [(x1, .inr (cRh, [.ref a0, .ref a1, .ref a2, .ref a3, .ref a4, .ref a5, .int 0, .int 0, .int 0, .int 0, .int 0, .int 5, .int 200, .int 30]))]) (q0 := 0) (ci := cRh) (r := (RX5, TX5, 14)) ⟨hx, hb, hml, hown, hts⟩ (rX5_hands l D cI cB H.size x0 x1 a0 a1 a2 a3 a4 a5 ) (cwV 0 hts gX6_manyNow_X5_hands rfl rfl rfl (by decide +kernel) ⟨Nat.le_of_ble_eq_true rfl, Nat.le_of_ble_eq_true rfl⟩) hK hP (hP.sub [1] rfl) hS rfl rfl rfl rfl hl.1 (Nat.le_of_ble_eq_true rfl) dX6_manyNow_213 ⟨Nat.le_of_ble_eq_true rfl, Nat.le_of_ble_eq_true rfl⟩ rfl (fun r_ H locs hp hP hS => ?_)
      subst hp
      have hP : va_P D vwCl [(x0, .inr (cRm, [.int t, .ref x1])), (x1, .inr (cRh, [.ref a0, .ref a1, .ref a2, .ref a3, .ref a4, .ref a5, .int 0, .int 0, .int 0, .int 0, .int 0, .int 5, .int 200, .int 30])), (q1, .inl (cA1, 15, .inl (upd (upd (upd (upd (upd (upd (upd (upd (upd (upd (upd (upd (fun _ => 0) (0 : Int32).toNatClampNeg 0) (1 : Int32).toNatClampNeg 0) (2 : Int32).toNatClampNeg 0) (3 : Int32).toNatClampNeg 0) (4 : Int32).toNatClampNeg 0) (5 : Int32).toNatClampNeg 0) (6 : Int32).toNatClampNeg 0) (7 : Int32).toNatClampNeg 0) (8 : Int32).toNatClampNeg 200) (9 : Int32).toNatClampNeg 30) (10 : Int32).toNatClampNeg 0) (11 : Int32).toNatClampNeg 0)))] H := hP
      refine va_iast (x := 0) (i := 12) (n := 15) (f := upd (upd (upd (upd (upd (upd (upd (upd (upd (upd (upd (upd (fun _ => 0) (0 : Int32).toNatClampNeg 0) (1 : Int32).toNatClampNeg 0) (2 : Int32).toNatClampNeg 0) (3 : Int32).toNatClampNeg 0) (4 : Int32).toNatClampNeg 0) (5 : Int32).toNatClampNeg 0) (6 : Int32).toNatClampNeg 0) (7 : Int32).toNatClampNeg 0) (8 : Int32).toNatClampNeg 200) (9 : Int32).toNatClampNeg 30) (10 : Int32).toNatClampNeg 0) (11 : Int32).toNatClampNeg 0) hx hb hK1 hP hD hS 2 2 rfl rfl (show vp_in (12 : Int32) 15 from (by unfold vp_in; decide)) dX6_manyNow_216 (fun H locs hP hD hS => ?_)
      have hP : va_P D vwCl [(x0, .inr (cRm, [.int t, .ref x1])), (x1, .inr (cRh, [.ref a0, .ref a1, .ref a2, .ref a3, .ref a4, .ref a5, .int 0, .int 0, .int 0, .int 0, .int 0, .int 5, .int 200, .int 30])), (q1, .inl (cA1, 15, .inl (upd (upd (upd (upd (upd (upd (upd (upd (upd (upd (upd (upd (upd (fun _ => 0) (0 : Int32).toNatClampNeg 0) (1 : Int32).toNatClampNeg 0) (2 : Int32).toNatClampNeg 0) (3 : Int32).toNatClampNeg 0) (4 : Int32).toNatClampNeg 0) (5 : Int32).toNatClampNeg 0) (6 : Int32).toNatClampNeg 0) (7 : Int32).toNatClampNeg 0) (8 : Int32).toNatClampNeg 200) (9 : Int32).toNatClampNeg 30) (10 : Int32).toNatClampNeg 0) (11 : Int32).toNatClampNeg 0) (12 : Int32).toNatClampNeg 0)))] H := hP
      have hD : va_D A [(x0, .inr (cRm, [.int t, .ref x1])), (x1, .inr (cRh, [.ref a0, .ref a1, .ref a2, .ref a3, .ref a4, .ref a5, .int 0, .int 0, .int 0, .int 0, .int 0, .int 5, .int 200, .int 30])), (q1, .inl (cA1, 15, .inl (upd (upd (upd (upd (upd (upd (upd (upd (upd (upd (upd (upd (upd (fun _ => 0) (0 : Int32).toNatClampNeg 0) (1 : Int32).toNatClampNeg 0) (2 : Int32).toNatClampNeg 0) (3 : Int32).toNatClampNeg 0) (4 : Int32).toNatClampNeg 0) (5 : Int32).toNatClampNeg 0) (6 : Int32).toNatClampNeg 0) (7 : Int32).toNatClampNeg 0) (8 : Int32).toNatClampNeg 200) (9 : Int32).toNatClampNeg 30) (10 : Int32).toNatClampNeg 0) (11 : Int32).toNatClampNeg 0) (12 : Int32).toNatClampNeg 0)))] := hD
      refine lv_dup hx hb dX6_manyNow_217 rfl ?_
      refine lv_bipush (v := 13) hx hb dX6_manyNow_218 (by decide) ?_
      refine lv_aload_n hx hb dX6_manyNow_220 rfl (lv_at hl 3 rfl) ?_
      refine va_get (D := D) (ci := cRm) (C := RX6) (T := TX6) (N := 2) (v := .ref x1) hx hb hts (by decide +kernel) hown hK hP 0 rfl rfl 1 (by decide) (hts (.fieldLink RX6 10 "WaxrowModel" "house" "LWaxrowModel$House;") (by decide +kernel)) (fun _ h9 => h9) rfl dX6_manyNow_221 ?_
      refine va_get (D := D) (ci := cRh) (C := RX5) (T := TX5) (N := 14) (v := .int 5) hx hb hts (by decide +kernel) hown hK hP 1 rfl rfl 11 (by decide) (hts (.fieldLink RX6 121 "WaxrowModel$House" "price" "I") (by decide +kernel)) (fun _ h9 => h9) rfl dX6_manyNow_224 ?_
      refine va_iast (x := 5) (i := 13) (n := 15) (f := upd (upd (upd (upd (upd (upd (upd (upd (upd (upd (upd (upd (upd (fun _ => 0) (0 : Int32).toNatClampNeg 0) (1 : Int32).toNatClampNeg 0) (2 : Int32).toNatClampNeg 0) (3 : Int32).toNatClampNeg 0) (4 : Int32).toNatClampNeg 0) (5 : Int32).toNatClampNeg 0) (6 : Int32).toNatClampNeg 0) (7 : Int32).toNatClampNeg 0) (8 : Int32).toNatClampNeg 200) (9 : Int32).toNatClampNeg 30) (10 : Int32).toNatClampNeg 0) (11 : Int32).toNatClampNeg 0) (12 : Int32).toNatClampNeg 0) hx hb hK1 hP hD hS 2 2 rfl rfl (show vp_in (13 : Int32) 15 from (by unfold vp_in; decide)) dX6_manyNow_227 (fun H locs hP hD hS => ?_)
      have hP : va_P D vwCl [(x0, .inr (cRm, [.int t, .ref x1])), (x1, .inr (cRh, [.ref a0, .ref a1, .ref a2, .ref a3, .ref a4, .ref a5, .int 0, .int 0, .int 0, .int 0, .int 0, .int 5, .int 200, .int 30])), (q1, .inl (cA1, 15, .inl (upd (upd (upd (upd (upd (upd (upd (upd (upd (upd (upd (upd (upd (upd (fun _ => 0) (0 : Int32).toNatClampNeg 0) (1 : Int32).toNatClampNeg 0) (2 : Int32).toNatClampNeg 0) (3 : Int32).toNatClampNeg 0) (4 : Int32).toNatClampNeg 0) (5 : Int32).toNatClampNeg 0) (6 : Int32).toNatClampNeg 0) (7 : Int32).toNatClampNeg 0) (8 : Int32).toNatClampNeg 200) (9 : Int32).toNatClampNeg 30) (10 : Int32).toNatClampNeg 0) (11 : Int32).toNatClampNeg 0) (12 : Int32).toNatClampNeg 0) (13 : Int32).toNatClampNeg 5)))] H := hP
      have hD : va_D A [(x0, .inr (cRm, [.int t, .ref x1])), (x1, .inr (cRh, [.ref a0, .ref a1, .ref a2, .ref a3, .ref a4, .ref a5, .int 0, .int 0, .int 0, .int 0, .int 0, .int 5, .int 200, .int 30])), (q1, .inl (cA1, 15, .inl (upd (upd (upd (upd (upd (upd (upd (upd (upd (upd (upd (upd (upd (upd (fun _ => 0) (0 : Int32).toNatClampNeg 0) (1 : Int32).toNatClampNeg 0) (2 : Int32).toNatClampNeg 0) (3 : Int32).toNatClampNeg 0) (4 : Int32).toNatClampNeg 0) (5 : Int32).toNatClampNeg 0) (6 : Int32).toNatClampNeg 0) (7 : Int32).toNatClampNeg 0) (8 : Int32).toNatClampNeg 200) (9 : Int32).toNatClampNeg 30) (10 : Int32).toNatClampNeg 0) (11 : Int32).toNatClampNeg 0) (12 : Int32).toNatClampNeg 0) (13 : Int32).toNatClampNeg 5)))] := hD
      refine lv_dup hx hb dX6_manyNow_228 rfl ?_
      refine lv_bipush (v := 14) hx hb dX6_manyNow_229 (by decide) ?_
      refine lv_aload_n hx hb dX6_manyNow_231 rfl (lv_at hl 3 rfl) ?_
      refine va_get (D := D) (ci := cRm) (C := RX6) (T := TX6) (N := 2) (v := .ref x1) hx hb hts (by decide +kernel) hown hK hP 0 rfl rfl 1 (by decide) (hts (.fieldLink RX6 10 "WaxrowModel" "house" "LWaxrowModel$House;") (by decide +kernel)) (fun _ h9 => h9) rfl dX6_manyNow_232 ?_
      refine lv_iconst (v := 0) hx hb dX6_manyNow_235 (by decide) ?_
      refine lv_iconst (v := 4) hx hb dX6_manyNow_236 (by decide) ?_
      refine rf_callR (As := [.int 0, .int 4]) (V := [(x1, .inr (cRh, [.ref a0, .ref a1, .ref a2, .ref a3, .ref a4, .ref a5, .int 0, .int 0, .int 0, .int 0, .int 0, .int 5, .int 200, .int 30]))]) (q0 := 0) (ci := cRh) (r := (RX5, TX5, 14)) ⟨hx, hb, hml, hown, hts⟩ (rX5_drawsIn l D cI cB H.size x0 x1 a0 a1 a2 a3 a4 a5 0 4) (cwV 2 hts gX6_manyNow_X5_drawsIn rfl rfl rfl (by decide +kernel) ⟨Nat.le_of_ble_eq_true rfl, Nat.le_of_ble_eq_true rfl⟩) hK hP (hP.sub [1] rfl) hS rfl rfl rfl rfl hl.1 (Nat.le_of_ble_eq_true rfl) dX6_manyNow_237 ⟨Nat.le_of_ble_eq_true rfl, Nat.le_of_ble_eq_true rfl⟩ rfl (fun r_ H locs hp hP hS => ?_)
      subst hp
      have hP : va_P D vwCl [(x0, .inr (cRm, [.int t, .ref x1])), (x1, .inr (cRh, [.ref a0, .ref a1, .ref a2, .ref a3, .ref a4, .ref a5, .int 0, .int 0, .int 0, .int 0, .int 0, .int 5, .int 200, .int 30])), (q1, .inl (cA1, 15, .inl (upd (upd (upd (upd (upd (upd (upd (upd (upd (upd (upd (upd (upd (upd (fun _ => 0) (0 : Int32).toNatClampNeg 0) (1 : Int32).toNatClampNeg 0) (2 : Int32).toNatClampNeg 0) (3 : Int32).toNatClampNeg 0) (4 : Int32).toNatClampNeg 0) (5 : Int32).toNatClampNeg 0) (6 : Int32).toNatClampNeg 0) (7 : Int32).toNatClampNeg 0) (8 : Int32).toNatClampNeg 200) (9 : Int32).toNatClampNeg 30) (10 : Int32).toNatClampNeg 0) (11 : Int32).toNatClampNeg 0) (12 : Int32).toNatClampNeg 0) (13 : Int32).toNatClampNeg 5)))] H := hP
      refine va_iast (x := 0) (i := 14) (n := 15) (f := upd (upd (upd (upd (upd (upd (upd (upd (upd (upd (upd (upd (upd (upd (fun _ => 0) (0 : Int32).toNatClampNeg 0) (1 : Int32).toNatClampNeg 0) (2 : Int32).toNatClampNeg 0) (3 : Int32).toNatClampNeg 0) (4 : Int32).toNatClampNeg 0) (5 : Int32).toNatClampNeg 0) (6 : Int32).toNatClampNeg 0) (7 : Int32).toNatClampNeg 0) (8 : Int32).toNatClampNeg 200) (9 : Int32).toNatClampNeg 30) (10 : Int32).toNatClampNeg 0) (11 : Int32).toNatClampNeg 0) (12 : Int32).toNatClampNeg 0) (13 : Int32).toNatClampNeg 5) hx hb hK1 hP hD hS 2 2 rfl rfl (show vp_in (14 : Int32) 15 from (by unfold vp_in; decide)) dX6_manyNow_240 (fun H locs hP hD hS => ?_)
      have hP : va_P D vwCl [(x0, .inr (cRm, [.int t, .ref x1])), (x1, .inr (cRh, [.ref a0, .ref a1, .ref a2, .ref a3, .ref a4, .ref a5, .int 0, .int 0, .int 0, .int 0, .int 0, .int 5, .int 200, .int 30])), (q1, .inl (cA1, 15, .inl (upd (upd (upd (upd (upd (upd (upd (upd (upd (upd (upd (upd (upd (upd (upd (fun _ => 0) (0 : Int32).toNatClampNeg 0) (1 : Int32).toNatClampNeg 0) (2 : Int32).toNatClampNeg 0) (3 : Int32).toNatClampNeg 0) (4 : Int32).toNatClampNeg 0) (5 : Int32).toNatClampNeg 0) (6 : Int32).toNatClampNeg 0) (7 : Int32).toNatClampNeg 0) (8 : Int32).toNatClampNeg 200) (9 : Int32).toNatClampNeg 30) (10 : Int32).toNatClampNeg 0) (11 : Int32).toNatClampNeg 0) (12 : Int32).toNatClampNeg 0) (13 : Int32).toNatClampNeg 5) (14 : Int32).toNatClampNeg 0)))] H := hP
      have hD : va_D A [(x0, .inr (cRm, [.int t, .ref x1])), (x1, .inr (cRh, [.ref a0, .ref a1, .ref a2, .ref a3, .ref a4, .ref a5, .int 0, .int 0, .int 0, .int 0, .int 0, .int 5, .int 200, .int 30])), (q1, .inl (cA1, 15, .inl (upd (upd (upd (upd (upd (upd (upd (upd (upd (upd (upd (upd (upd (upd (upd (fun _ => 0) (0 : Int32).toNatClampNeg 0) (1 : Int32).toNatClampNeg 0) (2 : Int32).toNatClampNeg 0) (3 : Int32).toNatClampNeg 0) (4 : Int32).toNatClampNeg 0) (5 : Int32).toNatClampNeg 0) (6 : Int32).toNatClampNeg 0) (7 : Int32).toNatClampNeg 0) (8 : Int32).toNatClampNeg 200) (9 : Int32).toNatClampNeg 30) (10 : Int32).toNatClampNeg 0) (11 : Int32).toNatClampNeg 0) (12 : Int32).toNatClampNeg 0) (13 : Int32).toNatClampNeg 5) (14 : Int32).toNatClampNeg 0)))] := hD
      refine lv_astore (lv' := [(4, .ref q1), (3, .int 0), (2, .int 0), (0, .ref x0), (1, .int (nI n))]) hx hb dX6_manyNow_241 hl (by decide) rfl (fun ls hl => ?_)
      refine lv_aload hx hb dX6_manyNow_243 (lv_at hl 0 rfl) ?_
      refine lv_iload_n hx hb dX6_manyNow_245 rfl (lv_at hl 4 rfl) ?_
      refine va_iald (n := 15) (f := upd (upd (upd (upd (upd (upd (upd (upd (upd (upd (upd (upd (upd (upd (upd (fun _ => 0) (0 : Int32).toNatClampNeg 0) (1 : Int32).toNatClampNeg 0) (2 : Int32).toNatClampNeg 0) (3 : Int32).toNatClampNeg 0) (4 : Int32).toNatClampNeg 0) (5 : Int32).toNatClampNeg 0) (6 : Int32).toNatClampNeg 0) (7 : Int32).toNatClampNeg 0) (8 : Int32).toNatClampNeg 200) (9 : Int32).toNatClampNeg 30) (10 : Int32).toNatClampNeg 0) (11 : Int32).toNatClampNeg 0) (12 : Int32).toNatClampNeg 0) (13 : Int32).toNatClampNeg 5) (14 : Int32).toNatClampNeg 0) hx hb hK1 hP 2 2 rfl rfl (vp_in_nI hn (by decide)) dX6_manyNow_246 ?_
      rw [nI_clamp (show n < 2 ^ 31 by omega)]
      rw [show (upd (upd (upd (upd (upd (upd (upd (upd (upd (upd (upd (upd (upd (upd (upd (fun _ => 0) (0 : Int32).toNatClampNeg 0) (1 : Int32).toNatClampNeg 0) (2 : Int32).toNatClampNeg 0) (3 : Int32).toNatClampNeg 0) (4 : Int32).toNatClampNeg 0) (5 : Int32).toNatClampNeg 0) (6 : Int32).toNatClampNeg 0) (7 : Int32).toNatClampNeg 0) (8 : Int32).toNatClampNeg 200) (9 : Int32).toNatClampNeg 30) (10 : Int32).toNatClampNeg 0) (11 : Int32).toNatClampNeg 0) (12 : Int32).toNatClampNeg 0) (13 : Int32).toNatClampNeg 5) (14 : Int32).toNatClampNeg 0) n = rf_all n from (show ∀ m, m < 15 → (upd (upd (upd (upd (upd (upd (upd (upd (upd (upd (upd (upd (upd (upd (upd (fun _ => 0) (0 : Int32).toNatClampNeg 0) (1 : Int32).toNatClampNeg 0) (2 : Int32).toNatClampNeg 0) (3 : Int32).toNatClampNeg 0) (4 : Int32).toNatClampNeg 0) (5 : Int32).toNatClampNeg 0) (6 : Int32).toNatClampNeg 0) (7 : Int32).toNatClampNeg 0) (8 : Int32).toNatClampNeg 200) (9 : Int32).toNatClampNeg 30) (10 : Int32).toNatClampNeg 0) (11 : Int32).toNatClampNeg 0) (12 : Int32).toNatClampNeg 0) (13 : Int32).toNatClampNeg 5) (14 : Int32).toNatClampNeg 0) m = rf_all m by decide) n hn]
      refine W.widen (k := 1) (n := 15) (by decide) (by decide) ?_
      exact W.iret (v := rf_all n) hx hb hr (fun U9 ht hW9 => ⟨⟨rf_all n, (), rfl, rfl, by show va_P D vwCl _ U9.heap; rw [ht]; exact hP.sub [0, 1] rfl⟩, hS.F ht⟩) hS.2.2 dX6_manyNow_247
    · exact absurd (by decide +kernel) c_62
  · exact absurd (by decide +kernel) c_12
set_option maxHeartbeats 4000000 in
set_option maxRecDepth 100000 in
/-- the reference: many, out of bounds -/
theorem rX6_many_bad (l : Launch) (D : va_G) (cI cB : ClassId) (sz : Nat) (x0 x1 a0 a1 a2 a3 a4 a5 : Nat) (t k : Int32) (A : Nat → Prop) (hD : va_D A [(x0, .inr (cRm, [.int t, .ref x1])), (x1, .inr (cRh, [.ref a0, .ref a1, .ref a2, .ref a3, .ref a4, .ref a5, .int 0, .int 0, .int 0, .int 0, .int 0, .int 5, .int 200, .int 30]))]) (h0 : sp_in k 0 14 = 0) : rf_Mi l yX6_many wsX6_many ({ frames := 1, cells := 0, slots := 0, locals := 44 }) D [(cI, .int), (cB, .array .int)] sz [(x0, .inr (cRm, [.int t, .ref x1])), (x1, .inr (cRh, [.ref a0, .ref a1, .ref a2, .ref a3, .ref a4, .ref a5, .int 0, .int 0, .int 0, .int 0, .int 0, .int 5, .int 200, .int 30]))] [(x0, .inr (cRm, [.int 1, .ref x1]))] A [.ref x0, .int k] (fun r => r = 0) 0 0 := by
  refine Met.ofW (cc := cX6_many) (maxL := 2) (ret := (some .int)) (by decide) rfl ?_
  intro p e s m args below meth c s₁ B hml hv
  obtain ⟨rfl, hsz, hP, hK⟩ := hv
  have hx := B.exec
  have hb := B.bytes
  have hr := B.returns
  have hts := atoms_spec (ws := wsX6_many) B.pre
  have hown : s.vm.findClass RX6 = some m.cls := findClass_of_methodNamed B.named
  have hlocks := B.notSynchronized
  have hS : va_S A s.heap s.heap [] := va_S.rf
  have hP : va_P D vwCl [(x0, .inr (cRm, [.int t, .ref x1])), (x1, .inr (cRh, [.ref a0, .ref a1, .ref a2, .ref a3, .ref a4, .ref a5, .int 0, .int 0, .int 0, .int 0, .int 0, .int 5, .int 200, .int 30]))] s.heap := hP
  have hl := lv_entry ([.ref x0, .int k]) (n := 2) (Nat.le_of_ble_eq_true rfl)
  rw [lg_entry_eq]
  generalize (lg_sl ([.ref x0, .int k]) ++ List.replicate (2 - (lg_sl ([.ref x0, .int k])).length) Slot.unset).toArray = ls at hl ⊢
  have hl : lv_has ls 2 [(0, .ref x0), (1, .int k)] := hl
  refine lv_aload_n hx hb dX6_many_0 rfl (lv_at hl 0 rfl) ?_
  refine lv_iconst (v := 0) hx hb dX6_many_1 (by decide) ?_
  refine va_put (ci := cRm) (C := RX6) (T := TX6) (N := 2) (ty := .int) hx hb hts (by decide +kernel) tyX6 tyX6_ok nmX6 hown hK hP hD hS 0 rfl rfl 0 (by decide) (hts (.fieldLink RX6 16 "WaxrowModel" "thrown" "I") (by decide +kernel)) (fun _ h9 => h9) rfl (by decide +kernel) rfl rfl (Nat.le_of_ble_eq_true rfl) dX6_many_2 (fun H locs hP hD hS => ?_)
  have hP : va_P D vwCl [(x0, .inr (cRm, [.int 0, .ref x1])), (x1, .inr (cRh, [.ref a0, .ref a1, .ref a2, .ref a3, .ref a4, .ref a5, .int 0, .int 0, .int 0, .int 0, .int 0, .int 5, .int 200, .int 30]))] H := hP
  have hD : va_D A [(x0, .inr (cRm, [.int 0, .ref x1])), (x1, .inr (cRh, [.ref a0, .ref a1, .ref a2, .ref a3, .ref a4, .ref a5, .int 0, .int 0, .int 0, .int 0, .int 0, .int 5, .int 200, .int 30]))] := hD
  refine lv_iload_n hx hb dX6_many_5 rfl (lv_at hl 1 rfl) ?_
  refine lv_iconst (v := 0) hx hb dX6_many_6 (by decide) ?_
  refine lv_bipush (v := 14) hx hb dX6_many_7 (by decide) ?_
  refine rf_runR (As := [.int k, .int 0, .int 14]) ⟨hx, hb, hml, hown, hts⟩ (rX6_in l k 0 14) (va_cwS 3 hts gX6_many_X6_in rfl rfl rfl (by decide +kernel) ⟨Nat.le_of_ble_eq_true rfl, Nat.le_of_ble_eq_true rfl⟩) hP hS rfl hl.1 (Nat.le_of_ble_eq_true rfl) dX6_many_9 ⟨Nat.le_of_ble_eq_true rfl, Nat.le_of_ble_eq_true rfl⟩ rfl (fun r_ H locs hp hP hS => ?_)
  obtain rfl := hp
  have hP : va_P D vwCl [(x0, .inr (cRm, [.int 0, .ref x1])), (x1, .inr (cRh, [.ref a0, .ref a1, .ref a2, .ref a3, .ref a4, .ref a5, .int 0, .int 0, .int 0, .int 0, .int 0, .int 5, .int 200, .int 30]))] H := hP
  refine lv_if_ne (tgt := 21) hx hb dX6_many_12 (by decide) (fun c_12 => ?_) (fun c_12 => ?_)
  · exact (c_12 h0).elim
  · refine lv_aload_n hx hb dX6_many_15 rfl (lv_at hl 0 rfl) ?_
    refine lv_iconst (v := 1) hx hb dX6_many_16 (by decide) ?_
    refine rf_callW (As := [.int 1]) (V := [(x0, .inr (cRm, [.int 0, .ref x1]))]) (V2 := [(x0, .inr (cRm, [.int 1, .ref x1]))]) (q0 := 0) (ci := cRm) (r := (RX6, TX6, 2)) ⟨hx, hb, hml, hown, hts⟩ (rX6_no l D cI cB H.size x0 x1 0 1 A (hD.sub [0] (by decide) rfl)) (cwV 1 hts gX6_many_X6_no rfl rfl rfl (by decide +kernel) ⟨Nat.le_of_ble_eq_true rfl, Nat.le_of_ble_eq_true rfl⟩) hK hP (hP.sub [0] rfl) hS rfl rfl rfl rfl hl.1 (Nat.le_of_ble_eq_true rfl) dX6_many_17 ⟨Nat.le_of_ble_eq_true rfl, Nat.le_of_ble_eq_true rfl⟩ rfl (fun r_ H locs hp hP hS => ?_)
    subst hp
    have hP : va_P D vwCl [(x0, .inr (cRm, [.int 1, .ref x1]))] H := hP
    exact W.iret (v := 0) hx hb hr (fun U9 ht hW9 => ⟨⟨0, (), rfl, rfl, by show va_P D vwCl _ U9.heap; rw [ht]; exact hP.sub [0] rfl⟩, hS.F ht⟩) hS.2.2 dX6_many_20
set_option maxHeartbeats 4000000 in
set_option maxRecDepth 100000 in
/-- the reference: many -/
theorem rX6_many_ok (l : Launch) (D : va_G) (cI cB : ClassId) (sz : Nat) (x0 x1 a0 a1 a2 a3 a4 a5 : Nat) (t : Int32) (n : Nat) (hn : n < 15) (A : Nat → Prop) (hA : ∀ q, sz ≤ q → A q) (hD : va_D A [(x0, .inr (cRm, [.int t, .ref x1])), (x1, .inr (cRh, [.ref a0, .ref a1, .ref a2, .ref a3, .ref a4, .ref a5, .int 0, .int 0, .int 0, .int 0, .int 0, .int 5, .int 200, .int 30]))]) (h1 : sp_in (nI n) 0 14 = 1) : rf_Mi l yX6_many wsX6_many ({ frames := 2, cells := 1, slots := 15, locals := 50 }) D [(cI, .int), (cB, .array .int)] sz [(x0, .inr (cRm, [.int t, .ref x1])), (x1, .inr (cRh, [.ref a0, .ref a1, .ref a2, .ref a3, .ref a4, .ref a5, .int 0, .int 0, .int 0, .int 0, .int 0, .int 5, .int 200, .int 30]))] [(x0, .inr (cRm, [.int 0, .ref x1]))] A [.ref x0, .int (nI n)] (fun r => r = rf_all n) 1 15 := by
  refine Met.ofW (cc := cX6_many) (maxL := 2) (ret := (some .int)) (by decide) rfl ?_
  intro p e s m args below meth c s₁ B hml hv
  obtain ⟨rfl, hsz, hP, hK⟩ := hv
  have hx := B.exec
  have hb := B.bytes
  have hr := B.returns
  have hts := atoms_spec (ws := wsX6_many) B.pre
  have hown : s.vm.findClass RX6 = some m.cls := findClass_of_methodNamed B.named
  have hlocks := B.notSynchronized
  have hS : va_S A s.heap s.heap [] := va_S.rf
  have hP : va_P D vwCl [(x0, .inr (cRm, [.int t, .ref x1])), (x1, .inr (cRh, [.ref a0, .ref a1, .ref a2, .ref a3, .ref a4, .ref a5, .int 0, .int 0, .int 0, .int 0, .int 0, .int 5, .int 200, .int 30]))] s.heap := hP
  have hl := lv_entry ([.ref x0, .int (nI n)]) (n := 2) (Nat.le_of_ble_eq_true rfl)
  rw [lg_entry_eq]
  generalize (lg_sl ([.ref x0, .int (nI n)]) ++ List.replicate (2 - (lg_sl ([.ref x0, .int (nI n)])).length) Slot.unset).toArray = ls at hl ⊢
  have hl : lv_has ls 2 [(0, .ref x0), (1, .int (nI n))] := hl
  refine lv_aload_n hx hb dX6_many_0 rfl (lv_at hl 0 rfl) ?_
  refine lv_iconst (v := 0) hx hb dX6_many_1 (by decide) ?_
  refine va_put (ci := cRm) (C := RX6) (T := TX6) (N := 2) (ty := .int) hx hb hts (by decide +kernel) tyX6 tyX6_ok nmX6 hown hK hP hD hS 0 rfl rfl 0 (by decide) (hts (.fieldLink RX6 16 "WaxrowModel" "thrown" "I") (by decide +kernel)) (fun _ h9 => h9) rfl (by decide +kernel) rfl rfl (Nat.le_of_ble_eq_true rfl) dX6_many_2 (fun H locs hP hD hS => ?_)
  have hP : va_P D vwCl [(x0, .inr (cRm, [.int 0, .ref x1])), (x1, .inr (cRh, [.ref a0, .ref a1, .ref a2, .ref a3, .ref a4, .ref a5, .int 0, .int 0, .int 0, .int 0, .int 0, .int 5, .int 200, .int 30]))] H := hP
  have hD : va_D A [(x0, .inr (cRm, [.int 0, .ref x1])), (x1, .inr (cRh, [.ref a0, .ref a1, .ref a2, .ref a3, .ref a4, .ref a5, .int 0, .int 0, .int 0, .int 0, .int 0, .int 5, .int 200, .int 30]))] := hD
  refine lv_iload_n hx hb dX6_many_5 rfl (lv_at hl 1 rfl) ?_
  refine lv_iconst (v := 0) hx hb dX6_many_6 (by decide) ?_
  refine lv_bipush (v := 14) hx hb dX6_many_7 (by decide) ?_
  refine rf_runR (As := [.int (nI n), .int 0, .int 14]) ⟨hx, hb, hml, hown, hts⟩ (rX6_in l (nI n) 0 14) (va_cwS 3 hts gX6_many_X6_in rfl rfl rfl (by decide +kernel) ⟨Nat.le_of_ble_eq_true rfl, Nat.le_of_ble_eq_true rfl⟩) hP hS rfl hl.1 (Nat.le_of_ble_eq_true rfl) dX6_many_9 ⟨Nat.le_of_ble_eq_true rfl, Nat.le_of_ble_eq_true rfl⟩ rfl (fun r_ H locs hp hP hS => ?_)
  obtain rfl := hp
  have hP : va_P D vwCl [(x0, .inr (cRm, [.int 0, .ref x1])), (x1, .inr (cRh, [.ref a0, .ref a1, .ref a2, .ref a3, .ref a4, .ref a5, .int 0, .int 0, .int 0, .int 0, .int 0, .int 5, .int 200, .int 30]))] H := hP
  refine lv_if_ne (tgt := 21) hx hb dX6_many_12 (by decide) (fun c_12 => ?_) (fun c_12 => ?_)
  · refine lv_aload_n hx hb dX6_many_21 rfl (lv_at hl 0 rfl) ?_
    refine lv_iload_n hx hb dX6_many_22 rfl (lv_at hl 1 rfl) ?_
    refine rf_callW (As := [.int (nI n)]) (V := [(x0, .inr (cRm, [.int 0, .ref x1])), (x1, .inr (cRh, [.ref a0, .ref a1, .ref a2, .ref a3, .ref a4, .ref a5, .int 0, .int 0, .int 0, .int 0, .int 0, .int 5, .int 200, .int 30]))]) (V2 := [(x0, .inr (cRm, [.int 0, .ref x1])), (x1, .inr (cRh, [.ref a0, .ref a1, .ref a2, .ref a3, .ref a4, .ref a5, .int 0, .int 0, .int 0, .int 0, .int 0, .int 5, .int 200, .int 30]))]) (q0 := 0) (ci := cRm) (r := (RX6, TX6, 2)) ⟨hx, hb, hml, hown, hts⟩ (rX6_manyNow l D cI cB H.size x0 x1 a0 a1 a2 a3 a4 a5 0 n hn A (fun q h => hA q (Nat.le_trans (by rw [← hsz]; exact hS.1) h)) hD) (cwV 1 hts gX6_many_X6_manyNow rfl rfl rfl (by decide +kernel) ⟨Nat.le_of_ble_eq_true rfl, Nat.le_of_ble_eq_true rfl⟩) hK hP (hP.sub [0, 1] rfl) hS rfl rfl rfl rfl hl.1 (Nat.le_of_ble_eq_true rfl) dX6_many_23 ⟨Nat.le_of_ble_eq_true rfl, Nat.le_of_ble_eq_true rfl⟩ rfl (fun r_ H locs hp hP hS => ?_)
    subst hp
    have hP : va_P D vwCl [(x0, .inr (cRm, [.int 0, .ref x1])), (x1, .inr (cRh, [.ref a0, .ref a1, .ref a2, .ref a3, .ref a4, .ref a5, .int 0, .int 0, .int 0, .int 0, .int 0, .int 5, .int 200, .int 30]))] H := hP
    refine W.widen (k := 1) (n := 15) (by decide) (by decide) ?_
    exact W.iret (v := rf_all n) hx hb hr (fun U9 ht hW9 => ⟨⟨rf_all n, (), rfl, rfl, by show va_P D vwCl _ U9.heap; rw [ht]; exact hP.sub [0] rfl⟩, hS.F ht⟩) hS.2.2 dX6_many_26
  · exact absurd (h1.symm.trans c_12) (by decide)
set_option maxHeartbeats 4000000 in
set_option maxRecDepth 100000 in
/-- the reference: meanLikeness -/
theorem rX6_meanLikeness (l : Launch) (D : va_G) (cI cB : ClassId) (sz : Nat) (x0 x1 a0 a1 a2 a3 a4 a5 : Nat) (t : Int32) (A : Nat → Prop) (hD : va_D A [(x0, .inr (cRm, [.int t, .ref x1])), (x1, .inr (cRh, [.ref a0, .ref a1, .ref a2, .ref a3, .ref a4, .ref a5, .int 0, .int 0, .int 0, .int 0, .int 0, .int 5, .int 200, .int 30]))]) : rf_Md l yX6_meanLikeness wsX6_meanLikeness ({ frames := 1, cells := 0, slots := 0, locals := 24 }) D [(cI, .int), (cB, .array .int)] sz [(x0, .inr (cRm, [.int t, .ref x1])), (x1, .inr (cRh, [.ref a0, .ref a1, .ref a2, .ref a3, .ref a4, .ref a5, .int 0, .int 0, .int 0, .int 0, .int 0, .int 5, .int 200, .int 30]))] [(x0, .inr (cRm, [.int 0, .ref x1]))] A [.ref x0] (fun r => r = FP.dconst0) 0 0 := by
  refine Met.ofW (cc := cX6_meanLikeness) (maxL := 3) (ret := (some .double)) (by decide) rfl ?_
  intro p e s m args below meth c s₁ B hml hv
  obtain ⟨rfl, hsz, hP, hK⟩ := hv
  have hx := B.exec
  have hb := B.bytes
  have hr := B.returns
  have hts := atoms_spec (ws := wsX6_meanLikeness) B.pre
  have hown : s.vm.findClass RX6 = some m.cls := findClass_of_methodNamed B.named
  have hlocks := B.notSynchronized
  have hS : va_S A s.heap s.heap [] := va_S.rf
  have hP : va_P D vwCl [(x0, .inr (cRm, [.int t, .ref x1])), (x1, .inr (cRh, [.ref a0, .ref a1, .ref a2, .ref a3, .ref a4, .ref a5, .int 0, .int 0, .int 0, .int 0, .int 0, .int 5, .int 200, .int 30]))] s.heap := hP
  have hl := lv_entry ([.ref x0]) (n := 3) (Nat.le_of_ble_eq_true rfl)
  rw [lg_entry_eq]
  generalize (lg_sl ([.ref x0]) ++ List.replicate (3 - (lg_sl ([.ref x0])).length) Slot.unset).toArray = ls at hl ⊢
  have hl : lv_has ls 3 [(0, .ref x0)] := hl
  refine lv_aload_n hx hb dX6_meanLikeness_0 rfl (lv_at hl 0 rfl) ?_
  refine lv_iconst (v := 0) hx hb dX6_meanLikeness_1 (by decide) ?_
  refine va_put (ci := cRm) (C := RX6) (T := TX6) (N := 2) (ty := .int) hx hb hts (by decide +kernel) tyX6 tyX6_ok nmX6 hown hK hP hD hS 0 rfl rfl 0 (by decide) (hts (.fieldLink RX6 16 "WaxrowModel" "thrown" "I") (by decide +kernel)) (fun _ h9 => h9) rfl (by decide +kernel) rfl rfl (Nat.le_of_ble_eq_true rfl) dX6_meanLikeness_2 (fun H locs hP hD hS => ?_)
  have hP : va_P D vwCl [(x0, .inr (cRm, [.int 0, .ref x1])), (x1, .inr (cRh, [.ref a0, .ref a1, .ref a2, .ref a3, .ref a4, .ref a5, .int 0, .int 0, .int 0, .int 0, .int 0, .int 5, .int 200, .int 30]))] H := hP
  have hD : va_D A [(x0, .inr (cRm, [.int 0, .ref x1])), (x1, .inr (cRh, [.ref a0, .ref a1, .ref a2, .ref a3, .ref a4, .ref a5, .int 0, .int 0, .int 0, .int 0, .int 0, .int 5, .int 200, .int 30]))] := hD
  refine lv_iconst (v := 0) hx hb dX6_meanLikeness_5 (by decide) ?_
  refine lv_istore_n (lv' := [(1, .int 0), (0, .ref x0)]) hx hb dX6_meanLikeness_6 rfl hl (by decide) rfl (fun ls hl => ?_)
  refine lv_iconst (v := 0) hx hb dX6_meanLikeness_7 (by decide) ?_
  refine lv_istore_n (lv' := [(2, .int 0), (1, .int 0), (0, .ref x0)]) hx hb dX6_meanLikeness_8 rfl hl (by decide) rfl (fun ls hl => ?_)
  refine lv_iload_n hx hb dX6_meanLikeness_9 rfl (lv_at hl 0 rfl) ?_
  refine lv_aload_n hx hb dX6_meanLikeness_10 rfl (lv_at hl 2 rfl) ?_
  refine va_get (D := D) (ci := cRm) (C := RX6) (T := TX6) (N := 2) (v := .ref x1) hx hb hts (by decide +kernel) hown hK hP 0 rfl rfl 1 (by decide) (hts (.fieldLink RX6 10 "WaxrowModel" "house" "LWaxrowModel$House;") (by decide +kernel)) (fun _ h9 => h9) rfl dX6_meanLikeness_11 ?_
  refine va_get (D := D) (ci := cRh) (C := RX5) (T := TX5) (N := 14) (v := .int 0) hx hb hts (by decide +kernel) hown hK hP 1 rfl rfl 7 (by decide) (hts (.fieldLink RX6 36 "WaxrowModel$House" "figureCount" "I") (by decide +kernel)) (fun _ h9 => h9) rfl dX6_meanLikeness_14 ?_
  refine lv_icmp_ge (tgt := 68) hx hb dX6_meanLikeness_17 (by decide) (fun c_17 => ?_) (fun c_17 => ?_)
  · refine lv_aload_n hx hb dX6_meanLikeness_68 rfl (lv_at hl 2 rfl) ?_
    refine lv_iconst (v := 0) hx hb dX6_meanLikeness_69 (by decide) ?_
    refine lv_iconst (v := 4) hx hb dX6_meanLikeness_70 (by decide) ?_
    refine rf_callR (As := [.int 0, .int 4]) (V := [(x0, .inr (cRm, [.int 0, .ref x1])), (x1, .inr (cRh, [.ref a0, .ref a1, .ref a2, .ref a3, .ref a4, .ref a5, .int 0, .int 0, .int 0, .int 0, .int 0, .int 5, .int 200, .int 30]))]) (q0 := 0) (ci := cRm) (r := (RX6, TX6, 2)) ⟨hx, hb, hml, hown, hts⟩ (rX6_countAt l D cI cB H.size x0 x1 a0 a1 a2 a3 a4 a5 0 0 4) (cwV 2 hts gX6_meanLikeness_X6_countAt rfl rfl rfl (by decide +kernel) ⟨Nat.le_of_ble_eq_true rfl, Nat.le_of_ble_eq_true rfl⟩) hK hP (hP.sub [0, 1] rfl) hS rfl rfl rfl rfl hl.1 (Nat.le_of_ble_eq_true rfl) dX6_meanLikeness_71 ⟨Nat.le_of_ble_eq_true rfl, Nat.le_of_ble_eq_true rfl⟩ rfl (fun r_ H locs hp hP hS => ?_)
    subst hp
    have hP : va_P D vwCl [(x0, .inr (cRm, [.int 0, .ref x1])), (x1, .inr (cRh, [.ref a0, .ref a1, .ref a2, .ref a3, .ref a4, .ref a5, .int 0, .int 0, .int 0, .int 0, .int 0, .int 5, .int 200, .int 30]))] H := hP
    refine lv_istore_n (lv' := [(2, .int 0), (1, .int 0), (0, .ref x0)]) hx hb dX6_meanLikeness_74 rfl hl (by decide) rfl (fun ls hl => ?_)
    refine lv_iload_n hx hb dX6_meanLikeness_75 rfl (lv_at hl 0 rfl) ?_
    refine lv_if_ne (tgt := 83) hx hb dX6_meanLikeness_76 (by decide) (fun c_76 => ?_) (fun c_76 => ?_)
    · exact absurd (by decide +kernel) c_76
    · refine lv_dconst0 hx hb dX6_meanLikeness_79 ?_
      refine lv_goto (tgt := 88) hx hb dX6_meanLikeness_80 (by decide) ?_
      exact W.dret (v := FP.dconst0) hx hb hr (fun U9 ht hW9 => ⟨⟨FP.dconst0, (), rfl, rfl, by show va_P D vwCl _ U9.heap; rw [ht]; exact hP.sub [0] rfl⟩, hS.F ht⟩) hS.2.2 dX6_meanLikeness_88
  · exact absurd (by decide +kernel) c_17
def rf_dg : Nat → Int64
  | 0 => 58234
  | n + 1 => rf_dg n * 31 + (rf_all n).toInt64
set_option maxHeartbeats 4000000 in
set_option maxRecDepth 100000 in
/-- the reference: digest -/
theorem rX6_digest (l : Launch) (D : va_G) (cI cB : ClassId) (sz : Nat) (x0 x1 a0 a1 a2 a3 a4 a5 : Nat) (t : Int32) (A : Nat → Prop) (hA : ∀ q, sz ≤ q → A q) (hD : va_D A [(x0, .inr (cRm, [.int t, .ref x1])), (x1, .inr (cRh, [.ref a0, .ref a1, .ref a2, .ref a3, .ref a4, .ref a5, .int 0, .int 0, .int 0, .int 0, .int 0, .int 5, .int 200, .int 30]))]) : rf_Ml l yX6_digest wsX6_digest ({ frames := 2, cells := 15, slots := 225, locals := 50 }) D [(cI, .int), (cB, .array .int)] sz [(x0, .inr (cRm, [.int t, .ref x1])), (x1, .inr (cRh, [.ref a0, .ref a1, .ref a2, .ref a3, .ref a4, .ref a5, .int 0, .int 0, .int 0, .int 0, .int 0, .int 5, .int 200, .int 30]))] [(x0, .inr (cRm, [.int 0, .ref x1]))] A [.ref x0] (fun r => r = rf_dg 15 * 31 + ((-1 : Int32)).toInt64) 15 225 := by
  refine Met.ofW (cc := cX6_digest) (maxL := 5) (ret := (some .long)) (by decide) rfl ?_
  intro p e s m args below meth c s₁ B hml hv
  obtain ⟨rfl, hsz, hP, hK⟩ := hv
  have hx := B.exec
  have hb := B.bytes
  have hr := B.returns
  have hts := atoms_spec (ws := wsX6_digest) B.pre
  have hown : s.vm.findClass RX6 = some m.cls := findClass_of_methodNamed B.named
  have hlocks := B.notSynchronized
  have hS : va_S A s.heap s.heap [] := va_S.rf
  have hP : va_P D vwCl [(x0, .inr (cRm, [.int t, .ref x1])), (x1, .inr (cRh, [.ref a0, .ref a1, .ref a2, .ref a3, .ref a4, .ref a5, .int 0, .int 0, .int 0, .int 0, .int 0, .int 5, .int 200, .int 30]))] s.heap := hP
  have hl := lv_entry ([.ref x0]) (n := 5) (Nat.le_of_ble_eq_true rfl)
  rw [lg_entry_eq]
  generalize (lg_sl ([.ref x0]) ++ List.replicate (5 - (lg_sl ([.ref x0])).length) Slot.unset).toArray = ls at hl ⊢
  have hl : lv_has ls 5 [(0, .ref x0)] := hl
  refine lv_aload_n hx hb dX6_digest_0 rfl (lv_at hl 0 rfl) ?_
  refine lv_iconst (v := 0) hx hb dX6_digest_1 (by decide) ?_
  refine va_put (ci := cRm) (C := RX6) (T := TX6) (N := 2) (ty := .int) hx hb hts (by decide +kernel) tyX6 tyX6_ok nmX6 hown hK hP hD hS 0 rfl rfl 0 (by decide) (hts (.fieldLink RX6 16 "WaxrowModel" "thrown" "I") (by decide +kernel)) (fun _ h9 => h9) rfl (by decide +kernel) rfl rfl (Nat.le_of_ble_eq_true rfl) dX6_digest_2 (fun H locs hP hD hS => ?_)
  have hP : va_P D vwCl [(x0, .inr (cRm, [.int 0, .ref x1])), (x1, .inr (cRh, [.ref a0, .ref a1, .ref a2, .ref a3, .ref a4, .ref a5, .int 0, .int 0, .int 0, .int 0, .int 0, .int 5, .int 200, .int 30]))] H := hP
  have hD : va_D A [(x0, .inr (cRm, [.int 0, .ref x1])), (x1, .inr (cRh, [.ref a0, .ref a1, .ref a2, .ref a3, .ref a4, .ref a5, .int 0, .int 0, .int 0, .int 0, .int 0, .int 5, .int 200, .int 30]))] := hD
  refine lv_ldc2 (v := 58234) hx hb hown (hts (.constantLong RX6 179 58234) (by decide +kernel)) dX6_digest_5 ?_
  refine lv_lstore_n (lv' := [(1, .long 58234), (0, .ref x0)]) hx hb dX6_digest_8 rfl hl (by decide) rfl (fun ls hl => ?_)
  refine lv_iconst (v := 0) hx hb dX6_digest_9 (by decide) ?_
  refine lv_istore_n (lv' := [(3, .int 0), (1, .long 58234), (0, .ref x0)]) hx hb dX6_digest_10 rfl hl (by decide) rfl (fun ls hl => ?_)
  have hl : lv_has ls 5 [(3, .int 0), (1, .long (rf_dg 0)), (0, .ref x0)] := hl
  refine lv_iload_n hx hb dX6_digest_11 rfl (lv_at hl 0 rfl) ?_
  refine lv_bipush (v := 14) hx hb dX6_digest_12 (by decide) ?_
  refine lv_icmp_gt (tgt := 36) hx hb dX6_digest_14 (by decide) (fun c_14 => ?_) (fun c_14 => ?_)
  · exact absurd c_14 (by decide +kernel)
  · refine lv_lload_n hx hb dX6_digest_17 rfl (lv_at hl 1 rfl) ?_
    refine lv_ldc2 (v := 31) hx hb hown (hts (.constantLong RX6 181 31) (by decide +kernel)) dX6_digest_18 ?_
    refine lv_lmul hx hb dX6_digest_21 ?_
    refine lv_aload_n hx hb dX6_digest_22 rfl (lv_at hl 2 rfl) ?_
    refine lv_iload_n hx hb dX6_digest_23 rfl (lv_at hl 0 rfl) ?_
    refine rf_callW (As := [.int 0]) (V := [(x0, .inr (cRm, [.int 0, .ref x1])), (x1, .inr (cRh, [.ref a0, .ref a1, .ref a2, .ref a3, .ref a4, .ref a5, .int 0, .int 0, .int 0, .int 0, .int 0, .int 5, .int 200, .int 30]))]) (V2 := [(x0, .inr (cRm, [.int 0, .ref x1])), (x1, .inr (cRh, [.ref a0, .ref a1, .ref a2, .ref a3, .ref a4, .ref a5, .int 0, .int 0, .int 0, .int 0, .int 0, .int 5, .int 200, .int 30]))]) (q0 := 0) (ci := cRm) (r := (RX6, TX6, 2)) ⟨hx, hb, hml, hown, hts⟩ (rX6_manyNow l D cI cB H.size x0 x1 a0 a1 a2 a3 a4 a5 0 0 (by decide) A (fun q h => hA q (Nat.le_trans (by rw [← hsz]; exact hS.1) h)) hD) (cwV 1 hts gX6_digest_X6_manyNow rfl rfl rfl (by decide +kernel) ⟨Nat.le_of_ble_eq_true rfl, Nat.le_of_ble_eq_true rfl⟩) hK hP (hP.sub [0, 1] rfl) hS rfl rfl rfl rfl hl.1 (Nat.le_of_ble_eq_true rfl) dX6_digest_24 ⟨Nat.le_of_ble_eq_true rfl, Nat.le_of_ble_eq_true rfl⟩ rfl (fun r_ H locs hp hP hS => ?_)
    subst hp
    have hP : va_P D vwCl [(x0, .inr (cRm, [.int 0, .ref x1])), (x1, .inr (cRh, [.ref a0, .ref a1, .ref a2, .ref a3, .ref a4, .ref a5, .int 0, .int 0, .int 0, .int 0, .int 0, .int 5, .int 200, .int 30]))] H := hP
    refine lv_i2l hx hb dX6_digest_27 rfl ?_
    refine lv_ladd hx hb dX6_digest_28 ?_
    refine lv_lstore_n (lv' := [(1, .long (((rf_dg 0) * 31) + ((rf_all 0).toInt64))), (3, .int 0), (0, .ref x0)]) hx hb dX6_digest_29 rfl hl (by decide) rfl (fun ls hl => ?_)
    have hl : lv_has ls 5 [(1, .long (rf_dg 1)), (3, .int 0), (0, .ref x0)] := hl
    refine lv_iinc (v := 1) (lv' := [(3, .int 1), (1, .long (rf_dg 1)), (0, .ref x0)]) hx hb dX6_digest_30 hl (k := 1) rfl (by decide) (by decide) rfl (fun ls hl => ?_)
    refine lv_goto (tgt := 11) hx hb dX6_digest_33 (by decide) ?_
    refine lv_iload_n hx hb dX6_digest_11 rfl (lv_at hl 0 rfl) ?_
    refine lv_bipush (v := 14) hx hb dX6_digest_12 (by decide) ?_
    refine lv_icmp_gt (tgt := 36) hx hb dX6_digest_14 (by decide) (fun c_14 => ?_) (fun c_14 => ?_)
    · exact absurd c_14 (by decide +kernel)
    · refine lv_lload_n hx hb dX6_digest_17 rfl (lv_at hl 1 rfl) ?_
      refine lv_ldc2 (v := 31) hx hb hown (hts (.constantLong RX6 181 31) (by decide +kernel)) dX6_digest_18 ?_
      refine lv_lmul hx hb dX6_digest_21 ?_
      refine lv_aload_n hx hb dX6_digest_22 rfl (lv_at hl 2 rfl) ?_
      refine lv_iload_n hx hb dX6_digest_23 rfl (lv_at hl 0 rfl) ?_
      refine rf_callW (As := [.int 1]) (V := [(x0, .inr (cRm, [.int 0, .ref x1])), (x1, .inr (cRh, [.ref a0, .ref a1, .ref a2, .ref a3, .ref a4, .ref a5, .int 0, .int 0, .int 0, .int 0, .int 0, .int 5, .int 200, .int 30]))]) (V2 := [(x0, .inr (cRm, [.int 0, .ref x1])), (x1, .inr (cRh, [.ref a0, .ref a1, .ref a2, .ref a3, .ref a4, .ref a5, .int 0, .int 0, .int 0, .int 0, .int 0, .int 5, .int 200, .int 30]))]) (q0 := 0) (ci := cRm) (r := (RX6, TX6, 2)) ⟨hx, hb, hml, hown, hts⟩ (rX6_manyNow l D cI cB H.size x0 x1 a0 a1 a2 a3 a4 a5 0 1 (by decide) A (fun q h => hA q (Nat.le_trans (by rw [← hsz]; exact hS.1) h)) hD) (cwV 1 hts gX6_digest_X6_manyNow rfl rfl rfl (by decide +kernel) ⟨Nat.le_of_ble_eq_true rfl, Nat.le_of_ble_eq_true rfl⟩) hK hP (hP.sub [0, 1] rfl) hS rfl rfl rfl rfl hl.1 (Nat.le_of_ble_eq_true rfl) dX6_digest_24 ⟨Nat.le_of_ble_eq_true rfl, Nat.le_of_ble_eq_true rfl⟩ rfl (fun r_ H locs hp hP hS => ?_)
      subst hp
      have hP : va_P D vwCl [(x0, .inr (cRm, [.int 0, .ref x1])), (x1, .inr (cRh, [.ref a0, .ref a1, .ref a2, .ref a3, .ref a4, .ref a5, .int 0, .int 0, .int 0, .int 0, .int 0, .int 5, .int 200, .int 30]))] H := hP
      refine lv_i2l hx hb dX6_digest_27 rfl ?_
      refine lv_ladd hx hb dX6_digest_28 ?_
      refine lv_lstore_n (lv' := [(1, .long (((rf_dg 1) * 31) + ((rf_all 1).toInt64))), (3, .int 1), (0, .ref x0)]) hx hb dX6_digest_29 rfl hl (by decide) rfl (fun ls hl => ?_)
      have hl : lv_has ls 5 [(1, .long (rf_dg 2)), (3, .int 1), (0, .ref x0)] := hl
      refine lv_iinc (v := 2) (lv' := [(3, .int 2), (1, .long (rf_dg 2)), (0, .ref x0)]) hx hb dX6_digest_30 hl (k := 1) rfl (by decide) (by decide) rfl (fun ls hl => ?_)
      refine lv_goto (tgt := 11) hx hb dX6_digest_33 (by decide) ?_
      refine lv_iload_n hx hb dX6_digest_11 rfl (lv_at hl 0 rfl) ?_
      refine lv_bipush (v := 14) hx hb dX6_digest_12 (by decide) ?_
      refine lv_icmp_gt (tgt := 36) hx hb dX6_digest_14 (by decide) (fun c_14 => ?_) (fun c_14 => ?_)
      · exact absurd c_14 (by decide +kernel)
      · refine lv_lload_n hx hb dX6_digest_17 rfl (lv_at hl 1 rfl) ?_
        refine lv_ldc2 (v := 31) hx hb hown (hts (.constantLong RX6 181 31) (by decide +kernel)) dX6_digest_18 ?_
        refine lv_lmul hx hb dX6_digest_21 ?_
        refine lv_aload_n hx hb dX6_digest_22 rfl (lv_at hl 2 rfl) ?_
        refine lv_iload_n hx hb dX6_digest_23 rfl (lv_at hl 0 rfl) ?_
        refine rf_callW (As := [.int 2]) (V := [(x0, .inr (cRm, [.int 0, .ref x1])), (x1, .inr (cRh, [.ref a0, .ref a1, .ref a2, .ref a3, .ref a4, .ref a5, .int 0, .int 0, .int 0, .int 0, .int 0, .int 5, .int 200, .int 30]))]) (V2 := [(x0, .inr (cRm, [.int 0, .ref x1])), (x1, .inr (cRh, [.ref a0, .ref a1, .ref a2, .ref a3, .ref a4, .ref a5, .int 0, .int 0, .int 0, .int 0, .int 0, .int 5, .int 200, .int 30]))]) (q0 := 0) (ci := cRm) (r := (RX6, TX6, 2)) ⟨hx, hb, hml, hown, hts⟩ (rX6_manyNow l D cI cB H.size x0 x1 a0 a1 a2 a3 a4 a5 0 2 (by decide) A (fun q h => hA q (Nat.le_trans (by rw [← hsz]; exact hS.1) h)) hD) (cwV 1 hts gX6_digest_X6_manyNow rfl rfl rfl (by decide +kernel) ⟨Nat.le_of_ble_eq_true rfl, Nat.le_of_ble_eq_true rfl⟩) hK hP (hP.sub [0, 1] rfl) hS rfl rfl rfl rfl hl.1 (Nat.le_of_ble_eq_true rfl) dX6_digest_24 ⟨Nat.le_of_ble_eq_true rfl, Nat.le_of_ble_eq_true rfl⟩ rfl (fun r_ H locs hp hP hS => ?_)
        subst hp
        have hP : va_P D vwCl [(x0, .inr (cRm, [.int 0, .ref x1])), (x1, .inr (cRh, [.ref a0, .ref a1, .ref a2, .ref a3, .ref a4, .ref a5, .int 0, .int 0, .int 0, .int 0, .int 0, .int 5, .int 200, .int 30]))] H := hP
        refine lv_i2l hx hb dX6_digest_27 rfl ?_
        refine lv_ladd hx hb dX6_digest_28 ?_
        refine lv_lstore_n (lv' := [(1, .long (((rf_dg 2) * 31) + ((rf_all 2).toInt64))), (3, .int 2), (0, .ref x0)]) hx hb dX6_digest_29 rfl hl (by decide) rfl (fun ls hl => ?_)
        have hl : lv_has ls 5 [(1, .long (rf_dg 3)), (3, .int 2), (0, .ref x0)] := hl
        refine lv_iinc (v := 3) (lv' := [(3, .int 3), (1, .long (rf_dg 3)), (0, .ref x0)]) hx hb dX6_digest_30 hl (k := 1) rfl (by decide) (by decide) rfl (fun ls hl => ?_)
        refine lv_goto (tgt := 11) hx hb dX6_digest_33 (by decide) ?_
        refine lv_iload_n hx hb dX6_digest_11 rfl (lv_at hl 0 rfl) ?_
        refine lv_bipush (v := 14) hx hb dX6_digest_12 (by decide) ?_
        refine lv_icmp_gt (tgt := 36) hx hb dX6_digest_14 (by decide) (fun c_14 => ?_) (fun c_14 => ?_)
        · exact absurd c_14 (by decide +kernel)
        · refine lv_lload_n hx hb dX6_digest_17 rfl (lv_at hl 1 rfl) ?_
          refine lv_ldc2 (v := 31) hx hb hown (hts (.constantLong RX6 181 31) (by decide +kernel)) dX6_digest_18 ?_
          refine lv_lmul hx hb dX6_digest_21 ?_
          refine lv_aload_n hx hb dX6_digest_22 rfl (lv_at hl 2 rfl) ?_
          refine lv_iload_n hx hb dX6_digest_23 rfl (lv_at hl 0 rfl) ?_
          refine rf_callW (As := [.int 3]) (V := [(x0, .inr (cRm, [.int 0, .ref x1])), (x1, .inr (cRh, [.ref a0, .ref a1, .ref a2, .ref a3, .ref a4, .ref a5, .int 0, .int 0, .int 0, .int 0, .int 0, .int 5, .int 200, .int 30]))]) (V2 := [(x0, .inr (cRm, [.int 0, .ref x1])), (x1, .inr (cRh, [.ref a0, .ref a1, .ref a2, .ref a3, .ref a4, .ref a5, .int 0, .int 0, .int 0, .int 0, .int 0, .int 5, .int 200, .int 30]))]) (q0 := 0) (ci := cRm) (r := (RX6, TX6, 2)) ⟨hx, hb, hml, hown, hts⟩ (rX6_manyNow l D cI cB H.size x0 x1 a0 a1 a2 a3 a4 a5 0 3 (by decide) A (fun q h => hA q (Nat.le_trans (by rw [← hsz]; exact hS.1) h)) hD) (cwV 1 hts gX6_digest_X6_manyNow rfl rfl rfl (by decide +kernel) ⟨Nat.le_of_ble_eq_true rfl, Nat.le_of_ble_eq_true rfl⟩) hK hP (hP.sub [0, 1] rfl) hS rfl rfl rfl rfl hl.1 (Nat.le_of_ble_eq_true rfl) dX6_digest_24 ⟨Nat.le_of_ble_eq_true rfl, Nat.le_of_ble_eq_true rfl⟩ rfl (fun r_ H locs hp hP hS => ?_)
          subst hp
          have hP : va_P D vwCl [(x0, .inr (cRm, [.int 0, .ref x1])), (x1, .inr (cRh, [.ref a0, .ref a1, .ref a2, .ref a3, .ref a4, .ref a5, .int 0, .int 0, .int 0, .int 0, .int 0, .int 5, .int 200, .int 30]))] H := hP
          refine lv_i2l hx hb dX6_digest_27 rfl ?_
          refine lv_ladd hx hb dX6_digest_28 ?_
          refine lv_lstore_n (lv' := [(1, .long (((rf_dg 3) * 31) + ((rf_all 3).toInt64))), (3, .int 3), (0, .ref x0)]) hx hb dX6_digest_29 rfl hl (by decide) rfl (fun ls hl => ?_)
          have hl : lv_has ls 5 [(1, .long (rf_dg 4)), (3, .int 3), (0, .ref x0)] := hl
          refine lv_iinc (v := 4) (lv' := [(3, .int 4), (1, .long (rf_dg 4)), (0, .ref x0)]) hx hb dX6_digest_30 hl (k := 1) rfl (by decide) (by decide) rfl (fun ls hl => ?_)
          refine lv_goto (tgt := 11) hx hb dX6_digest_33 (by decide) ?_
          refine lv_iload_n hx hb dX6_digest_11 rfl (lv_at hl 0 rfl) ?_
          refine lv_bipush (v := 14) hx hb dX6_digest_12 (by decide) ?_
          refine lv_icmp_gt (tgt := 36) hx hb dX6_digest_14 (by decide) (fun c_14 => ?_) (fun c_14 => ?_)
          · exact absurd c_14 (by decide +kernel)
          · refine lv_lload_n hx hb dX6_digest_17 rfl (lv_at hl 1 rfl) ?_
            refine lv_ldc2 (v := 31) hx hb hown (hts (.constantLong RX6 181 31) (by decide +kernel)) dX6_digest_18 ?_
            refine lv_lmul hx hb dX6_digest_21 ?_
            refine lv_aload_n hx hb dX6_digest_22 rfl (lv_at hl 2 rfl) ?_
            refine lv_iload_n hx hb dX6_digest_23 rfl (lv_at hl 0 rfl) ?_
            refine rf_callW (As := [.int 4]) (V := [(x0, .inr (cRm, [.int 0, .ref x1])), (x1, .inr (cRh, [.ref a0, .ref a1, .ref a2, .ref a3, .ref a4, .ref a5, .int 0, .int 0, .int 0, .int 0, .int 0, .int 5, .int 200, .int 30]))]) (V2 := [(x0, .inr (cRm, [.int 0, .ref x1])), (x1, .inr (cRh, [.ref a0, .ref a1, .ref a2, .ref a3, .ref a4, .ref a5, .int 0, .int 0, .int 0, .int 0, .int 0, .int 5, .int 200, .int 30]))]) (q0 := 0) (ci := cRm) (r := (RX6, TX6, 2)) ⟨hx, hb, hml, hown, hts⟩ (rX6_manyNow l D cI cB H.size x0 x1 a0 a1 a2 a3 a4 a5 0 4 (by decide) A (fun q h => hA q (Nat.le_trans (by rw [← hsz]; exact hS.1) h)) hD) (cwV 1 hts gX6_digest_X6_manyNow rfl rfl rfl (by decide +kernel) ⟨Nat.le_of_ble_eq_true rfl, Nat.le_of_ble_eq_true rfl⟩) hK hP (hP.sub [0, 1] rfl) hS rfl rfl rfl rfl hl.1 (Nat.le_of_ble_eq_true rfl) dX6_digest_24 ⟨Nat.le_of_ble_eq_true rfl, Nat.le_of_ble_eq_true rfl⟩ rfl (fun r_ H locs hp hP hS => ?_)
            subst hp
            have hP : va_P D vwCl [(x0, .inr (cRm, [.int 0, .ref x1])), (x1, .inr (cRh, [.ref a0, .ref a1, .ref a2, .ref a3, .ref a4, .ref a5, .int 0, .int 0, .int 0, .int 0, .int 0, .int 5, .int 200, .int 30]))] H := hP
            refine lv_i2l hx hb dX6_digest_27 rfl ?_
            refine lv_ladd hx hb dX6_digest_28 ?_
            refine lv_lstore_n (lv' := [(1, .long (((rf_dg 4) * 31) + ((rf_all 4).toInt64))), (3, .int 4), (0, .ref x0)]) hx hb dX6_digest_29 rfl hl (by decide) rfl (fun ls hl => ?_)
            have hl : lv_has ls 5 [(1, .long (rf_dg 5)), (3, .int 4), (0, .ref x0)] := hl
            refine lv_iinc (v := 5) (lv' := [(3, .int 5), (1, .long (rf_dg 5)), (0, .ref x0)]) hx hb dX6_digest_30 hl (k := 1) rfl (by decide) (by decide) rfl (fun ls hl => ?_)
            refine lv_goto (tgt := 11) hx hb dX6_digest_33 (by decide) ?_
            refine lv_iload_n hx hb dX6_digest_11 rfl (lv_at hl 0 rfl) ?_
            refine lv_bipush (v := 14) hx hb dX6_digest_12 (by decide) ?_
            refine lv_icmp_gt (tgt := 36) hx hb dX6_digest_14 (by decide) (fun c_14 => ?_) (fun c_14 => ?_)
            · exact absurd c_14 (by decide +kernel)
            · refine lv_lload_n hx hb dX6_digest_17 rfl (lv_at hl 1 rfl) ?_
              refine lv_ldc2 (v := 31) hx hb hown (hts (.constantLong RX6 181 31) (by decide +kernel)) dX6_digest_18 ?_
              refine lv_lmul hx hb dX6_digest_21 ?_
              refine lv_aload_n hx hb dX6_digest_22 rfl (lv_at hl 2 rfl) ?_
              refine lv_iload_n hx hb dX6_digest_23 rfl (lv_at hl 0 rfl) ?_
              refine rf_callW (As := [.int 5]) (V := [(x0, .inr (cRm, [.int 0, .ref x1])), (x1, .inr (cRh, [.ref a0, .ref a1, .ref a2, .ref a3, .ref a4, .ref a5, .int 0, .int 0, .int 0, .int 0, .int 0, .int 5, .int 200, .int 30]))]) (V2 := [(x0, .inr (cRm, [.int 0, .ref x1])), (x1, .inr (cRh, [.ref a0, .ref a1, .ref a2, .ref a3, .ref a4, .ref a5, .int 0, .int 0, .int 0, .int 0, .int 0, .int 5, .int 200, .int 30]))]) (q0 := 0) (ci := cRm) (r := (RX6, TX6, 2)) ⟨hx, hb, hml, hown, hts⟩ (rX6_manyNow l D cI cB H.size x0 x1 a0 a1 a2 a3 a4 a5 0 5 (by decide) A (fun q h => hA q (Nat.le_trans (by rw [← hsz]; exact hS.1) h)) hD) (cwV 1 hts gX6_digest_X6_manyNow rfl rfl rfl (by decide +kernel) ⟨Nat.le_of_ble_eq_true rfl, Nat.le_of_ble_eq_true rfl⟩) hK hP (hP.sub [0, 1] rfl) hS rfl rfl rfl rfl hl.1 (Nat.le_of_ble_eq_true rfl) dX6_digest_24 ⟨Nat.le_of_ble_eq_true rfl, Nat.le_of_ble_eq_true rfl⟩ rfl (fun r_ H locs hp hP hS => ?_)
              subst hp
              have hP : va_P D vwCl [(x0, .inr (cRm, [.int 0, .ref x1])), (x1, .inr (cRh, [.ref a0, .ref a1, .ref a2, .ref a3, .ref a4, .ref a5, .int 0, .int 0, .int 0, .int 0, .int 0, .int 5, .int 200, .int 30]))] H := hP
              refine lv_i2l hx hb dX6_digest_27 rfl ?_
              refine lv_ladd hx hb dX6_digest_28 ?_
              refine lv_lstore_n (lv' := [(1, .long (((rf_dg 5) * 31) + ((rf_all 5).toInt64))), (3, .int 5), (0, .ref x0)]) hx hb dX6_digest_29 rfl hl (by decide) rfl (fun ls hl => ?_)
              have hl : lv_has ls 5 [(1, .long (rf_dg 6)), (3, .int 5), (0, .ref x0)] := hl
              refine lv_iinc (v := 6) (lv' := [(3, .int 6), (1, .long (rf_dg 6)), (0, .ref x0)]) hx hb dX6_digest_30 hl (k := 1) rfl (by decide) (by decide) rfl (fun ls hl => ?_)
              refine lv_goto (tgt := 11) hx hb dX6_digest_33 (by decide) ?_
              refine lv_iload_n hx hb dX6_digest_11 rfl (lv_at hl 0 rfl) ?_
              refine lv_bipush (v := 14) hx hb dX6_digest_12 (by decide) ?_
              refine lv_icmp_gt (tgt := 36) hx hb dX6_digest_14 (by decide) (fun c_14 => ?_) (fun c_14 => ?_)
              · exact absurd c_14 (by decide +kernel)
              · refine lv_lload_n hx hb dX6_digest_17 rfl (lv_at hl 1 rfl) ?_
                refine lv_ldc2 (v := 31) hx hb hown (hts (.constantLong RX6 181 31) (by decide +kernel)) dX6_digest_18 ?_
                refine lv_lmul hx hb dX6_digest_21 ?_
                refine lv_aload_n hx hb dX6_digest_22 rfl (lv_at hl 2 rfl) ?_
                refine lv_iload_n hx hb dX6_digest_23 rfl (lv_at hl 0 rfl) ?_
                refine rf_callW (As := [.int 6]) (V := [(x0, .inr (cRm, [.int 0, .ref x1])), (x1, .inr (cRh, [.ref a0, .ref a1, .ref a2, .ref a3, .ref a4, .ref a5, .int 0, .int 0, .int 0, .int 0, .int 0, .int 5, .int 200, .int 30]))]) (V2 := [(x0, .inr (cRm, [.int 0, .ref x1])), (x1, .inr (cRh, [.ref a0, .ref a1, .ref a2, .ref a3, .ref a4, .ref a5, .int 0, .int 0, .int 0, .int 0, .int 0, .int 5, .int 200, .int 30]))]) (q0 := 0) (ci := cRm) (r := (RX6, TX6, 2)) ⟨hx, hb, hml, hown, hts⟩ (rX6_manyNow l D cI cB H.size x0 x1 a0 a1 a2 a3 a4 a5 0 6 (by decide) A (fun q h => hA q (Nat.le_trans (by rw [← hsz]; exact hS.1) h)) hD) (cwV 1 hts gX6_digest_X6_manyNow rfl rfl rfl (by decide +kernel) ⟨Nat.le_of_ble_eq_true rfl, Nat.le_of_ble_eq_true rfl⟩) hK hP (hP.sub [0, 1] rfl) hS rfl rfl rfl rfl hl.1 (Nat.le_of_ble_eq_true rfl) dX6_digest_24 ⟨Nat.le_of_ble_eq_true rfl, Nat.le_of_ble_eq_true rfl⟩ rfl (fun r_ H locs hp hP hS => ?_)
                subst hp
                have hP : va_P D vwCl [(x0, .inr (cRm, [.int 0, .ref x1])), (x1, .inr (cRh, [.ref a0, .ref a1, .ref a2, .ref a3, .ref a4, .ref a5, .int 0, .int 0, .int 0, .int 0, .int 0, .int 5, .int 200, .int 30]))] H := hP
                refine lv_i2l hx hb dX6_digest_27 rfl ?_
                refine lv_ladd hx hb dX6_digest_28 ?_
                refine lv_lstore_n (lv' := [(1, .long (((rf_dg 6) * 31) + ((rf_all 6).toInt64))), (3, .int 6), (0, .ref x0)]) hx hb dX6_digest_29 rfl hl (by decide) rfl (fun ls hl => ?_)
                have hl : lv_has ls 5 [(1, .long (rf_dg 7)), (3, .int 6), (0, .ref x0)] := hl
                refine lv_iinc (v := 7) (lv' := [(3, .int 7), (1, .long (rf_dg 7)), (0, .ref x0)]) hx hb dX6_digest_30 hl (k := 1) rfl (by decide) (by decide) rfl (fun ls hl => ?_)
                refine lv_goto (tgt := 11) hx hb dX6_digest_33 (by decide) ?_
                refine lv_iload_n hx hb dX6_digest_11 rfl (lv_at hl 0 rfl) ?_
                refine lv_bipush (v := 14) hx hb dX6_digest_12 (by decide) ?_
                refine lv_icmp_gt (tgt := 36) hx hb dX6_digest_14 (by decide) (fun c_14 => ?_) (fun c_14 => ?_)
                · exact absurd c_14 (by decide +kernel)
                · refine lv_lload_n hx hb dX6_digest_17 rfl (lv_at hl 1 rfl) ?_
                  refine lv_ldc2 (v := 31) hx hb hown (hts (.constantLong RX6 181 31) (by decide +kernel)) dX6_digest_18 ?_
                  refine lv_lmul hx hb dX6_digest_21 ?_
                  refine lv_aload_n hx hb dX6_digest_22 rfl (lv_at hl 2 rfl) ?_
                  refine lv_iload_n hx hb dX6_digest_23 rfl (lv_at hl 0 rfl) ?_
                  refine rf_callW (As := [.int 7]) (V := [(x0, .inr (cRm, [.int 0, .ref x1])), (x1, .inr (cRh, [.ref a0, .ref a1, .ref a2, .ref a3, .ref a4, .ref a5, .int 0, .int 0, .int 0, .int 0, .int 0, .int 5, .int 200, .int 30]))]) (V2 := [(x0, .inr (cRm, [.int 0, .ref x1])), (x1, .inr (cRh, [.ref a0, .ref a1, .ref a2, .ref a3, .ref a4, .ref a5, .int 0, .int 0, .int 0, .int 0, .int 0, .int 5, .int 200, .int 30]))]) (q0 := 0) (ci := cRm) (r := (RX6, TX6, 2)) ⟨hx, hb, hml, hown, hts⟩ (rX6_manyNow l D cI cB H.size x0 x1 a0 a1 a2 a3 a4 a5 0 7 (by decide) A (fun q h => hA q (Nat.le_trans (by rw [← hsz]; exact hS.1) h)) hD) (cwV 1 hts gX6_digest_X6_manyNow rfl rfl rfl (by decide +kernel) ⟨Nat.le_of_ble_eq_true rfl, Nat.le_of_ble_eq_true rfl⟩) hK hP (hP.sub [0, 1] rfl) hS rfl rfl rfl rfl hl.1 (Nat.le_of_ble_eq_true rfl) dX6_digest_24 ⟨Nat.le_of_ble_eq_true rfl, Nat.le_of_ble_eq_true rfl⟩ rfl (fun r_ H locs hp hP hS => ?_)
                  subst hp
                  have hP : va_P D vwCl [(x0, .inr (cRm, [.int 0, .ref x1])), (x1, .inr (cRh, [.ref a0, .ref a1, .ref a2, .ref a3, .ref a4, .ref a5, .int 0, .int 0, .int 0, .int 0, .int 0, .int 5, .int 200, .int 30]))] H := hP
                  refine lv_i2l hx hb dX6_digest_27 rfl ?_
                  refine lv_ladd hx hb dX6_digest_28 ?_
                  refine lv_lstore_n (lv' := [(1, .long (((rf_dg 7) * 31) + ((rf_all 7).toInt64))), (3, .int 7), (0, .ref x0)]) hx hb dX6_digest_29 rfl hl (by decide) rfl (fun ls hl => ?_)
                  have hl : lv_has ls 5 [(1, .long (rf_dg 8)), (3, .int 7), (0, .ref x0)] := hl
                  refine lv_iinc (v := 8) (lv' := [(3, .int 8), (1, .long (rf_dg 8)), (0, .ref x0)]) hx hb dX6_digest_30 hl (k := 1) rfl (by decide) (by decide) rfl (fun ls hl => ?_)
                  refine lv_goto (tgt := 11) hx hb dX6_digest_33 (by decide) ?_
                  refine lv_iload_n hx hb dX6_digest_11 rfl (lv_at hl 0 rfl) ?_
                  refine lv_bipush (v := 14) hx hb dX6_digest_12 (by decide) ?_
                  refine lv_icmp_gt (tgt := 36) hx hb dX6_digest_14 (by decide) (fun c_14 => ?_) (fun c_14 => ?_)
                  · exact absurd c_14 (by decide +kernel)
                  · refine lv_lload_n hx hb dX6_digest_17 rfl (lv_at hl 1 rfl) ?_
                    refine lv_ldc2 (v := 31) hx hb hown (hts (.constantLong RX6 181 31) (by decide +kernel)) dX6_digest_18 ?_
                    refine lv_lmul hx hb dX6_digest_21 ?_
                    refine lv_aload_n hx hb dX6_digest_22 rfl (lv_at hl 2 rfl) ?_
                    refine lv_iload_n hx hb dX6_digest_23 rfl (lv_at hl 0 rfl) ?_
                    refine rf_callW (As := [.int 8]) (V := [(x0, .inr (cRm, [.int 0, .ref x1])), (x1, .inr (cRh, [.ref a0, .ref a1, .ref a2, .ref a3, .ref a4, .ref a5, .int 0, .int 0, .int 0, .int 0, .int 0, .int 5, .int 200, .int 30]))]) (V2 := [(x0, .inr (cRm, [.int 0, .ref x1])), (x1, .inr (cRh, [.ref a0, .ref a1, .ref a2, .ref a3, .ref a4, .ref a5, .int 0, .int 0, .int 0, .int 0, .int 0, .int 5, .int 200, .int 30]))]) (q0 := 0) (ci := cRm) (r := (RX6, TX6, 2)) ⟨hx, hb, hml, hown, hts⟩ (rX6_manyNow l D cI cB H.size x0 x1 a0 a1 a2 a3 a4 a5 0 8 (by decide) A (fun q h => hA q (Nat.le_trans (by rw [← hsz]; exact hS.1) h)) hD) (cwV 1 hts gX6_digest_X6_manyNow rfl rfl rfl (by decide +kernel) ⟨Nat.le_of_ble_eq_true rfl, Nat.le_of_ble_eq_true rfl⟩) hK hP (hP.sub [0, 1] rfl) hS rfl rfl rfl rfl hl.1 (Nat.le_of_ble_eq_true rfl) dX6_digest_24 ⟨Nat.le_of_ble_eq_true rfl, Nat.le_of_ble_eq_true rfl⟩ rfl (fun r_ H locs hp hP hS => ?_)
                    subst hp
                    have hP : va_P D vwCl [(x0, .inr (cRm, [.int 0, .ref x1])), (x1, .inr (cRh, [.ref a0, .ref a1, .ref a2, .ref a3, .ref a4, .ref a5, .int 0, .int 0, .int 0, .int 0, .int 0, .int 5, .int 200, .int 30]))] H := hP
                    refine lv_i2l hx hb dX6_digest_27 rfl ?_
                    refine lv_ladd hx hb dX6_digest_28 ?_
                    refine lv_lstore_n (lv' := [(1, .long (((rf_dg 8) * 31) + ((rf_all 8).toInt64))), (3, .int 8), (0, .ref x0)]) hx hb dX6_digest_29 rfl hl (by decide) rfl (fun ls hl => ?_)
                    have hl : lv_has ls 5 [(1, .long (rf_dg 9)), (3, .int 8), (0, .ref x0)] := hl
                    refine lv_iinc (v := 9) (lv' := [(3, .int 9), (1, .long (rf_dg 9)), (0, .ref x0)]) hx hb dX6_digest_30 hl (k := 1) rfl (by decide) (by decide) rfl (fun ls hl => ?_)
                    refine lv_goto (tgt := 11) hx hb dX6_digest_33 (by decide) ?_
                    refine lv_iload_n hx hb dX6_digest_11 rfl (lv_at hl 0 rfl) ?_
                    refine lv_bipush (v := 14) hx hb dX6_digest_12 (by decide) ?_
                    refine lv_icmp_gt (tgt := 36) hx hb dX6_digest_14 (by decide) (fun c_14 => ?_) (fun c_14 => ?_)
                    · exact absurd c_14 (by decide +kernel)
                    · refine lv_lload_n hx hb dX6_digest_17 rfl (lv_at hl 1 rfl) ?_
                      refine lv_ldc2 (v := 31) hx hb hown (hts (.constantLong RX6 181 31) (by decide +kernel)) dX6_digest_18 ?_
                      refine lv_lmul hx hb dX6_digest_21 ?_
                      refine lv_aload_n hx hb dX6_digest_22 rfl (lv_at hl 2 rfl) ?_
                      refine lv_iload_n hx hb dX6_digest_23 rfl (lv_at hl 0 rfl) ?_
                      refine rf_callW (As := [.int 9]) (V := [(x0, .inr (cRm, [.int 0, .ref x1])), (x1, .inr (cRh, [.ref a0, .ref a1, .ref a2, .ref a3, .ref a4, .ref a5, .int 0, .int 0, .int 0, .int 0, .int 0, .int 5, .int 200, .int 30]))]) (V2 := [(x0, .inr (cRm, [.int 0, .ref x1])), (x1, .inr (cRh, [.ref a0, .ref a1, .ref a2, .ref a3, .ref a4, .ref a5, .int 0, .int 0, .int 0, .int 0, .int 0, .int 5, .int 200, .int 30]))]) (q0 := 0) (ci := cRm) (r := (RX6, TX6, 2)) ⟨hx, hb, hml, hown, hts⟩ (rX6_manyNow l D cI cB H.size x0 x1 a0 a1 a2 a3 a4 a5 0 9 (by decide) A (fun q h => hA q (Nat.le_trans (by rw [← hsz]; exact hS.1) h)) hD) (cwV 1 hts gX6_digest_X6_manyNow rfl rfl rfl (by decide +kernel) ⟨Nat.le_of_ble_eq_true rfl, Nat.le_of_ble_eq_true rfl⟩) hK hP (hP.sub [0, 1] rfl) hS rfl rfl rfl rfl hl.1 (Nat.le_of_ble_eq_true rfl) dX6_digest_24 ⟨Nat.le_of_ble_eq_true rfl, Nat.le_of_ble_eq_true rfl⟩ rfl (fun r_ H locs hp hP hS => ?_)
                      subst hp
                      have hP : va_P D vwCl [(x0, .inr (cRm, [.int 0, .ref x1])), (x1, .inr (cRh, [.ref a0, .ref a1, .ref a2, .ref a3, .ref a4, .ref a5, .int 0, .int 0, .int 0, .int 0, .int 0, .int 5, .int 200, .int 30]))] H := hP
                      refine lv_i2l hx hb dX6_digest_27 rfl ?_
                      refine lv_ladd hx hb dX6_digest_28 ?_
                      refine lv_lstore_n (lv' := [(1, .long (((rf_dg 9) * 31) + ((rf_all 9).toInt64))), (3, .int 9), (0, .ref x0)]) hx hb dX6_digest_29 rfl hl (by decide) rfl (fun ls hl => ?_)
                      have hl : lv_has ls 5 [(1, .long (rf_dg 10)), (3, .int 9), (0, .ref x0)] := hl
                      refine lv_iinc (v := 10) (lv' := [(3, .int 10), (1, .long (rf_dg 10)), (0, .ref x0)]) hx hb dX6_digest_30 hl (k := 1) rfl (by decide) (by decide) rfl (fun ls hl => ?_)
                      refine lv_goto (tgt := 11) hx hb dX6_digest_33 (by decide) ?_
                      refine lv_iload_n hx hb dX6_digest_11 rfl (lv_at hl 0 rfl) ?_
                      refine lv_bipush (v := 14) hx hb dX6_digest_12 (by decide) ?_
                      refine lv_icmp_gt (tgt := 36) hx hb dX6_digest_14 (by decide) (fun c_14 => ?_) (fun c_14 => ?_)
                      · exact absurd c_14 (by decide +kernel)
                      · refine lv_lload_n hx hb dX6_digest_17 rfl (lv_at hl 1 rfl) ?_
                        refine lv_ldc2 (v := 31) hx hb hown (hts (.constantLong RX6 181 31) (by decide +kernel)) dX6_digest_18 ?_
                        refine lv_lmul hx hb dX6_digest_21 ?_
                        refine lv_aload_n hx hb dX6_digest_22 rfl (lv_at hl 2 rfl) ?_
                        refine lv_iload_n hx hb dX6_digest_23 rfl (lv_at hl 0 rfl) ?_
                        refine rf_callW (As := [.int 10]) (V := [(x0, .inr (cRm, [.int 0, .ref x1])), (x1, .inr (cRh, [.ref a0, .ref a1, .ref a2, .ref a3, .ref a4, .ref a5, .int 0, .int 0, .int 0, .int 0, .int 0, .int 5, .int 200, .int 30]))]) (V2 := [(x0, .inr (cRm, [.int 0, .ref x1])), (x1, .inr (cRh, [.ref a0, .ref a1, .ref a2, .ref a3, .ref a4, .ref a5, .int 0, .int 0, .int 0, .int 0, .int 0, .int 5, .int 200, .int 30]))]) (q0 := 0) (ci := cRm) (r := (RX6, TX6, 2)) ⟨hx, hb, hml, hown, hts⟩ (rX6_manyNow l D cI cB H.size x0 x1 a0 a1 a2 a3 a4 a5 0 10 (by decide) A (fun q h => hA q (Nat.le_trans (by rw [← hsz]; exact hS.1) h)) hD) (cwV 1 hts gX6_digest_X6_manyNow rfl rfl rfl (by decide +kernel) ⟨Nat.le_of_ble_eq_true rfl, Nat.le_of_ble_eq_true rfl⟩) hK hP (hP.sub [0, 1] rfl) hS rfl rfl rfl rfl hl.1 (Nat.le_of_ble_eq_true rfl) dX6_digest_24 ⟨Nat.le_of_ble_eq_true rfl, Nat.le_of_ble_eq_true rfl⟩ rfl (fun r_ H locs hp hP hS => ?_)
                        subst hp
                        have hP : va_P D vwCl [(x0, .inr (cRm, [.int 0, .ref x1])), (x1, .inr (cRh, [.ref a0, .ref a1, .ref a2, .ref a3, .ref a4, .ref a5, .int 0, .int 0, .int 0, .int 0, .int 0, .int 5, .int 200, .int 30]))] H := hP
                        refine lv_i2l hx hb dX6_digest_27 rfl ?_
                        refine lv_ladd hx hb dX6_digest_28 ?_
                        refine lv_lstore_n (lv' := [(1, .long (((rf_dg 10) * 31) + ((rf_all 10).toInt64))), (3, .int 10), (0, .ref x0)]) hx hb dX6_digest_29 rfl hl (by decide) rfl (fun ls hl => ?_)
                        have hl : lv_has ls 5 [(1, .long (rf_dg 11)), (3, .int 10), (0, .ref x0)] := hl
                        refine lv_iinc (v := 11) (lv' := [(3, .int 11), (1, .long (rf_dg 11)), (0, .ref x0)]) hx hb dX6_digest_30 hl (k := 1) rfl (by decide) (by decide) rfl (fun ls hl => ?_)
                        refine lv_goto (tgt := 11) hx hb dX6_digest_33 (by decide) ?_
                        refine lv_iload_n hx hb dX6_digest_11 rfl (lv_at hl 0 rfl) ?_
                        refine lv_bipush (v := 14) hx hb dX6_digest_12 (by decide) ?_
                        refine lv_icmp_gt (tgt := 36) hx hb dX6_digest_14 (by decide) (fun c_14 => ?_) (fun c_14 => ?_)
                        · exact absurd c_14 (by decide +kernel)
                        · refine lv_lload_n hx hb dX6_digest_17 rfl (lv_at hl 1 rfl) ?_
                          refine lv_ldc2 (v := 31) hx hb hown (hts (.constantLong RX6 181 31) (by decide +kernel)) dX6_digest_18 ?_
                          refine lv_lmul hx hb dX6_digest_21 ?_
                          refine lv_aload_n hx hb dX6_digest_22 rfl (lv_at hl 2 rfl) ?_
                          refine lv_iload_n hx hb dX6_digest_23 rfl (lv_at hl 0 rfl) ?_
                          refine rf_callW (As := [.int 11]) (V := [(x0, .inr (cRm, [.int 0, .ref x1])), (x1, .inr (cRh, [.ref a0, .ref a1, .ref a2, .ref a3, .ref a4, .ref a5, .int 0, .int 0, .int 0, .int 0, .int 0, .int 5, .int 200, .int 30]))]) (V2 := [(x0, .inr (cRm, [.int 0, .ref x1])), (x1, .inr (cRh, [.ref a0, .ref a1, .ref a2, .ref a3, .ref a4, .ref a5, .int 0, .int 0, .int 0, .int 0, .int 0, .int 5, .int 200, .int 30]))]) (q0 := 0) (ci := cRm) (r := (RX6, TX6, 2)) ⟨hx, hb, hml, hown, hts⟩ (rX6_manyNow l D cI cB H.size x0 x1 a0 a1 a2 a3 a4 a5 0 11 (by decide) A (fun q h => hA q (Nat.le_trans (by rw [← hsz]; exact hS.1) h)) hD) (cwV 1 hts gX6_digest_X6_manyNow rfl rfl rfl (by decide +kernel) ⟨Nat.le_of_ble_eq_true rfl, Nat.le_of_ble_eq_true rfl⟩) hK hP (hP.sub [0, 1] rfl) hS rfl rfl rfl rfl hl.1 (Nat.le_of_ble_eq_true rfl) dX6_digest_24 ⟨Nat.le_of_ble_eq_true rfl, Nat.le_of_ble_eq_true rfl⟩ rfl (fun r_ H locs hp hP hS => ?_)
                          subst hp
                          have hP : va_P D vwCl [(x0, .inr (cRm, [.int 0, .ref x1])), (x1, .inr (cRh, [.ref a0, .ref a1, .ref a2, .ref a3, .ref a4, .ref a5, .int 0, .int 0, .int 0, .int 0, .int 0, .int 5, .int 200, .int 30]))] H := hP
                          refine lv_i2l hx hb dX6_digest_27 rfl ?_
                          refine lv_ladd hx hb dX6_digest_28 ?_
                          refine lv_lstore_n (lv' := [(1, .long (((rf_dg 11) * 31) + ((rf_all 11).toInt64))), (3, .int 11), (0, .ref x0)]) hx hb dX6_digest_29 rfl hl (by decide) rfl (fun ls hl => ?_)
                          have hl : lv_has ls 5 [(1, .long (rf_dg 12)), (3, .int 11), (0, .ref x0)] := hl
                          refine lv_iinc (v := 12) (lv' := [(3, .int 12), (1, .long (rf_dg 12)), (0, .ref x0)]) hx hb dX6_digest_30 hl (k := 1) rfl (by decide) (by decide) rfl (fun ls hl => ?_)
                          refine lv_goto (tgt := 11) hx hb dX6_digest_33 (by decide) ?_
                          refine lv_iload_n hx hb dX6_digest_11 rfl (lv_at hl 0 rfl) ?_
                          refine lv_bipush (v := 14) hx hb dX6_digest_12 (by decide) ?_
                          refine lv_icmp_gt (tgt := 36) hx hb dX6_digest_14 (by decide) (fun c_14 => ?_) (fun c_14 => ?_)
                          · exact absurd c_14 (by decide +kernel)
                          · refine lv_lload_n hx hb dX6_digest_17 rfl (lv_at hl 1 rfl) ?_
                            refine lv_ldc2 (v := 31) hx hb hown (hts (.constantLong RX6 181 31) (by decide +kernel)) dX6_digest_18 ?_
                            refine lv_lmul hx hb dX6_digest_21 ?_
                            refine lv_aload_n hx hb dX6_digest_22 rfl (lv_at hl 2 rfl) ?_
                            refine lv_iload_n hx hb dX6_digest_23 rfl (lv_at hl 0 rfl) ?_
                            refine rf_callW (As := [.int 12]) (V := [(x0, .inr (cRm, [.int 0, .ref x1])), (x1, .inr (cRh, [.ref a0, .ref a1, .ref a2, .ref a3, .ref a4, .ref a5, .int 0, .int 0, .int 0, .int 0, .int 0, .int 5, .int 200, .int 30]))]) (V2 := [(x0, .inr (cRm, [.int 0, .ref x1])), (x1, .inr (cRh, [.ref a0, .ref a1, .ref a2, .ref a3, .ref a4, .ref a5, .int 0, .int 0, .int 0, .int 0, .int 0, .int 5, .int 200, .int 30]))]) (q0 := 0) (ci := cRm) (r := (RX6, TX6, 2)) ⟨hx, hb, hml, hown, hts⟩ (rX6_manyNow l D cI cB H.size x0 x1 a0 a1 a2 a3 a4 a5 0 12 (by decide) A (fun q h => hA q (Nat.le_trans (by rw [← hsz]; exact hS.1) h)) hD) (cwV 1 hts gX6_digest_X6_manyNow rfl rfl rfl (by decide +kernel) ⟨Nat.le_of_ble_eq_true rfl, Nat.le_of_ble_eq_true rfl⟩) hK hP (hP.sub [0, 1] rfl) hS rfl rfl rfl rfl hl.1 (Nat.le_of_ble_eq_true rfl) dX6_digest_24 ⟨Nat.le_of_ble_eq_true rfl, Nat.le_of_ble_eq_true rfl⟩ rfl (fun r_ H locs hp hP hS => ?_)
                            subst hp
                            have hP : va_P D vwCl [(x0, .inr (cRm, [.int 0, .ref x1])), (x1, .inr (cRh, [.ref a0, .ref a1, .ref a2, .ref a3, .ref a4, .ref a5, .int 0, .int 0, .int 0, .int 0, .int 0, .int 5, .int 200, .int 30]))] H := hP
                            refine lv_i2l hx hb dX6_digest_27 rfl ?_
                            refine lv_ladd hx hb dX6_digest_28 ?_
                            refine lv_lstore_n (lv' := [(1, .long (((rf_dg 12) * 31) + ((rf_all 12).toInt64))), (3, .int 12), (0, .ref x0)]) hx hb dX6_digest_29 rfl hl (by decide) rfl (fun ls hl => ?_)
                            have hl : lv_has ls 5 [(1, .long (rf_dg 13)), (3, .int 12), (0, .ref x0)] := hl
                            refine lv_iinc (v := 13) (lv' := [(3, .int 13), (1, .long (rf_dg 13)), (0, .ref x0)]) hx hb dX6_digest_30 hl (k := 1) rfl (by decide) (by decide) rfl (fun ls hl => ?_)
                            refine lv_goto (tgt := 11) hx hb dX6_digest_33 (by decide) ?_
                            refine lv_iload_n hx hb dX6_digest_11 rfl (lv_at hl 0 rfl) ?_
                            refine lv_bipush (v := 14) hx hb dX6_digest_12 (by decide) ?_
                            refine lv_icmp_gt (tgt := 36) hx hb dX6_digest_14 (by decide) (fun c_14 => ?_) (fun c_14 => ?_)
                            · exact absurd c_14 (by decide +kernel)
                            · refine lv_lload_n hx hb dX6_digest_17 rfl (lv_at hl 1 rfl) ?_
                              refine lv_ldc2 (v := 31) hx hb hown (hts (.constantLong RX6 181 31) (by decide +kernel)) dX6_digest_18 ?_
                              refine lv_lmul hx hb dX6_digest_21 ?_
                              refine lv_aload_n hx hb dX6_digest_22 rfl (lv_at hl 2 rfl) ?_
                              refine lv_iload_n hx hb dX6_digest_23 rfl (lv_at hl 0 rfl) ?_
                              refine rf_callW (As := [.int 13]) (V := [(x0, .inr (cRm, [.int 0, .ref x1])), (x1, .inr (cRh, [.ref a0, .ref a1, .ref a2, .ref a3, .ref a4, .ref a5, .int 0, .int 0, .int 0, .int 0, .int 0, .int 5, .int 200, .int 30]))]) (V2 := [(x0, .inr (cRm, [.int 0, .ref x1])), (x1, .inr (cRh, [.ref a0, .ref a1, .ref a2, .ref a3, .ref a4, .ref a5, .int 0, .int 0, .int 0, .int 0, .int 0, .int 5, .int 200, .int 30]))]) (q0 := 0) (ci := cRm) (r := (RX6, TX6, 2)) ⟨hx, hb, hml, hown, hts⟩ (rX6_manyNow l D cI cB H.size x0 x1 a0 a1 a2 a3 a4 a5 0 13 (by decide) A (fun q h => hA q (Nat.le_trans (by rw [← hsz]; exact hS.1) h)) hD) (cwV 1 hts gX6_digest_X6_manyNow rfl rfl rfl (by decide +kernel) ⟨Nat.le_of_ble_eq_true rfl, Nat.le_of_ble_eq_true rfl⟩) hK hP (hP.sub [0, 1] rfl) hS rfl rfl rfl rfl hl.1 (Nat.le_of_ble_eq_true rfl) dX6_digest_24 ⟨Nat.le_of_ble_eq_true rfl, Nat.le_of_ble_eq_true rfl⟩ rfl (fun r_ H locs hp hP hS => ?_)
                              subst hp
                              have hP : va_P D vwCl [(x0, .inr (cRm, [.int 0, .ref x1])), (x1, .inr (cRh, [.ref a0, .ref a1, .ref a2, .ref a3, .ref a4, .ref a5, .int 0, .int 0, .int 0, .int 0, .int 0, .int 5, .int 200, .int 30]))] H := hP
                              refine lv_i2l hx hb dX6_digest_27 rfl ?_
                              refine lv_ladd hx hb dX6_digest_28 ?_
                              refine lv_lstore_n (lv' := [(1, .long (((rf_dg 13) * 31) + ((rf_all 13).toInt64))), (3, .int 13), (0, .ref x0)]) hx hb dX6_digest_29 rfl hl (by decide) rfl (fun ls hl => ?_)
                              have hl : lv_has ls 5 [(1, .long (rf_dg 14)), (3, .int 13), (0, .ref x0)] := hl
                              refine lv_iinc (v := 14) (lv' := [(3, .int 14), (1, .long (rf_dg 14)), (0, .ref x0)]) hx hb dX6_digest_30 hl (k := 1) rfl (by decide) (by decide) rfl (fun ls hl => ?_)
                              refine lv_goto (tgt := 11) hx hb dX6_digest_33 (by decide) ?_
                              refine lv_iload_n hx hb dX6_digest_11 rfl (lv_at hl 0 rfl) ?_
                              refine lv_bipush (v := 14) hx hb dX6_digest_12 (by decide) ?_
                              refine lv_icmp_gt (tgt := 36) hx hb dX6_digest_14 (by decide) (fun c_14 => ?_) (fun c_14 => ?_)
                              · exact absurd c_14 (by decide +kernel)
                              · refine lv_lload_n hx hb dX6_digest_17 rfl (lv_at hl 1 rfl) ?_
                                refine lv_ldc2 (v := 31) hx hb hown (hts (.constantLong RX6 181 31) (by decide +kernel)) dX6_digest_18 ?_
                                refine lv_lmul hx hb dX6_digest_21 ?_
                                refine lv_aload_n hx hb dX6_digest_22 rfl (lv_at hl 2 rfl) ?_
                                refine lv_iload_n hx hb dX6_digest_23 rfl (lv_at hl 0 rfl) ?_
                                refine rf_callW (As := [.int 14]) (V := [(x0, .inr (cRm, [.int 0, .ref x1])), (x1, .inr (cRh, [.ref a0, .ref a1, .ref a2, .ref a3, .ref a4, .ref a5, .int 0, .int 0, .int 0, .int 0, .int 0, .int 5, .int 200, .int 30]))]) (V2 := [(x0, .inr (cRm, [.int 0, .ref x1])), (x1, .inr (cRh, [.ref a0, .ref a1, .ref a2, .ref a3, .ref a4, .ref a5, .int 0, .int 0, .int 0, .int 0, .int 0, .int 5, .int 200, .int 30]))]) (q0 := 0) (ci := cRm) (r := (RX6, TX6, 2)) ⟨hx, hb, hml, hown, hts⟩ (rX6_manyNow l D cI cB H.size x0 x1 a0 a1 a2 a3 a4 a5 0 14 (by decide) A (fun q h => hA q (Nat.le_trans (by rw [← hsz]; exact hS.1) h)) hD) (cwV 1 hts gX6_digest_X6_manyNow rfl rfl rfl (by decide +kernel) ⟨Nat.le_of_ble_eq_true rfl, Nat.le_of_ble_eq_true rfl⟩) hK hP (hP.sub [0, 1] rfl) hS rfl rfl rfl rfl hl.1 (Nat.le_of_ble_eq_true rfl) dX6_digest_24 ⟨Nat.le_of_ble_eq_true rfl, Nat.le_of_ble_eq_true rfl⟩ rfl (fun r_ H locs hp hP hS => ?_)
                                subst hp
                                have hP : va_P D vwCl [(x0, .inr (cRm, [.int 0, .ref x1])), (x1, .inr (cRh, [.ref a0, .ref a1, .ref a2, .ref a3, .ref a4, .ref a5, .int 0, .int 0, .int 0, .int 0, .int 0, .int 5, .int 200, .int 30]))] H := hP
                                refine lv_i2l hx hb dX6_digest_27 rfl ?_
                                refine lv_ladd hx hb dX6_digest_28 ?_
                                refine lv_lstore_n (lv' := [(1, .long (((rf_dg 14) * 31) + ((rf_all 14).toInt64))), (3, .int 14), (0, .ref x0)]) hx hb dX6_digest_29 rfl hl (by decide) rfl (fun ls hl => ?_)
                                have hl : lv_has ls 5 [(1, .long (rf_dg 15)), (3, .int 14), (0, .ref x0)] := hl
                                refine lv_iinc (v := 15) (lv' := [(3, .int 15), (1, .long (rf_dg 15)), (0, .ref x0)]) hx hb dX6_digest_30 hl (k := 1) rfl (by decide) (by decide) rfl (fun ls hl => ?_)
                                refine lv_goto (tgt := 11) hx hb dX6_digest_33 (by decide) ?_
                                refine lv_iload_n hx hb dX6_digest_11 rfl (lv_at hl 0 rfl) ?_
                                refine lv_bipush (v := 14) hx hb dX6_digest_12 (by decide) ?_
                                refine lv_icmp_gt (tgt := 36) hx hb dX6_digest_14 (by decide) (fun c_14 => ?_) (fun c_14 => ?_)
                                · refine lv_iconst (v := 0) hx hb dX6_digest_36 (by decide) ?_
                                  refine lv_istore_n (lv' := [(3, .int 0), (1, .long (rf_dg 15)), (0, .ref x0)]) hx hb dX6_digest_37 rfl hl (by decide) rfl (fun ls hl => ?_)
                                  refine lv_iload_n hx hb dX6_digest_38 rfl (lv_at hl 0 rfl) ?_
                                  refine lv_aload_n hx hb dX6_digest_39 rfl (lv_at hl 2 rfl) ?_
                                  refine va_get (D := D) (ci := cRm) (C := RX6) (T := TX6) (N := 2) (v := .ref x1) hx hb hts (by decide +kernel) hown hK hP 0 rfl rfl 1 (by decide) (hts (.fieldLink RX6 10 "WaxrowModel" "house" "LWaxrowModel$House;") (by decide +kernel)) (fun _ h9 => h9) rfl dX6_digest_40 ?_
                                  refine va_get (D := D) (ci := cRh) (C := RX5) (T := TX5) (N := 14) (v := .int 0) hx hb hts (by decide +kernel) hown hK hP 1 rfl rfl 6 (by decide) (hts (.fieldLink RX6 29 "WaxrowModel$House" "personCount" "I") (by decide +kernel)) (fun _ h9 => h9) rfl dX6_digest_43 ?_
                                  refine lv_icmp_ge (tgt := 156) hx hb dX6_digest_46 (by decide) (fun c_46 => ?_) (fun c_46 => ?_)
                                  · refine lv_iconst (v := 0) hx hb dX6_digest_156 (by decide) ?_
                                    refine lv_istore_n (lv' := [(3, .int 0), (1, .long (rf_dg 15)), (0, .ref x0)]) hx hb dX6_digest_157 rfl hl (by decide) rfl (fun ls hl => ?_)
                                    refine lv_iload_n hx hb dX6_digest_158 rfl (lv_at hl 0 rfl) ?_
                                    refine lv_aload_n hx hb dX6_digest_159 rfl (lv_at hl 2 rfl) ?_
                                    refine va_get (D := D) (ci := cRm) (C := RX6) (T := TX6) (N := 2) (v := .ref x1) hx hb hts (by decide +kernel) hown hK hP 0 rfl rfl 1 (by decide) (hts (.fieldLink RX6 10 "WaxrowModel" "house" "LWaxrowModel$House;") (by decide +kernel)) (fun _ h9 => h9) rfl dX6_digest_160 ?_
                                    refine va_get (D := D) (ci := cRh) (C := RX5) (T := TX5) (N := 14) (v := .int 0) hx hb hts (by decide +kernel) hown hK hP 1 rfl rfl 7 (by decide) (hts (.fieldLink RX6 36 "WaxrowModel$House" "figureCount" "I") (by decide +kernel)) (fun _ h9 => h9) rfl dX6_digest_163 ?_
                                    refine lv_icmp_ge (tgt := 251) hx hb dX6_digest_166 (by decide) (fun c_166 => ?_) (fun c_166 => ?_)
                                    · refine lv_iconst (v := 0) hx hb dX6_digest_251 (by decide) ?_
                                      refine lv_istore_n (lv' := [(3, .int 0), (1, .long (rf_dg 15)), (0, .ref x0)]) hx hb dX6_digest_252 rfl hl (by decide) rfl (fun ls hl => ?_)
                                      refine lv_iload_n hx hb dX6_digest_253 rfl (lv_at hl 0 rfl) ?_
                                      refine lv_aload_n hx hb dX6_digest_254 rfl (lv_at hl 2 rfl) ?_
                                      refine va_get (D := D) (ci := cRm) (C := RX6) (T := TX6) (N := 2) (v := .ref x1) hx hb hts (by decide +kernel) hown hK hP 0 rfl rfl 1 (by decide) (hts (.fieldLink RX6 10 "WaxrowModel" "house" "LWaxrowModel$House;") (by decide +kernel)) (fun _ h9 => h9) rfl dX6_digest_255 ?_
                                      refine va_get (D := D) (ci := cRh) (C := RX5) (T := TX5) (N := 14) (v := .int 0) hx hb hts (by decide +kernel) hown hK hP 1 rfl rfl 8 (by decide) (hts (.fieldLink RX6 39 "WaxrowModel$House" "roomCount" "I") (by decide +kernel)) (fun _ h9 => h9) rfl dX6_digest_258 ?_
                                      refine lv_icmp_ge (tgt := 300) hx hb dX6_digest_261 (by decide) (fun c_261 => ?_) (fun c_261 => ?_)
                                      · refine lv_lload_n hx hb dX6_digest_300 rfl (lv_at hl 1 rfl) ?_
                                        refine lv_ldc2 (v := 31) hx hb hown (hts (.constantLong RX6 181 31) (by decide +kernel)) dX6_digest_301 ?_
                                        refine lv_lmul hx hb dX6_digest_304 ?_
                                        refine lv_aload_n hx hb dX6_digest_305 rfl (lv_at hl 2 rfl) ?_
                                        refine rf_callR (As := []) (V := [(x0, .inr (cRm, [.int 0, .ref x1])), (x1, .inr (cRh, [.ref a0, .ref a1, .ref a2, .ref a3, .ref a4, .ref a5, .int 0, .int 0, .int 0, .int 0, .int 0, .int 5, .int 200, .int 30]))]) (q0 := 0) (ci := cRm) (r := (RX6, TX6, 2)) ⟨hx, hb, hml, hown, hts⟩ (rX6_nextNow l D cI cB H.size x0 x1 a0 a1 a2 a3 a4 a5 0) (cwV 0 hts gX6_digest_X6_nextNow rfl rfl rfl (by decide +kernel) ⟨Nat.le_of_ble_eq_true rfl, Nat.le_of_ble_eq_true rfl⟩) hK hP (hP.sub [0, 1] rfl) hS rfl rfl rfl rfl hl.1 (Nat.le_of_ble_eq_true rfl) dX6_digest_306 ⟨Nat.le_of_ble_eq_true rfl, Nat.le_of_ble_eq_true rfl⟩ rfl (fun r_ H locs hp hP hS => ?_)
                                        subst hp
                                        have hP : va_P D vwCl [(x0, .inr (cRm, [.int 0, .ref x1])), (x1, .inr (cRh, [.ref a0, .ref a1, .ref a2, .ref a3, .ref a4, .ref a5, .int 0, .int 0, .int 0, .int 0, .int 0, .int 5, .int 200, .int 30]))] H := hP
                                        refine lv_i2l hx hb dX6_digest_309 rfl ?_
                                        refine lv_ladd hx hb dX6_digest_310 ?_
                                        refine W.widen (k := 15) (n := 225) (by decide) (by decide) ?_
                                        exact W.lret (v := ((rf_dg 15) * 31) + (((-1) : Int32).toInt64)) hx hb hr (fun U9 ht hW9 => ⟨⟨((rf_dg 15) * 31) + (((-1) : Int32).toInt64), (), rfl, rfl, by show va_P D vwCl _ U9.heap; rw [ht]; exact hP.sub [0] rfl⟩, hS.F ht⟩) hS.2.2 dX6_digest_311
                                      · exact absurd (by decide +kernel) c_261
                                    · exact absurd (by decide +kernel) c_166
                                  · exact absurd (by decide +kernel) c_46
                                · exact absurd (by decide +kernel) c_14
set_option maxHeartbeats 4000000 in
set_option maxRecDepth 100000 in
/-- the reference: drawsIn on any day -/
theorem rX5_drawsIn_g (l : Launch) (D : va_G) (cI cB : ClassId) (sz : Nat) (x0 x1 a0 a1 a2 a3 a4 a5 : Nat) (dy cm mo k u : Int32) : rf_Mi l yX5_drawsIn wsX5_drawsIn ({ frames := 0, cells := 0, slots := 0, locals := 0 }) D [(cI, .int), (cB, .array .int)] sz [(x1, .inr (cRh, [.ref a0, .ref a1, .ref a2, .ref a3, .ref a4, .ref a5, .int 0, .int 0, .int 0, .int dy, .int cm, .int 5, .int mo, .int 30]))] [(x1, .inr (cRh, [.ref a0, .ref a1, .ref a2, .ref a3, .ref a4, .ref a5, .int 0, .int 0, .int 0, .int dy, .int cm, .int 5, .int mo, .int 30]))] (fun _ => False) [.ref x1, .int k, .int u] (fun r => r = 0) 0 0 := by
  refine Met.ofW (cc := cX5_drawsIn) (maxL := 5) (ret := (some .int)) (by decide) rfl ?_
  intro p e s m args below meth c s₁ B hml hv
  obtain ⟨rfl, hsz, hP, hK⟩ := hv
  have hx := B.exec
  have hb := B.bytes
  have hr := B.returns
  have hts := atoms_spec (ws := wsX5_drawsIn) B.pre
  have hown : s.vm.findClass RX5 = some m.cls := findClass_of_methodNamed B.named
  have hlocks := B.notSynchronized
  have hS : va_S (fun _ => False) s.heap s.heap [] := va_S.rf
  have hP : va_P D vwCl [(x1, .inr (cRh, [.ref a0, .ref a1, .ref a2, .ref a3, .ref a4, .ref a5, .int 0, .int 0, .int 0, .int dy, .int cm, .int 5, .int mo, .int 30]))] s.heap := hP
  have hl := lv_entry ([.ref x1, .int k, .int u]) (n := 5) (Nat.le_of_ble_eq_true rfl)
  rw [lg_entry_eq]
  generalize (lg_sl ([.ref x1, .int k, .int u]) ++ List.replicate (5 - (lg_sl ([.ref x1, .int k, .int u])).length) Slot.unset).toArray = ls at hl ⊢
  have hl : lv_has ls 5 [(0, .ref x1), (1, .int k), (2, .int u)] := hl
  refine lv_iconst (v := 0) hx hb dX5_drawsIn_0 (by decide) ?_
  refine lv_istore_n (lv' := [(3, .int 0), (0, .ref x1), (1, .int k), (2, .int u)]) hx hb dX5_drawsIn_1 rfl hl (by decide) rfl (fun ls hl => ?_)
  refine lv_iconst (v := 0) hx hb dX5_drawsIn_2 (by decide) ?_
  refine lv_istore (lv' := [(4, .int 0), (3, .int 0), (0, .ref x1), (1, .int k), (2, .int u)]) hx hb dX5_drawsIn_3 hl (by decide) rfl (fun ls hl => ?_)
  refine lv_iload hx hb dX5_drawsIn_5 (lv_at hl 0 rfl) ?_
  refine lv_aload_n hx hb dX5_drawsIn_7 rfl (lv_at hl 2 rfl) ?_
  refine va_get (D := D) (ci := cRh) (C := RX5) (T := TX5) (N := 14) (v := .int 0) hx hb hts (by decide +kernel) hown hK hP 0 rfl rfl 7 (by decide) (hts (.fieldLink RX5 56 "WaxrowModel$House" "figureCount" "I") (by decide +kernel)) (fun _ h9 => h9) rfl dX5_drawsIn_8 ?_
  refine lv_icmp_ge (tgt := 56) hx hb dX5_drawsIn_11 (by decide) (fun c_11 => ?_) (fun c_11 => ?_)
  · refine lv_iload_n hx hb dX5_drawsIn_56 rfl (lv_at hl 1 rfl) ?_
    exact W.iret (v := 0) hx hb hr (fun U9 ht hW9 => ⟨⟨0, (), rfl, rfl, by show va_P D vwCl _ U9.heap; rw [ht]; exact hP.sub [0] rfl⟩, hS.F ht⟩) hS.2.2 dX5_drawsIn_57
  · exact absurd (by decide +kernel) c_11
abbrev rf_Mg (l : Launch) (y : MethodName) (ws : List Cond) (rm : Room) (D : va_G) (ty : List (ClassId × FieldType)) (sz : Nat) (V : va_W) (V2 : Int32 × Int32 × Int32 → va_W) (A : Nat → Prop) (av : List Value) (mc ms : Nat) : Prop := Met l y ws rm (va_Pc av (rf_Pc D ty sz V)) (va_Qi (fun r (_ : Int32 × Int32 × Int32) => r = 0) (fun u t => va_P D vwCl (V2 u) t.heap) A) mc ms A
abbrev rf_hg (x1 a0 a1 a2 a3 a4 a5 : Nat) (u : Int32 × Int32 × Int32) : va_W := [(x1, .inr (cRh, [.ref a0, .ref a1, .ref a2, .ref a3, .ref a4, .ref a5, .int 0, .int 0, .int 0, .int u.1, .int u.2.1, .int 5, .int u.2.2, .int 30]))]
set_option maxHeartbeats 4000000 in
set_option maxRecDepth 100000 in
/-- the reference: go -/
theorem rX5_go (l : Launch) (D : va_G) (cI cB : ClassId) (sz : Nat) (x0 x1 a0 a1 a2 a3 a4 a5 : Nat) (dy cm mo k u : Int32) (A : Nat → Prop) (hA : ∀ q, sz ≤ q → A q) (hD : va_D A [(x1, .inr (cRh, [.ref a0, .ref a1, .ref a2, .ref a3, .ref a4, .ref a5, .int 0, .int 0, .int 0, .int dy, .int cm, .int 5, .int mo, .int 30]))]) : rf_Mg l yX5_go wsX5_go ({ frames := 1, cells := 1, slots := 8, locals := 30 }) D [(cI, .int), (cB, .array .int)] sz [(x1, .inr (cRh, [.ref a0, .ref a1, .ref a2, .ref a3, .ref a4, .ref a5, .int 0, .int 0, .int 0, .int dy, .int cm, .int 5, .int mo, .int 30]))] (rf_hg x1 a0 a1 a2 a3 a4 a5) A [.ref x1, .int k, .int u] 1 8 := by
  refine Met.ofW (cc := cX5_go) (maxL := 8) (ret := (some .int)) (by decide) rfl ?_
  intro p e s m args below meth c s₁ B hml hv
  obtain ⟨rfl, hsz, hP, hK⟩ := hv
  have hx := B.exec
  have hb := B.bytes
  have hr := B.returns
  have hts := atoms_spec (ws := wsX5_go) B.pre
  have hown : s.vm.findClass RX5 = some m.cls := findClass_of_methodNamed B.named
  have hlocks := B.notSynchronized
  have hS : va_S A s.heap s.heap [] := va_S.rf
  have hP : va_P D vwCl [(x1, .inr (cRh, [.ref a0, .ref a1, .ref a2, .ref a3, .ref a4, .ref a5, .int 0, .int 0, .int 0, .int dy, .int cm, .int 5, .int mo, .int 30]))] s.heap := hP
  have hl := lv_entry ([.ref x1, .int k, .int u]) (n := 8) (Nat.le_of_ble_eq_true rfl)
  rw [lg_entry_eq]
  generalize (lg_sl ([.ref x1, .int k, .int u]) ++ List.replicate (8 - (lg_sl ([.ref x1, .int k, .int u])).length) Slot.unset).toArray = ls at hl ⊢
  have hl : lv_has ls 8 [(0, .ref x1), (1, .int k), (2, .int u)] := hl
  refine lv_aload_n hx hb dX5_go_0 rfl (lv_at hl 0 rfl) ?_
  refine lv_dup hx hb dX5_go_1 rfl ?_
  refine va_get (D := D) (ci := cRh) (C := RX5) (T := TX5) (N := 14) (v := .int dy) hx hb hts (by decide +kernel) hown hK hP 0 rfl rfl 9 (by decide) (hts (.fieldLink RX5 62 "WaxrowModel$House" "day" "I") (by decide +kernel)) (fun _ h9 => h9) rfl dX5_go_2 ?_
  refine lv_iconst (v := 1) hx hb dX5_go_5 (by decide) ?_
  refine lv_iadd hx hb dX5_go_6 ?_
  refine va_put (ci := cRh) (C := RX5) (T := TX5) (N := 14) (ty := .int) hx hb hts (by decide +kernel) tyX5 tyX5_ok nmX5 hown hK hP hD hS 0 rfl rfl 9 (by decide) (hts (.fieldLink RX5 62 "WaxrowModel$House" "day" "I") (by decide +kernel)) (fun _ h9 => h9) rfl (by decide +kernel) rfl rfl (Nat.le_of_ble_eq_true rfl) dX5_go_7 (fun H locs hP hD hS => ?_)
  have hP : va_P D vwCl [(x1, .inr (cRh, [.ref a0, .ref a1, .ref a2, .ref a3, .ref a4, .ref a5, .int 0, .int 0, .int 0, .int (dy + 1), .int cm, .int 5, .int mo, .int 30]))] H := hP
  have hD : va_D A [(x1, .inr (cRh, [.ref a0, .ref a1, .ref a2, .ref a3, .ref a4, .ref a5, .int 0, .int 0, .int 0, .int (dy + 1), .int cm, .int 5, .int mo, .int 30]))] := hD
  refine lv_iconst (v := 0) hx hb dX5_go_10 (by decide) ?_
  refine lv_istore_n (lv' := [(3, .int 0), (0, .ref x1), (1, .int k), (2, .int u)]) hx hb dX5_go_11 rfl hl (by decide) rfl (fun ls hl => ?_)
  refine lv_aload_n hx hb dX5_go_12 rfl (lv_at hl 1 rfl) ?_
  refine va_get (D := D) (ci := cRh) (C := RX5) (T := TX5) (N := 14) (v := .int (dy + 1)) hx hb hts (by decide +kernel) hown hK hP 0 rfl rfl 9 (by decide) (hts (.fieldLink RX5 62 "WaxrowModel$House" "day" "I") (by decide +kernel)) (fun _ h9 => h9) rfl dX5_go_13 ?_
  refine lv_bipush (v := 30) hx hb dX5_go_16 (by decide) ?_
  refine lv_irem hx hb dX5_go_18 (by decide) ?_
  refine lv_if_ne (tgt := 67) hx hb dX5_go_19 (by decide) (fun c_19 => ?_) (fun c_19 => ?_)
  · refine lv_iconst (v := 0) hx hb dX5_go_67 (by decide) ?_
    refine lv_istore (lv' := [(4, .int 0), (3, .int 0), (0, .ref x1), (1, .int k), (2, .int u)]) hx hb dX5_go_68 hl (by decide) rfl (fun ls hl => ?_)
    refine lv_iload hx hb dX5_go_70 (lv_at hl 0 rfl) ?_
    refine lv_aload_n hx hb dX5_go_72 rfl (lv_at hl 2 rfl) ?_
    refine va_get (D := D) (ci := cRh) (C := RX5) (T := TX5) (N := 14) (v := .int 0) hx hb hts (by decide +kernel) hown hK hP 0 rfl rfl 7 (by decide) (hts (.fieldLink RX5 56 "WaxrowModel$House" "figureCount" "I") (by decide +kernel)) (fun _ h9 => h9) rfl dX5_go_73 ?_
    refine lv_icmp_ge (tgt := 132) hx hb dX5_go_76 (by decide) (fun c_76 => ?_) (fun c_76 => ?_)
    · refine lv_iload_n hx hb dX5_go_132 rfl (lv_at hl 3 rfl) ?_
      refine lv_bipush (v := 100) hx hb dX5_go_133 (by decide) ?_
      refine lv_iconst (v := 5) hx hb dX5_go_135 (by decide) ?_
      refine lv_aload_n hx hb dX5_go_136 rfl (lv_at hl 2 rfl) ?_
      refine va_get (D := D) (ci := cRh) (C := RX5) (T := TX5) (N := 14) (v := .int 5) hx hb hts (by decide +kernel) hown hK hP 0 rfl rfl 11 (by decide) (hts (.fieldLink RX5 32 "WaxrowModel$House" "price" "I") (by decide +kernel)) (fun _ h9 => h9) rfl dX5_go_137 ?_
      refine lv_imul hx hb dX5_go_140 ?_
      refine lv_isub hx hb dX5_go_141 ?_
      refine lv_imul hx hb dX5_go_142 ?_
      refine lv_bipush (v := 100) hx hb dX5_go_143 (by decide) ?_
      refine lv_idiv hx hb dX5_go_145 (by decide) ?_
      refine lv_istore (lv' := [(4, .int ((k * (100 - (5 * 5))) / 100)), (3, .int 0), (0, .ref x1), (1, .int k), (2, .int u)]) hx hb dX5_go_146 hl (by decide) rfl (fun ls hl => ?_)
      refine lv_aload_n hx hb dX5_go_148 rfl (lv_at hl 2 rfl) ?_
      refine lv_dup hx hb dX5_go_149 rfl ?_
      refine va_get (D := D) (ci := cRh) (C := RX5) (T := TX5) (N := 14) (v := .int cm) hx hb hts (by decide +kernel) hown hK hP 0 rfl rfl 10 (by decide) (hts (.fieldLink RX5 65 "WaxrowModel$House" "came" "I") (by decide +kernel)) (fun _ h9 => h9) rfl dX5_go_150 ?_
      refine lv_iload hx hb dX5_go_153 (lv_at hl 0 rfl) ?_
      refine lv_iadd hx hb dX5_go_155 ?_
      refine va_put (ci := cRh) (C := RX5) (T := TX5) (N := 14) (ty := .int) hx hb hts (by decide +kernel) tyX5 tyX5_ok nmX5 hown hK hP hD hS 0 rfl rfl 10 (by decide) (hts (.fieldLink RX5 65 "WaxrowModel$House" "came" "I") (by decide +kernel)) (fun _ h9 => h9) rfl (by decide +kernel) rfl rfl (Nat.le_of_ble_eq_true rfl) dX5_go_156 (fun H locs hP hD hS => ?_)
      have hP : va_P D vwCl [(x1, .inr (cRh, [.ref a0, .ref a1, .ref a2, .ref a3, .ref a4, .ref a5, .int 0, .int 0, .int 0, .int (dy + 1), .int (cm + ((k * (100 - (5 * 5))) / 100)), .int 5, .int mo, .int 30]))] H := hP
      have hD : va_D A [(x1, .inr (cRh, [.ref a0, .ref a1, .ref a2, .ref a3, .ref a4, .ref a5, .int 0, .int 0, .int 0, .int (dy + 1), .int (cm + ((k * (100 - (5 * 5))) / 100)), .int 5, .int mo, .int 30]))] := hD
      refine lv_aload_n hx hb dX5_go_159 rfl (lv_at hl 2 rfl) ?_
      refine lv_dup hx hb dX5_go_160 rfl ?_
      refine va_get (D := D) (ci := cRh) (C := RX5) (T := TX5) (N := 14) (v := .int mo) hx hb hts (by decide +kernel) hown hK hP 0 rfl rfl 12 (by decide) (hts (.fieldLink RX5 36 "WaxrowModel$House" "money" "I") (by decide +kernel)) (fun _ h9 => h9) rfl dX5_go_161 ?_
      refine lv_aload_n hx hb dX5_go_164 rfl (lv_at hl 2 rfl) ?_
      refine va_get (D := D) (ci := cRh) (C := RX5) (T := TX5) (N := 14) (v := .int 5) hx hb hts (by decide +kernel) hown hK hP 0 rfl rfl 11 (by decide) (hts (.fieldLink RX5 32 "WaxrowModel$House" "price" "I") (by decide +kernel)) (fun _ h9 => h9) rfl dX5_go_165 ?_
      refine lv_iload hx hb dX5_go_168 (lv_at hl 0 rfl) ?_
      refine lv_imul hx hb dX5_go_170 ?_
      refine lv_iadd hx hb dX5_go_171 ?_
      refine va_put (ci := cRh) (C := RX5) (T := TX5) (N := 14) (ty := .int) hx hb hts (by decide +kernel) tyX5 tyX5_ok nmX5 hown hK hP hD hS 0 rfl rfl 12 (by decide) (hts (.fieldLink RX5 36 "WaxrowModel$House" "money" "I") (by decide +kernel)) (fun _ h9 => h9) rfl (by decide +kernel) rfl rfl (Nat.le_of_ble_eq_true rfl) dX5_go_172 (fun H locs hP hD hS => ?_)
      have hP : va_P D vwCl [(x1, .inr (cRh, [.ref a0, .ref a1, .ref a2, .ref a3, .ref a4, .ref a5, .int 0, .int 0, .int 0, .int (dy + 1), .int (cm + ((k * (100 - (5 * 5))) / 100)), .int 5, .int (mo + (5 * ((k * (100 - (5 * 5))) / 100))), .int 30]))] H := hP
      have hD : va_D A [(x1, .inr (cRh, [.ref a0, .ref a1, .ref a2, .ref a3, .ref a4, .ref a5, .int 0, .int 0, .int 0, .int (dy + 1), .int (cm + ((k * (100 - (5 * 5))) / 100)), .int 5, .int (mo + (5 * ((k * (100 - (5 * 5))) / 100))), .int 30]))] := hD
      refine lv_aload_n hx hb dX5_go_175 rfl (lv_at hl 2 rfl) ?_
      refine lv_iconst (v := 0) hx hb dX5_go_176 (by decide) ?_
      refine lv_iconst (v := 4) hx hb dX5_go_177 (by decide) ?_
      refine rf_callR (As := [.int 0, .int 4]) (V := [(x1, .inr (cRh, [.ref a0, .ref a1, .ref a2, .ref a3, .ref a4, .ref a5, .int 0, .int 0, .int 0, .int (dy + 1), .int (cm + ((k * (100 - (5 * 5))) / 100)), .int 5, .int (mo + (5 * ((k * (100 - (5 * 5))) / 100))), .int 30]))]) (q0 := 0) (ci := cRh) (r := (RX5, TX5, 14)) ⟨hx, hb, hml, hown, hts⟩ (rX5_drawsIn_g l D cI cB H.size x0 x1 a0 a1 a2 a3 a4 a5 (dy + 1) (cm + ((k * (100 - (5 * 5))) / 100)) (mo + (5 * ((k * (100 - (5 * 5))) / 100))) 0 4) (cwV 2 hts gX5_go_X5_drawsIn rfl rfl rfl (by decide +kernel) ⟨Nat.le_of_ble_eq_true rfl, Nat.le_of_ble_eq_true rfl⟩) hK hP (hP.sub [0] rfl) hS rfl rfl rfl rfl hl.1 (Nat.le_of_ble_eq_true rfl) dX5_go_178 ⟨Nat.le_of_ble_eq_true rfl, Nat.le_of_ble_eq_true rfl⟩ rfl (fun r_ H locs hp hP hS => ?_)
      subst hp
      have hP : va_P D vwCl [(x1, .inr (cRh, [.ref a0, .ref a1, .ref a2, .ref a3, .ref a4, .ref a5, .int 0, .int 0, .int 0, .int (dy + 1), .int (cm + ((k * (100 - (5 * 5))) / 100)), .int 5, .int (mo + (5 * ((k * (100 - (5 * 5))) / 100))), .int 30]))] H := hP
      refine lv_istore (lv' := [(5, .int 0), (4, .int ((k * (100 - (5 * 5))) / 100)), (3, .int 0), (0, .ref x1), (1, .int k), (2, .int u)]) hx hb dX5_go_181 hl (by decide) rfl (fun ls hl => ?_)
      refine lv_bipush (v := 8) hx hb dX5_go_183 (by decide) ?_
      refine va_newa (a0 := (8, .inl (fun _ => 0))) (N' := 8) hx hb (atype := .int) (hts (.arrayClass .int) (by decide +kernel)) rfl hK hP hD hS (fun z hz => hA z (by rw [← hsz]; exact hz)) (fun cA => by rw [vp_cell_i]; rfl) (by decide) rfl (by decide) (by decide) (by decide) dX5_go_185 (fun q1 cA1 H hK1 hP hD hS => ?_)
      have hP : va_P D vwCl [(x1, .inr (cRh, [.ref a0, .ref a1, .ref a2, .ref a3, .ref a4, .ref a5, .int 0, .int 0, .int 0, .int (dy + 1), .int (cm + ((k * (100 - (5 * 5))) / 100)), .int 5, .int (mo + (5 * ((k * (100 - (5 * 5))) / 100))), .int 30])), (q1, .inl (cA1, 8, .inl (fun _ => 0)))] H := hP
      have hD : va_D A [(x1, .inr (cRh, [.ref a0, .ref a1, .ref a2, .ref a3, .ref a4, .ref a5, .int 0, .int 0, .int 0, .int (dy + 1), .int (cm + ((k * (100 - (5 * 5))) / 100)), .int 5, .int (mo + (5 * ((k * (100 - (5 * 5))) / 100))), .int 30])), (q1, .inl (cA1, 8, .inl (fun _ => 0)))] := hD
      refine lv_astore (lv' := [(6, .ref q1), (5, .int 0), (4, .int ((k * (100 - (5 * 5))) / 100)), (3, .int 0), (0, .ref x1), (1, .int k), (2, .int u)]) hx hb dX5_go_187 hl (by decide) rfl (fun ls hl => ?_)
      refine lv_iconst (v := 0) hx hb dX5_go_189 (by decide) ?_
      refine lv_istore (lv' := [(7, .int 0), (6, .ref q1), (5, .int 0), (4, .int ((k * (100 - (5 * 5))) / 100)), (3, .int 0), (0, .ref x1), (1, .int k), (2, .int u)]) hx hb dX5_go_190 hl (by decide) rfl (fun ls hl => ?_)
      refine lv_iload hx hb dX5_go_192 (lv_at hl 0 rfl) ?_
      refine lv_aload_n hx hb dX5_go_194 rfl (lv_at hl 5 rfl) ?_
      refine va_get (D := D) (ci := cRh) (C := RX5) (T := TX5) (N := 14) (v := .int 0) hx hb hts (by decide +kernel) hown hK hP 0 rfl rfl 7 (by decide) (hts (.fieldLink RX5 56 "WaxrowModel$House" "figureCount" "I") (by decide +kernel)) (fun _ h9 => h9) rfl dX5_go_195 ?_
      refine lv_icmp_ge (tgt := 238) hx hb dX5_go_198 (by decide) (fun c_198 => ?_) (fun c_198 => ?_)
      · refine lv_iconst (v := 0) hx hb dX5_go_238 (by decide) ?_
        refine lv_istore (lv' := [(7, .int 0), (6, .ref q1), (5, .int 0), (4, .int ((k * (100 - (5 * 5))) / 100)), (3, .int 0), (0, .ref x1), (1, .int k), (2, .int u)]) hx hb dX5_go_239 hl (by decide) rfl (fun ls hl => ?_)
        refine lv_iload hx hb dX5_go_241 (lv_at hl 0 rfl) ?_
        refine lv_aload_n hx hb dX5_go_243 rfl (lv_at hl 5 rfl) ?_
        refine va_get (D := D) (ci := cRh) (C := RX5) (T := TX5) (N := 14) (v := .int 0) hx hb hts (by decide +kernel) hown hK hP 0 rfl rfl 7 (by decide) (hts (.fieldLink RX5 56 "WaxrowModel$House" "figureCount" "I") (by decide +kernel)) (fun _ h9 => h9) rfl dX5_go_244 ?_
        refine lv_icmp_ge (tgt := 294) hx hb dX5_go_247 (by decide) (fun c_247 => ?_) (fun c_247 => ?_)
        · refine lv_iconst (v := 0) hx hb dX5_go_294 (by decide) ?_
          refine lv_istore (lv' := [(7, .int 0), (6, .ref q1), (5, .int 0), (4, .int ((k * (100 - (5 * 5))) / 100)), (3, .int 0), (0, .ref x1), (1, .int k), (2, .int u)]) hx hb dX5_go_295 hl (by decide) rfl (fun ls hl => ?_)
          refine lv_iload hx hb dX5_go_297 (lv_at hl 0 rfl) ?_
          refine lv_aload_n hx hb dX5_go_299 rfl (lv_at hl 5 rfl) ?_
          refine va_get (D := D) (ci := cRh) (C := RX5) (T := TX5) (N := 14) (v := .int 0) hx hb hts (by decide +kernel) hown hK hP 0 rfl rfl 7 (by decide) (hts (.fieldLink RX5 56 "WaxrowModel$House" "figureCount" "I") (by decide +kernel)) (fun _ h9 => h9) rfl dX5_go_300 ?_
          refine lv_icmp_ge (tgt := 338) hx hb dX5_go_303 (by decide) (fun c_303 => ?_) (fun c_303 => ?_)
          · refine lv_iload_n hx hb dX5_go_338 rfl (lv_at hl 4 rfl) ?_
            refine W.widen (k := 1) (n := 8) (by decide) (by decide) ?_
            exact W.iret (v := 0) hx hb hr (fun U9 ht hW9 => ⟨⟨0, (dy + 1, cm + ((k * (100 - (5 * 5))) / 100), mo + (5 * ((k * (100 - (5 * 5))) / 100))), rfl, rfl, by show va_P D vwCl _ U9.heap; rw [ht]; exact hP.sub [0] rfl⟩, hS.F ht⟩) hS.2.2 dX5_go_339
          · exact absurd (by decide +kernel) c_303
        · exact absurd (by decide +kernel) c_247
      · exact absurd (by decide +kernel) c_198
    · exact absurd (by decide +kernel) c_76
  · refine lv_iconst (v := 0) hx hb dX5_go_22 (by decide) ?_
    refine lv_istore (lv' := [(4, .int 0), (3, .int 0), (0, .ref x1), (1, .int k), (2, .int u)]) hx hb dX5_go_23 hl (by decide) rfl (fun ls hl => ?_)
    refine lv_iload hx hb dX5_go_25 (lv_at hl 0 rfl) ?_
    refine lv_aload_n hx hb dX5_go_27 rfl (lv_at hl 2 rfl) ?_
    refine va_get (D := D) (ci := cRh) (C := RX5) (T := TX5) (N := 14) (v := .int 0) hx hb hts (by decide +kernel) hown hK hP 0 rfl rfl 6 (by decide) (hts (.fieldLink RX5 53 "WaxrowModel$House" "personCount" "I") (by decide +kernel)) (fun _ h9 => h9) rfl dX5_go_28 ?_
    refine lv_icmp_ge (tgt := 67) hx hb dX5_go_31 (by decide) (fun c_31 => ?_) (fun c_31 => ?_)
    · refine lv_iconst (v := 0) hx hb dX5_go_67 (by decide) ?_
      refine lv_istore (lv' := [(4, .int 0), (3, .int 0), (0, .ref x1), (1, .int k), (2, .int u)]) hx hb dX5_go_68 hl (by decide) rfl (fun ls hl => ?_)
      refine lv_iload hx hb dX5_go_70 (lv_at hl 0 rfl) ?_
      refine lv_aload_n hx hb dX5_go_72 rfl (lv_at hl 2 rfl) ?_
      refine va_get (D := D) (ci := cRh) (C := RX5) (T := TX5) (N := 14) (v := .int 0) hx hb hts (by decide +kernel) hown hK hP 0 rfl rfl 7 (by decide) (hts (.fieldLink RX5 56 "WaxrowModel$House" "figureCount" "I") (by decide +kernel)) (fun _ h9 => h9) rfl dX5_go_73 ?_
      refine lv_icmp_ge (tgt := 132) hx hb dX5_go_76 (by decide) (fun c_76 => ?_) (fun c_76 => ?_)
      · refine lv_iload_n hx hb dX5_go_132 rfl (lv_at hl 3 rfl) ?_
        refine lv_bipush (v := 100) hx hb dX5_go_133 (by decide) ?_
        refine lv_iconst (v := 5) hx hb dX5_go_135 (by decide) ?_
        refine lv_aload_n hx hb dX5_go_136 rfl (lv_at hl 2 rfl) ?_
        refine va_get (D := D) (ci := cRh) (C := RX5) (T := TX5) (N := 14) (v := .int 5) hx hb hts (by decide +kernel) hown hK hP 0 rfl rfl 11 (by decide) (hts (.fieldLink RX5 32 "WaxrowModel$House" "price" "I") (by decide +kernel)) (fun _ h9 => h9) rfl dX5_go_137 ?_
        refine lv_imul hx hb dX5_go_140 ?_
        refine lv_isub hx hb dX5_go_141 ?_
        refine lv_imul hx hb dX5_go_142 ?_
        refine lv_bipush (v := 100) hx hb dX5_go_143 (by decide) ?_
        refine lv_idiv hx hb dX5_go_145 (by decide) ?_
        refine lv_istore (lv' := [(4, .int ((k * (100 - (5 * 5))) / 100)), (3, .int 0), (0, .ref x1), (1, .int k), (2, .int u)]) hx hb dX5_go_146 hl (by decide) rfl (fun ls hl => ?_)
        refine lv_aload_n hx hb dX5_go_148 rfl (lv_at hl 2 rfl) ?_
        refine lv_dup hx hb dX5_go_149 rfl ?_
        refine va_get (D := D) (ci := cRh) (C := RX5) (T := TX5) (N := 14) (v := .int cm) hx hb hts (by decide +kernel) hown hK hP 0 rfl rfl 10 (by decide) (hts (.fieldLink RX5 65 "WaxrowModel$House" "came" "I") (by decide +kernel)) (fun _ h9 => h9) rfl dX5_go_150 ?_
        refine lv_iload hx hb dX5_go_153 (lv_at hl 0 rfl) ?_
        refine lv_iadd hx hb dX5_go_155 ?_
        refine va_put (ci := cRh) (C := RX5) (T := TX5) (N := 14) (ty := .int) hx hb hts (by decide +kernel) tyX5 tyX5_ok nmX5 hown hK hP hD hS 0 rfl rfl 10 (by decide) (hts (.fieldLink RX5 65 "WaxrowModel$House" "came" "I") (by decide +kernel)) (fun _ h9 => h9) rfl (by decide +kernel) rfl rfl (Nat.le_of_ble_eq_true rfl) dX5_go_156 (fun H locs hP hD hS => ?_)
        have hP : va_P D vwCl [(x1, .inr (cRh, [.ref a0, .ref a1, .ref a2, .ref a3, .ref a4, .ref a5, .int 0, .int 0, .int 0, .int (dy + 1), .int (cm + ((k * (100 - (5 * 5))) / 100)), .int 5, .int mo, .int 30]))] H := hP
        have hD : va_D A [(x1, .inr (cRh, [.ref a0, .ref a1, .ref a2, .ref a3, .ref a4, .ref a5, .int 0, .int 0, .int 0, .int (dy + 1), .int (cm + ((k * (100 - (5 * 5))) / 100)), .int 5, .int mo, .int 30]))] := hD
        refine lv_aload_n hx hb dX5_go_159 rfl (lv_at hl 2 rfl) ?_
        refine lv_dup hx hb dX5_go_160 rfl ?_
        refine va_get (D := D) (ci := cRh) (C := RX5) (T := TX5) (N := 14) (v := .int mo) hx hb hts (by decide +kernel) hown hK hP 0 rfl rfl 12 (by decide) (hts (.fieldLink RX5 36 "WaxrowModel$House" "money" "I") (by decide +kernel)) (fun _ h9 => h9) rfl dX5_go_161 ?_
        refine lv_aload_n hx hb dX5_go_164 rfl (lv_at hl 2 rfl) ?_
        refine va_get (D := D) (ci := cRh) (C := RX5) (T := TX5) (N := 14) (v := .int 5) hx hb hts (by decide +kernel) hown hK hP 0 rfl rfl 11 (by decide) (hts (.fieldLink RX5 32 "WaxrowModel$House" "price" "I") (by decide +kernel)) (fun _ h9 => h9) rfl dX5_go_165 ?_
        refine lv_iload hx hb dX5_go_168 (lv_at hl 0 rfl) ?_
        refine lv_imul hx hb dX5_go_170 ?_
        refine lv_iadd hx hb dX5_go_171 ?_
        refine va_put (ci := cRh) (C := RX5) (T := TX5) (N := 14) (ty := .int) hx hb hts (by decide +kernel) tyX5 tyX5_ok nmX5 hown hK hP hD hS 0 rfl rfl 12 (by decide) (hts (.fieldLink RX5 36 "WaxrowModel$House" "money" "I") (by decide +kernel)) (fun _ h9 => h9) rfl (by decide +kernel) rfl rfl (Nat.le_of_ble_eq_true rfl) dX5_go_172 (fun H locs hP hD hS => ?_)
        have hP : va_P D vwCl [(x1, .inr (cRh, [.ref a0, .ref a1, .ref a2, .ref a3, .ref a4, .ref a5, .int 0, .int 0, .int 0, .int (dy + 1), .int (cm + ((k * (100 - (5 * 5))) / 100)), .int 5, .int (mo + (5 * ((k * (100 - (5 * 5))) / 100))), .int 30]))] H := hP
        have hD : va_D A [(x1, .inr (cRh, [.ref a0, .ref a1, .ref a2, .ref a3, .ref a4, .ref a5, .int 0, .int 0, .int 0, .int (dy + 1), .int (cm + ((k * (100 - (5 * 5))) / 100)), .int 5, .int (mo + (5 * ((k * (100 - (5 * 5))) / 100))), .int 30]))] := hD
        refine lv_aload_n hx hb dX5_go_175 rfl (lv_at hl 2 rfl) ?_
        refine lv_iconst (v := 0) hx hb dX5_go_176 (by decide) ?_
        refine lv_iconst (v := 4) hx hb dX5_go_177 (by decide) ?_
        refine rf_callR (As := [.int 0, .int 4]) (V := [(x1, .inr (cRh, [.ref a0, .ref a1, .ref a2, .ref a3, .ref a4, .ref a5, .int 0, .int 0, .int 0, .int (dy + 1), .int (cm + ((k * (100 - (5 * 5))) / 100)), .int 5, .int (mo + (5 * ((k * (100 - (5 * 5))) / 100))), .int 30]))]) (q0 := 0) (ci := cRh) (r := (RX5, TX5, 14)) ⟨hx, hb, hml, hown, hts⟩ (rX5_drawsIn_g l D cI cB H.size x0 x1 a0 a1 a2 a3 a4 a5 (dy + 1) (cm + ((k * (100 - (5 * 5))) / 100)) (mo + (5 * ((k * (100 - (5 * 5))) / 100))) 0 4) (cwV 2 hts gX5_go_X5_drawsIn rfl rfl rfl (by decide +kernel) ⟨Nat.le_of_ble_eq_true rfl, Nat.le_of_ble_eq_true rfl⟩) hK hP (hP.sub [0] rfl) hS rfl rfl rfl rfl hl.1 (Nat.le_of_ble_eq_true rfl) dX5_go_178 ⟨Nat.le_of_ble_eq_true rfl, Nat.le_of_ble_eq_true rfl⟩ rfl (fun r_ H locs hp hP hS => ?_)
        subst hp
        have hP : va_P D vwCl [(x1, .inr (cRh, [.ref a0, .ref a1, .ref a2, .ref a3, .ref a4, .ref a5, .int 0, .int 0, .int 0, .int (dy + 1), .int (cm + ((k * (100 - (5 * 5))) / 100)), .int 5, .int (mo + (5 * ((k * (100 - (5 * 5))) / 100))), .int 30]))] H := hP
        refine lv_istore (lv' := [(5, .int 0), (4, .int ((k * (100 - (5 * 5))) / 100)), (3, .int 0), (0, .ref x1), (1, .int k), (2, .int u)]) hx hb dX5_go_181 hl (by decide) rfl (fun ls hl => ?_)
        refine lv_bipush (v := 8) hx hb dX5_go_183 (by decide) ?_
        refine va_newa (a0 := (8, .inl (fun _ => 0))) (N' := 8) hx hb (atype := .int) (hts (.arrayClass .int) (by decide +kernel)) rfl hK hP hD hS (fun z hz => hA z (by rw [← hsz]; exact hz)) (fun cA => by rw [vp_cell_i]; rfl) (by decide) rfl (by decide) (by decide) (by decide) dX5_go_185 (fun q2 cA2 H hK2 hP hD hS => ?_)
        have hP : va_P D vwCl [(x1, .inr (cRh, [.ref a0, .ref a1, .ref a2, .ref a3, .ref a4, .ref a5, .int 0, .int 0, .int 0, .int (dy + 1), .int (cm + ((k * (100 - (5 * 5))) / 100)), .int 5, .int (mo + (5 * ((k * (100 - (5 * 5))) / 100))), .int 30])), (q2, .inl (cA2, 8, .inl (fun _ => 0)))] H := hP
        have hD : va_D A [(x1, .inr (cRh, [.ref a0, .ref a1, .ref a2, .ref a3, .ref a4, .ref a5, .int 0, .int 0, .int 0, .int (dy + 1), .int (cm + ((k * (100 - (5 * 5))) / 100)), .int 5, .int (mo + (5 * ((k * (100 - (5 * 5))) / 100))), .int 30])), (q2, .inl (cA2, 8, .inl (fun _ => 0)))] := hD
        refine lv_astore (lv' := [(6, .ref q2), (5, .int 0), (4, .int ((k * (100 - (5 * 5))) / 100)), (3, .int 0), (0, .ref x1), (1, .int k), (2, .int u)]) hx hb dX5_go_187 hl (by decide) rfl (fun ls hl => ?_)
        refine lv_iconst (v := 0) hx hb dX5_go_189 (by decide) ?_
        refine lv_istore (lv' := [(7, .int 0), (6, .ref q2), (5, .int 0), (4, .int ((k * (100 - (5 * 5))) / 100)), (3, .int 0), (0, .ref x1), (1, .int k), (2, .int u)]) hx hb dX5_go_190 hl (by decide) rfl (fun ls hl => ?_)
        refine lv_iload hx hb dX5_go_192 (lv_at hl 0 rfl) ?_
        refine lv_aload_n hx hb dX5_go_194 rfl (lv_at hl 5 rfl) ?_
        refine va_get (D := D) (ci := cRh) (C := RX5) (T := TX5) (N := 14) (v := .int 0) hx hb hts (by decide +kernel) hown hK hP 0 rfl rfl 7 (by decide) (hts (.fieldLink RX5 56 "WaxrowModel$House" "figureCount" "I") (by decide +kernel)) (fun _ h9 => h9) rfl dX5_go_195 ?_
        refine lv_icmp_ge (tgt := 238) hx hb dX5_go_198 (by decide) (fun c_198 => ?_) (fun c_198 => ?_)
        · refine lv_iconst (v := 0) hx hb dX5_go_238 (by decide) ?_
          refine lv_istore (lv' := [(7, .int 0), (6, .ref q2), (5, .int 0), (4, .int ((k * (100 - (5 * 5))) / 100)), (3, .int 0), (0, .ref x1), (1, .int k), (2, .int u)]) hx hb dX5_go_239 hl (by decide) rfl (fun ls hl => ?_)
          refine lv_iload hx hb dX5_go_241 (lv_at hl 0 rfl) ?_
          refine lv_aload_n hx hb dX5_go_243 rfl (lv_at hl 5 rfl) ?_
          refine va_get (D := D) (ci := cRh) (C := RX5) (T := TX5) (N := 14) (v := .int 0) hx hb hts (by decide +kernel) hown hK hP 0 rfl rfl 7 (by decide) (hts (.fieldLink RX5 56 "WaxrowModel$House" "figureCount" "I") (by decide +kernel)) (fun _ h9 => h9) rfl dX5_go_244 ?_
          refine lv_icmp_ge (tgt := 294) hx hb dX5_go_247 (by decide) (fun c_247 => ?_) (fun c_247 => ?_)
          · refine lv_iconst (v := 0) hx hb dX5_go_294 (by decide) ?_
            refine lv_istore (lv' := [(7, .int 0), (6, .ref q2), (5, .int 0), (4, .int ((k * (100 - (5 * 5))) / 100)), (3, .int 0), (0, .ref x1), (1, .int k), (2, .int u)]) hx hb dX5_go_295 hl (by decide) rfl (fun ls hl => ?_)
            refine lv_iload hx hb dX5_go_297 (lv_at hl 0 rfl) ?_
            refine lv_aload_n hx hb dX5_go_299 rfl (lv_at hl 5 rfl) ?_
            refine va_get (D := D) (ci := cRh) (C := RX5) (T := TX5) (N := 14) (v := .int 0) hx hb hts (by decide +kernel) hown hK hP 0 rfl rfl 7 (by decide) (hts (.fieldLink RX5 56 "WaxrowModel$House" "figureCount" "I") (by decide +kernel)) (fun _ h9 => h9) rfl dX5_go_300 ?_
            refine lv_icmp_ge (tgt := 338) hx hb dX5_go_303 (by decide) (fun c_303 => ?_) (fun c_303 => ?_)
            · refine lv_iload_n hx hb dX5_go_338 rfl (lv_at hl 4 rfl) ?_
              refine W.widen (k := 1) (n := 8) (by decide) (by decide) ?_
              exact W.iret (v := 0) hx hb hr (fun U9 ht hW9 => ⟨⟨0, (dy + 1, cm + ((k * (100 - (5 * 5))) / 100), mo + (5 * ((k * (100 - (5 * 5))) / 100))), rfl, rfl, by show va_P D vwCl _ U9.heap; rw [ht]; exact hP.sub [0] rfl⟩, hS.F ht⟩) hS.2.2 dX5_go_339
            · exact absurd (by decide +kernel) c_303
          · exact absurd (by decide +kernel) c_247
        · exact absurd (by decide +kernel) c_198
      · exact absurd (by decide +kernel) c_76
    · exact absurd (by decide +kernel) c_31
set_option maxHeartbeats 4000000 in
set_option maxRecDepth 100000 in
/-- the reference: pass, out of bounds -/
theorem rX6_pass_bad (l : Launch) (D : va_G) (cI cB : ClassId) (sz : Nat) (x0 x1 a0 a1 a2 a3 a4 a5 : Nat) (t k u v : Int32) (A : Nat → Prop) (hD : va_D A [(x0, .inr (cRm, [.int t, .ref x1])), (x1, .inr (cRh, [.ref a0, .ref a1, .ref a2, .ref a3, .ref a4, .ref a5, .int 0, .int 0, .int 0, .int 0, .int 0, .int 5, .int 200, .int 30]))]) (h0 : sp_in k 1 40 = 0 ∨ sp_in u 0 2000 = 0 ∨ sp_in v 0 40 = 0) : rf_Mi l yX6_pass wsX6_pass ({ frames := 1, cells := 0, slots := 0, locals := 44 }) D [(cI, .int), (cB, .array .int)] sz [(x0, .inr (cRm, [.int t, .ref x1])), (x1, .inr (cRh, [.ref a0, .ref a1, .ref a2, .ref a3, .ref a4, .ref a5, .int 0, .int 0, .int 0, .int 0, .int 0, .int 5, .int 200, .int 30]))] [(x0, .inr (cRm, [.int 1, .ref x1]))] A [.ref x0, .int k, .int u, .int v] (fun r => r = 0) 0 0 := by
  refine Met.ofW (cc := cX6_pass) (maxL := 6) (ret := (some .int)) (by decide) rfl ?_
  intro p e s m args below meth c s₁ B hml hv
  obtain ⟨rfl, hsz, hP, hK⟩ := hv
  have hx := B.exec
  have hb := B.bytes
  have hr := B.returns
  have hts := atoms_spec (ws := wsX6_pass) B.pre
  have hown : s.vm.findClass RX6 = some m.cls := findClass_of_methodNamed B.named
  have hlocks := B.notSynchronized
  have hS : va_S A s.heap s.heap [] := va_S.rf
  have hP : va_P D vwCl [(x0, .inr (cRm, [.int t, .ref x1])), (x1, .inr (cRh, [.ref a0, .ref a1, .ref a2, .ref a3, .ref a4, .ref a5, .int 0, .int 0, .int 0, .int 0, .int 0, .int 5, .int 200, .int 30]))] s.heap := hP
  have hl := lv_entry ([.ref x0, .int k, .int u, .int v]) (n := 6) (Nat.le_of_ble_eq_true rfl)
  rw [lg_entry_eq]
  generalize (lg_sl ([.ref x0, .int k, .int u, .int v]) ++ List.replicate (6 - (lg_sl ([.ref x0, .int k, .int u, .int v])).length) Slot.unset).toArray = ls at hl ⊢
  have hl : lv_has ls 6 [(0, .ref x0), (1, .int k), (2, .int u), (3, .int v)] := hl
  refine lv_aload_n hx hb dX6_pass_0 rfl (lv_at hl 0 rfl) ?_
  refine lv_iconst (v := 0) hx hb dX6_pass_1 (by decide) ?_
  refine va_put (ci := cRm) (C := RX6) (T := TX6) (N := 2) (ty := .int) hx hb hts (by decide +kernel) tyX6 tyX6_ok nmX6 hown hK hP hD hS 0 rfl rfl 0 (by decide) (hts (.fieldLink RX6 16 "WaxrowModel" "thrown" "I") (by decide +kernel)) (fun _ h9 => h9) rfl (by decide +kernel) rfl rfl (Nat.le_of_ble_eq_true rfl) dX6_pass_2 (fun H locs hP hD hS => ?_)
  have hP : va_P D vwCl [(x0, .inr (cRm, [.int 0, .ref x1])), (x1, .inr (cRh, [.ref a0, .ref a1, .ref a2, .ref a3, .ref a4, .ref a5, .int 0, .int 0, .int 0, .int 0, .int 0, .int 5, .int 200, .int 30]))] H := hP
  have hD : va_D A [(x0, .inr (cRm, [.int 0, .ref x1])), (x1, .inr (cRh, [.ref a0, .ref a1, .ref a2, .ref a3, .ref a4, .ref a5, .int 0, .int 0, .int 0, .int 0, .int 0, .int 5, .int 200, .int 30]))] := hD
  refine lv_iload_n hx hb dX6_pass_5 rfl (lv_at hl 1 rfl) ?_
  refine lv_iconst (v := 1) hx hb dX6_pass_6 (by decide) ?_
  refine lv_bipush (v := 40) hx hb dX6_pass_7 (by decide) ?_
  refine rf_runR (As := [.int k, .int 1, .int 40]) ⟨hx, hb, hml, hown, hts⟩ (rX6_in l k 1 40) (va_cwS 3 hts gX6_pass_X6_in rfl rfl rfl (by decide +kernel) ⟨Nat.le_of_ble_eq_true rfl, Nat.le_of_ble_eq_true rfl⟩) hP hS rfl hl.1 (Nat.le_of_ble_eq_true rfl) dX6_pass_9 ⟨Nat.le_of_ble_eq_true rfl, Nat.le_of_ble_eq_true rfl⟩ rfl (fun r_ H locs hp hP hS => ?_)
  obtain rfl := hp
  have hP : va_P D vwCl [(x0, .inr (cRm, [.int 0, .ref x1])), (x1, .inr (cRh, [.ref a0, .ref a1, .ref a2, .ref a3, .ref a4, .ref a5, .int 0, .int 0, .int 0, .int 0, .int 0, .int 5, .int 200, .int 30]))] H := hP
  refine lv_if_eq (tgt := 36) hx hb dX6_pass_12 (by decide) (fun c_12 => ?_) (fun c_12 => ?_)
  · refine lv_aload_n hx hb dX6_pass_36 rfl (lv_at hl 0 rfl) ?_
    refine lv_iconst (v := 1) hx hb dX6_pass_37 (by decide) ?_
    refine rf_callW (As := [.int 1]) (V := [(x0, .inr (cRm, [.int 0, .ref x1]))]) (V2 := [(x0, .inr (cRm, [.int 1, .ref x1]))]) (q0 := 0) (ci := cRm) (r := (RX6, TX6, 2)) ⟨hx, hb, hml, hown, hts⟩ (rX6_no l D cI cB H.size x0 x1 0 1 A (hD.sub [0] (by decide) rfl)) (cwV 1 hts gX6_pass_X6_no rfl rfl rfl (by decide +kernel) ⟨Nat.le_of_ble_eq_true rfl, Nat.le_of_ble_eq_true rfl⟩) hK hP (hP.sub [0] rfl) hS rfl rfl rfl rfl hl.1 (Nat.le_of_ble_eq_true rfl) dX6_pass_38 ⟨Nat.le_of_ble_eq_true rfl, Nat.le_of_ble_eq_true rfl⟩ rfl (fun r_ H locs hp hP hS => ?_)
    subst hp
    have hP : va_P D vwCl [(x0, .inr (cRm, [.int 1, .ref x1]))] H := hP
    exact W.iret (v := 0) hx hb hr (fun U9 ht hW9 => ⟨⟨0, (), rfl, rfl, by show va_P D vwCl _ U9.heap; rw [ht]; exact hP.sub [0] rfl⟩, hS.F ht⟩) hS.2.2 dX6_pass_41
  · refine lv_iload_n hx hb dX6_pass_15 rfl (lv_at hl 2 rfl) ?_
    refine lv_iconst (v := 0) hx hb dX6_pass_16 (by decide) ?_
    refine lv_sipush (v := 2000) hx hb dX6_pass_17 (by decide) ?_
    refine rf_runR (As := [.int u, .int 0, .int 2000]) ⟨hx, hb, hml, hown, hts⟩ (rX6_in l u 0 2000) (va_cwS 3 hts gX6_pass_X6_in rfl rfl rfl (by decide +kernel) ⟨Nat.le_of_ble_eq_true rfl, Nat.le_of_ble_eq_true rfl⟩) hP hS rfl hl.1 (Nat.le_of_ble_eq_true rfl) dX6_pass_20 ⟨Nat.le_of_ble_eq_true rfl, Nat.le_of_ble_eq_true rfl⟩ rfl (fun r_ H locs hp hP hS => ?_)
    obtain rfl := hp
    have hP : va_P D vwCl [(x0, .inr (cRm, [.int 0, .ref x1])), (x1, .inr (cRh, [.ref a0, .ref a1, .ref a2, .ref a3, .ref a4, .ref a5, .int 0, .int 0, .int 0, .int 0, .int 0, .int 5, .int 200, .int 30]))] H := hP
    refine lv_if_eq (tgt := 36) hx hb dX6_pass_23 (by decide) (fun c_23 => ?_) (fun c_23 => ?_)
    · refine lv_aload_n hx hb dX6_pass_36 rfl (lv_at hl 0 rfl) ?_
      refine lv_iconst (v := 1) hx hb dX6_pass_37 (by decide) ?_
      refine rf_callW (As := [.int 1]) (V := [(x0, .inr (cRm, [.int 0, .ref x1]))]) (V2 := [(x0, .inr (cRm, [.int 1, .ref x1]))]) (q0 := 0) (ci := cRm) (r := (RX6, TX6, 2)) ⟨hx, hb, hml, hown, hts⟩ (rX6_no l D cI cB H.size x0 x1 0 1 A (hD.sub [0] (by decide) rfl)) (cwV 1 hts gX6_pass_X6_no rfl rfl rfl (by decide +kernel) ⟨Nat.le_of_ble_eq_true rfl, Nat.le_of_ble_eq_true rfl⟩) hK hP (hP.sub [0] rfl) hS rfl rfl rfl rfl hl.1 (Nat.le_of_ble_eq_true rfl) dX6_pass_38 ⟨Nat.le_of_ble_eq_true rfl, Nat.le_of_ble_eq_true rfl⟩ rfl (fun r_ H locs hp hP hS => ?_)
      subst hp
      have hP : va_P D vwCl [(x0, .inr (cRm, [.int 1, .ref x1]))] H := hP
      exact W.iret (v := 0) hx hb hr (fun U9 ht hW9 => ⟨⟨0, (), rfl, rfl, by show va_P D vwCl _ U9.heap; rw [ht]; exact hP.sub [0] rfl⟩, hS.F ht⟩) hS.2.2 dX6_pass_41
    · refine lv_iload_n hx hb dX6_pass_26 rfl (lv_at hl 3 rfl) ?_
      refine lv_iconst (v := 0) hx hb dX6_pass_27 (by decide) ?_
      refine lv_bipush (v := 40) hx hb dX6_pass_28 (by decide) ?_
      refine rf_runR (As := [.int v, .int 0, .int 40]) ⟨hx, hb, hml, hown, hts⟩ (rX6_in l v 0 40) (va_cwS 3 hts gX6_pass_X6_in rfl rfl rfl (by decide +kernel) ⟨Nat.le_of_ble_eq_true rfl, Nat.le_of_ble_eq_true rfl⟩) hP hS rfl hl.1 (Nat.le_of_ble_eq_true rfl) dX6_pass_30 ⟨Nat.le_of_ble_eq_true rfl, Nat.le_of_ble_eq_true rfl⟩ rfl (fun r_ H locs hp hP hS => ?_)
      obtain rfl := hp
      have hP : va_P D vwCl [(x0, .inr (cRm, [.int 0, .ref x1])), (x1, .inr (cRh, [.ref a0, .ref a1, .ref a2, .ref a3, .ref a4, .ref a5, .int 0, .int 0, .int 0, .int 0, .int 0, .int 5, .int 200, .int 30]))] H := hP
      refine lv_if_ne (tgt := 42) hx hb dX6_pass_33 (by decide) (fun c_33 => ?_) (fun c_33 => ?_)
      · exact (h0.elim c_12 (fun h => h.elim c_23 c_33)).elim
      · refine lv_aload_n hx hb dX6_pass_36 rfl (lv_at hl 0 rfl) ?_
        refine lv_iconst (v := 1) hx hb dX6_pass_37 (by decide) ?_
        refine rf_callW (As := [.int 1]) (V := [(x0, .inr (cRm, [.int 0, .ref x1]))]) (V2 := [(x0, .inr (cRm, [.int 1, .ref x1]))]) (q0 := 0) (ci := cRm) (r := (RX6, TX6, 2)) ⟨hx, hb, hml, hown, hts⟩ (rX6_no l D cI cB H.size x0 x1 0 1 A (hD.sub [0] (by decide) rfl)) (cwV 1 hts gX6_pass_X6_no rfl rfl rfl (by decide +kernel) ⟨Nat.le_of_ble_eq_true rfl, Nat.le_of_ble_eq_true rfl⟩) hK hP (hP.sub [0] rfl) hS rfl rfl rfl rfl hl.1 (Nat.le_of_ble_eq_true rfl) dX6_pass_38 ⟨Nat.le_of_ble_eq_true rfl, Nat.le_of_ble_eq_true rfl⟩ rfl (fun r_ H locs hp hP hS => ?_)
        subst hp
        have hP : va_P D vwCl [(x0, .inr (cRm, [.int 1, .ref x1]))] H := hP
        exact W.iret (v := 0) hx hb hr (fun U9 ht hW9 => ⟨⟨0, (), rfl, rfl, by show va_P D vwCl _ U9.heap; rw [ht]; exact hP.sub [0] rfl⟩, hS.F ht⟩) hS.2.2 dX6_pass_41
theorem rf_keep1 {D : va_G} {cl : List vw_C} {a : Nat} {e : va_E} {H H1 : Heap} (h : va_P D cl [(a, e)] H) (hq : a < H.size → H1[a]? = H[a]?) : va_P D cl [(a, e)] H1 := h.kept (fun k q hk => by
  have hl := (h k q hk).lt
  have hz : k < 1 := (List.getElem?_eq_some_iff.mp hk).1
  rw [show k = 0 by omega] at hk
  cases hk
  exact hq hl)
theorem rf_callG {p : Program} {l : Launch} {e : Env} {R : Room} {s : State} {m : MethodId} {args : Array Value} {below : List Frame} {meth : Method} {c : Code} {H : Heap} {locs : List Loc} {cells slots : Nat} {Q : State → Prop} {cc : ByteArray} {pc : Nat} {ls : Array Slot} {rest : List Value} {D : va_G} {A A1 : Nat → Prop} {ty : List (ClassId × FieldType)} {V : va_W} {V2 : Int32 × Int32 × Int32 → va_W} {H0 : Heap} {y : MethodName} {bytes : ByteArray} {maxL nL n index mc ms : Nat} {ret : Option FieldType} {ws : List Cond} {rm : Room} {Ts : List Cond} {own C : String} {As st : List Value} {b q0 ci : Nat} {fs : List Value} {r : vw_C} (S : CallFix p m c cc nL s args Ts own) (hM : rf_Mg l y ws rm D ty H.size V V2 A1 (.ref b :: As) mc ms) (cw : CallW R s args own C index y bytes maxL ret ws rm mc ms n) (hK : va_K D vwCl ty s) (hPc : va_P D vwCl V H) (hS : va_S A H0 H locs) (hA1 : ∀ q, A1 q → A q) (he : V[q0]? = some (b, .inr (ci, fs))) (hc : vwCl[ci]? = some r) (hC : r.1 = C) (hn : As.length = n) (hsize : ls.size = nL) (hrest : (rest.map fun v => v.category).sum ≤ 8) (hdg : decode cc pc = .ok (.invokevirtual index, 3)) (hf : cells + mc ≤ R.cells ∧ slots + ms ≤ R.slots) (hst : st = As.reverse ++ .ref b :: rest)
    (kk : ∀ (u : Int32 × Int32 × Int32) (H1 : Heap) (locs1 : List Loc), va_P D vwCl (V2 u) H1 → (∀ q : Nat, q < H.size → ¬ A1 q → H1[q]? = H[q]?) → H.size ≤ H1.size → va_S A H0 H1 locs1 → W p l e R s m args below meth c H1 locs1 (cells + mc) (slots + ms) Q (F0 m (pc + 3) ls (.int 0 :: rest))) : W p l e R s m args below meth c H locs cells slots Q (F0 m pc ls st) := by
  subst hst
  subst hC
  exact va_calli (va_runV S hM cw ⟨rf_blind2, va_recv hK hPc hc he, fun U hU hW2 => ⟨rfl, by rw [hU], by rw [hU]; exact hPc, va_K.moved hW2.alike hK⟩⟩ rfl hn hsize rfl (lv_room hrest) hdg hf) hS (fun q _ h => hA1 q h) (fun q h => hA1 q h) (fun r u t H1 locs1 ht _ hp hB hz hq hS1 => by
    rw [ht] at hB
    subst hp
    exact kk u H1 locs1 hB hq hz hS1)
set_option maxHeartbeats 4000000 in
set_option maxRecDepth 100000 in
/-- the reference: pass, its days -/
theorem rX6_pass_loop (l : Launch) (D : va_G) (cI cB : ClassId) (sz : Nat) (x0 x1 a0 a1 a2 a3 a4 a5 : Nat) (u v : Int32) (A : Nat → Prop) (N : Nat) (hN : N ≤ 40) {p : Program} {e : Env} {s : State} {m : MethodId} {args : Array Value} {below : List Frame} {meth : Method} {c : Code} (hx : p.tables.exec = Jvm.exec) (hb : c.code = cX6_pass) (hr : meth.sig.returnType = (some .int)) (hts : ∀ w ∈ wsX6_pass, w.before args s = true) (hown : s.vm.findClass RX6 = some m.cls) (hlocks : meth.locks = false) (hml : c.maxLocals = 6) (hK : va_K D vwCl [(cI, .int), (cB, .array .int)] s) (hsz : s.heap.size = sz) (hA : ∀ q, sz ≤ q → A q) : ∀ (k n : Nat), n + k = N → ∀ (dy cm mo : Int32) (H : Heap) (locs : List Loc), va_P D vwCl [(x0, .inr (cRm, [.int 0, .ref x1])), (x1, .inr (cRh, [.ref a0, .ref a1, .ref a2, .ref a3, .ref a4, .ref a5, .int 0, .int 0, .int 0, .int dy, .int cm, .int 5, .int mo, .int 30]))] H → va_D A [(x0, .inr (cRm, [.int 0, .ref x1])), (x1, .inr (cRh, [.ref a0, .ref a1, .ref a2, .ref a3, .ref a4, .ref a5, .int 0, .int 0, .int 0, .int dy, .int cm, .int 5, .int mo, .int 30]))] → va_S A s.heap H locs → ∀ ls : Array Slot, lv_has ls 6 [(5, .int (nI n)), (4, .int 0), (0, .ref x0), (1, .int (nI N)), (2, .int u), (3, .int v)] → W p l e ({ frames := 2, cells := 40, slots := 320, locals := 60 } : Room) s m args below meth c H locs n (8 * n) (MQ below (va_Qi (fun r (_ : Unit) => r = 0) (fun _ t => va_P D vwCl [(x0, .inr (cRm, [.int 0, .ref x1]))] t.heap) A) args s 40 320 A) (F0 m 48 ls []) := by
  intro k
  induction k with
  | zero =>
    intro n hn dy cm mo H locs hP hD hS ls hl
    have hnN : n = N := by omega
    refine lv_iload hx hb dX6_pass_48 (lv_at hl 0 rfl) ?_
    refine lv_iload_n hx hb dX6_pass_50 rfl (lv_at hl 3 rfl) ?_
    refine lv_icmp_ge (tgt := 74) hx hb dX6_pass_51 (by decide) (fun c_51 => ?_) (fun c_51 => ?_)
    · refine lv_iload hx hb dX6_pass_74 (lv_at hl 1 rfl) ?_
      refine W.widen (k := 40) (n := 320) (by omega) (by omega) ?_
      exact W.iret (v := 0) hx hb hr (fun U9 ht hW9 => ⟨⟨0, (), rfl, rfl, by show va_P D vwCl _ U9.heap; rw [ht]; exact hP.sub [0] rfl⟩, hS.F ht⟩) hS.2.2 dX6_pass_76
    · exact absurd (by rw [hnN]; exact nI_le (Nat.le_refl _) (by omega)) c_51
  | succ k ih =>
    intro n hn dy cm mo H locs hP hD hS ls hl
    have hnN : n < N := by omega
    refine lv_iload hx hb dX6_pass_48 (lv_at hl 0 rfl) ?_
    refine lv_iload_n hx hb dX6_pass_50 rfl (lv_at hl 3 rfl) ?_
    refine lv_icmp_ge (tgt := 74) hx hb dX6_pass_51 (by decide) (fun c_51 => ?_) (fun c_51 => ?_)
    · exact absurd c_51 (nI_ge hnN (by omega))
    · refine lv_iload hx hb dX6_pass_54 (lv_at hl 1 rfl) ?_
      refine lv_aload_n hx hb dX6_pass_56 rfl (lv_at hl 2 rfl) ?_
      refine va_get (D := D) (ci := cRm) (C := RX6) (T := TX6) (N := 2) (v := .ref x1) hx hb hts (by decide +kernel) hown hK hP 0 rfl rfl 1 (by decide) (hts (.fieldLink RX6 10 "WaxrowModel" "house" "LWaxrowModel$House;") (by decide +kernel)) (fun _ h9 => h9) rfl dX6_pass_57 ?_
      refine lv_iload_n hx hb dX6_pass_60 rfl (lv_at hl 4 rfl) ?_
      refine lv_iload_n hx hb dX6_pass_61 rfl (lv_at hl 5 rfl) ?_
      have hx01 : ¬ (x0 = x1 ∨ H.size ≤ x0) := fun z => z.elim (fun z => absurd (hD.1 0 1 _ _ rfl rfl z) (by decide)) (fun z => absurd ((hP 0 _ rfl).lt) (Nat.not_lt.mpr z))
      have hA1 : ∀ q, (q = x1 ∨ H.size ≤ q) → A q := fun q z => z.elim (fun z => by rw [z]; exact hD.2 1 _ rfl) (fun z => hA q (Nat.le_trans (by rw [← hsz]; exact hS.1) z))
      refine rf_callG (A1 := fun q => q = x1 ∨ H.size ≤ q) (As := [.int u, .int v]) (V := [(x1, .inr (cRh, [.ref a0, .ref a1, .ref a2, .ref a3, .ref a4, .ref a5, .int 0, .int 0, .int 0, .int dy, .int cm, .int 5, .int mo, .int 30]))]) (V2 := rf_hg x1 a0 a1 a2 a3 a4 a5) (q0 := 0) (ci := cRh) (r := (RX5, TX5, 14)) ⟨hx, hb, hml, hown, hts⟩ (rX5_go l D cI cB H.size x0 x1 a0 a1 a2 a3 a4 a5 dy cm mo u v (fun q => q = x1 ∨ H.size ≤ q) (fun q z => Or.inr z) ⟨fun i j p q h1 h2 _ => by have := (List.getElem?_eq_some_iff.mp h1).1; have := (List.getElem?_eq_some_iff.mp h2).1; simp only [List.length_cons, List.length_nil] at *; omega, fun k9 q h => by have hz : k9 < 1 := (List.getElem?_eq_some_iff.mp h).1; rw [show k9 = 0 by omega] at h; cases h; exact Or.inl rfl⟩) (cwV 2 hts gX6_pass_X5_go rfl rfl rfl (by decide +kernel) ⟨Nat.le_of_ble_eq_true rfl, Nat.le_of_ble_eq_true rfl⟩) hK (hP.sub [1] rfl) hS hA1 rfl rfl rfl rfl hl.1 (Nat.le_of_ble_eq_true rfl) dX6_pass_62 ⟨by show n + 1 ≤ 40; omega, by show 8 * n + 8 ≤ 320; omega⟩ rfl (fun w_ H1 locs hB hq hz hS => ?_)
      have hP : va_P D vwCl [(x0, .inr (cRm, [.int 0, .ref x1])), (x1, .inr (cRh, [.ref a0, .ref a1, .ref a2, .ref a3, .ref a4, .ref a5, .int 0, .int 0, .int 0, .int w_.1, .int w_.2.1, .int 5, .int w_.2.2, .int 30]))] H1 := (rf_keep1 (hP.sub (ws' := [(x0, .inr (cRm, [.int 0, .ref x1]))]) [0] rfl) (fun z => hq x0 z hx01)).app hB
      have hD : va_D A [(x0, .inr (cRm, [.int 0, .ref x1])), (x1, .inr (cRh, [.ref a0, .ref a1, .ref a2, .ref a3, .ref a4, .ref a5, .int 0, .int 0, .int 0, .int w_.1, .int w_.2.1, .int 5, .int w_.2.2, .int 30]))] := hD.set (p := 1) (e := .inr (cRh, [.ref a0, .ref a1, .ref a2, .ref a3, .ref a4, .ref a5, .int 0, .int 0, .int 0, .int w_.1, .int w_.2.1, .int 5, .int w_.2.2, .int 30])) rfl
      refine lv_iadd hx hb dX6_pass_65 ?_
      refine lv_istore (lv' := [(4, .int (0 + 0)), (5, .int (nI n)), (0, .ref x0), (1, .int (nI N)), (2, .int u), (3, .int v)]) hx hb dX6_pass_66 hl (by decide) rfl (fun ls hl => ?_)
      refine lv_iinc (v := nI (n + 1)) (lv' := [(5, .int (nI (n + 1))), (4, .int (0 + 0)), (0, .ref x0), (1, .int (nI N)), (2, .int u), (3, .int v)]) hx hb dX6_pass_68 hl (k := 1) rfl (nI_succ _).symm (by decide) rfl (fun ls hl => ?_)
      refine lv_goto (tgt := 48) hx hb dX6_pass_71 (by decide) ?_
      have hl : lv_has ls 6 [(5, .int (nI (n + 1))), (4, .int 0), (0, .ref x0), (1, .int (nI N)), (2, .int u), (3, .int v)] := hl
      exact ih (n + 1) (by omega) w_.1 w_.2.1 w_.2.2 _ _ hP hD hS ls (lv_sub hl [0, 1, 2, 3, 4, 5] rfl)
set_option maxHeartbeats 4000000 in
set_option maxRecDepth 100000 in
/-- the reference: pass -/
theorem rX6_pass_ok (l : Launch) (D : va_G) (cI cB : ClassId) (sz : Nat) (x0 x1 a0 a1 a2 a3 a4 a5 : Nat) (t : Int32) (N : Nat) (hN : N ≤ 40) (u v : Int32) (A : Nat → Prop) (hA : ∀ q, sz ≤ q → A q) (hD : va_D A [(x0, .inr (cRm, [.int t, .ref x1])), (x1, .inr (cRh, [.ref a0, .ref a1, .ref a2, .ref a3, .ref a4, .ref a5, .int 0, .int 0, .int 0, .int 0, .int 0, .int 5, .int 200, .int 30]))]) (h1 : sp_in (nI N) 1 40 = 1) (h2 : sp_in u 0 2000 = 1) (h3 : sp_in v 0 40 = 1) : rf_Mi l yX6_pass wsX6_pass ({ frames := 2, cells := 40, slots := 320, locals := 60 }) D [(cI, .int), (cB, .array .int)] sz [(x0, .inr (cRm, [.int t, .ref x1])), (x1, .inr (cRh, [.ref a0, .ref a1, .ref a2, .ref a3, .ref a4, .ref a5, .int 0, .int 0, .int 0, .int 0, .int 0, .int 5, .int 200, .int 30]))] [(x0, .inr (cRm, [.int 0, .ref x1]))] A [.ref x0, .int (nI N), .int u, .int v] (fun r => r = 0) 40 320 := by
  refine Met.ofW (cc := cX6_pass) (maxL := 6) (ret := (some .int)) (by decide) rfl ?_
  intro p e s m args below meth c s₁ B hml hv
  obtain ⟨rfl, hsz, hP, hK⟩ := hv
  have hx := B.exec
  have hb := B.bytes
  have hr := B.returns
  have hts := atoms_spec (ws := wsX6_pass) B.pre
  have hown : s.vm.findClass RX6 = some m.cls := findClass_of_methodNamed B.named
  have hlocks := B.notSynchronized
  have hS : va_S A s.heap s.heap [] := va_S.rf
  have hP : va_P D vwCl [(x0, .inr (cRm, [.int t, .ref x1])), (x1, .inr (cRh, [.ref a0, .ref a1, .ref a2, .ref a3, .ref a4, .ref a5, .int 0, .int 0, .int 0, .int 0, .int 0, .int 5, .int 200, .int 30]))] s.heap := hP
  have hl := lv_entry ([.ref x0, .int (nI N), .int u, .int v]) (n := 6) (Nat.le_of_ble_eq_true rfl)
  rw [lg_entry_eq]
  generalize (lg_sl ([.ref x0, .int (nI N), .int u, .int v]) ++ List.replicate (6 - (lg_sl ([.ref x0, .int (nI N), .int u, .int v])).length) Slot.unset).toArray = ls at hl ⊢
  have hl : lv_has ls 6 [(0, .ref x0), (1, .int (nI N)), (2, .int u), (3, .int v)] := hl
  refine lv_aload_n hx hb dX6_pass_0 rfl (lv_at hl 0 rfl) ?_
  refine lv_iconst (v := 0) hx hb dX6_pass_1 (by decide) ?_
  refine va_put (ci := cRm) (C := RX6) (T := TX6) (N := 2) (ty := .int) hx hb hts (by decide +kernel) tyX6 tyX6_ok nmX6 hown hK hP hD hS 0 rfl rfl 0 (by decide) (hts (.fieldLink RX6 16 "WaxrowModel" "thrown" "I") (by decide +kernel)) (fun _ h9 => h9) rfl (by decide +kernel) rfl rfl (Nat.le_of_ble_eq_true rfl) dX6_pass_2 (fun H locs hP hD hS => ?_)
  have hP : va_P D vwCl [(x0, .inr (cRm, [.int 0, .ref x1])), (x1, .inr (cRh, [.ref a0, .ref a1, .ref a2, .ref a3, .ref a4, .ref a5, .int 0, .int 0, .int 0, .int 0, .int 0, .int 5, .int 200, .int 30]))] H := hP
  have hD : va_D A [(x0, .inr (cRm, [.int 0, .ref x1])), (x1, .inr (cRh, [.ref a0, .ref a1, .ref a2, .ref a3, .ref a4, .ref a5, .int 0, .int 0, .int 0, .int 0, .int 0, .int 5, .int 200, .int 30]))] := hD
  refine lv_iload_n hx hb dX6_pass_5 rfl (lv_at hl 1 rfl) ?_
  refine lv_iconst (v := 1) hx hb dX6_pass_6 (by decide) ?_
  refine lv_bipush (v := 40) hx hb dX6_pass_7 (by decide) ?_
  refine rf_runR (As := [.int (nI N), .int 1, .int 40]) ⟨hx, hb, hml, hown, hts⟩ (rX6_in l (nI N) 1 40) (va_cwS 3 hts gX6_pass_X6_in rfl rfl rfl (by decide +kernel) ⟨Nat.le_of_ble_eq_true rfl, Nat.le_of_ble_eq_true rfl⟩) hP hS rfl hl.1 (Nat.le_of_ble_eq_true rfl) dX6_pass_9 ⟨Nat.le_of_ble_eq_true rfl, Nat.le_of_ble_eq_true rfl⟩ rfl (fun r_ H locs hp hP hS => ?_)
  obtain rfl := hp
  have hP : va_P D vwCl [(x0, .inr (cRm, [.int 0, .ref x1])), (x1, .inr (cRh, [.ref a0, .ref a1, .ref a2, .ref a3, .ref a4, .ref a5, .int 0, .int 0, .int 0, .int 0, .int 0, .int 5, .int 200, .int 30]))] H := hP
  refine lv_if_eq (tgt := 36) hx hb dX6_pass_12 (by decide) (fun c_12 => ?_) (fun c_12 => ?_)
  · exact absurd (h1.symm.trans c_12) (by decide)
  · refine lv_iload_n hx hb dX6_pass_15 rfl (lv_at hl 2 rfl) ?_
    refine lv_iconst (v := 0) hx hb dX6_pass_16 (by decide) ?_
    refine lv_sipush (v := 2000) hx hb dX6_pass_17 (by decide) ?_
    refine rf_runR (As := [.int u, .int 0, .int 2000]) ⟨hx, hb, hml, hown, hts⟩ (rX6_in l u 0 2000) (va_cwS 3 hts gX6_pass_X6_in rfl rfl rfl (by decide +kernel) ⟨Nat.le_of_ble_eq_true rfl, Nat.le_of_ble_eq_true rfl⟩) hP hS rfl hl.1 (Nat.le_of_ble_eq_true rfl) dX6_pass_20 ⟨Nat.le_of_ble_eq_true rfl, Nat.le_of_ble_eq_true rfl⟩ rfl (fun r_ H locs hp hP hS => ?_)
    obtain rfl := hp
    have hP : va_P D vwCl [(x0, .inr (cRm, [.int 0, .ref x1])), (x1, .inr (cRh, [.ref a0, .ref a1, .ref a2, .ref a3, .ref a4, .ref a5, .int 0, .int 0, .int 0, .int 0, .int 0, .int 5, .int 200, .int 30]))] H := hP
    refine lv_if_eq (tgt := 36) hx hb dX6_pass_23 (by decide) (fun c_23 => ?_) (fun c_23 => ?_)
    · exact absurd (h2.symm.trans c_23) (by decide)
    · refine lv_iload_n hx hb dX6_pass_26 rfl (lv_at hl 3 rfl) ?_
      refine lv_iconst (v := 0) hx hb dX6_pass_27 (by decide) ?_
      refine lv_bipush (v := 40) hx hb dX6_pass_28 (by decide) ?_
      refine rf_runR (As := [.int v, .int 0, .int 40]) ⟨hx, hb, hml, hown, hts⟩ (rX6_in l v 0 40) (va_cwS 3 hts gX6_pass_X6_in rfl rfl rfl (by decide +kernel) ⟨Nat.le_of_ble_eq_true rfl, Nat.le_of_ble_eq_true rfl⟩) hP hS rfl hl.1 (Nat.le_of_ble_eq_true rfl) dX6_pass_30 ⟨Nat.le_of_ble_eq_true rfl, Nat.le_of_ble_eq_true rfl⟩ rfl (fun r_ H locs hp hP hS => ?_)
      obtain rfl := hp
      have hP : va_P D vwCl [(x0, .inr (cRm, [.int 0, .ref x1])), (x1, .inr (cRh, [.ref a0, .ref a1, .ref a2, .ref a3, .ref a4, .ref a5, .int 0, .int 0, .int 0, .int 0, .int 0, .int 5, .int 200, .int 30]))] H := hP
      refine lv_if_ne (tgt := 42) hx hb dX6_pass_33 (by decide) (fun c_33 => ?_) (fun c_33 => ?_)
      · refine lv_iconst (v := 0) hx hb dX6_pass_42 (by decide) ?_
        refine lv_istore (lv' := [(4, .int 0), (0, .ref x0), (1, .int (nI N)), (2, .int u), (3, .int v)]) hx hb dX6_pass_43 hl (by decide) rfl (fun ls hl => ?_)
        refine lv_iconst (v := 0) hx hb dX6_pass_45 (by decide) ?_
        refine lv_istore (lv' := [(5, .int 0), (4, .int 0), (0, .ref x0), (1, .int (nI N)), (2, .int u), (3, .int v)]) hx hb dX6_pass_46 hl (by decide) rfl (fun ls hl => ?_)
        exact rX6_pass_loop l D cI cB sz x0 x1 a0 a1 a2 a3 a4 a5 u v A N hN hx hb hr hts hown hlocks hml hK hsz hA N 0 (by omega) 0 0 200 _ _ hP hD hS ls (lv_sub hl [0, 1, 2, 3, 4, 5] rfl)
      · exact absurd (h3.symm.trans c_33) (by decide)
