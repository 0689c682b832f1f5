/-! THE REFERENCE'S work, known -/
set_option maxHeartbeats 4000000 in
set_option maxRecDepth 100000 in
/-- the reference: X6_work -/
theorem kX6_work (l : Launch) (D : va_G) (d : hs_Dm) (cB : ClassId) (L : hs_Lo) (m0 : Nat) (th : Int32) (ρ : hs_St) (A : Nat → Prop) (sz : Nat) (P F R : Nat) (hok : mh_ok P F R ρ) (x y : Int32) : mm_Mi l yX6_work wsX6_work ({ frames := 2, cells := 0, slots := 0, locals := 60 } : Room) D d cB L m0 th ρ A sz [.ref m0, .int x, .int y] (fun r X => if mp_in x 0 (nI F - 1) = 0 then (0 : Int32) = r ∧ (1 : Int32) = X.1 ∧ ρ = X.2 else if mp_in y 0 9 = 0 then (0 : Int32) = r ∧ (2 : Int32) = X.1 ∧ ρ = X.2 else if ρ 14 x.toNatClampNeg 2 = 6 ∨ ρ 14 x.toNatClampNeg 7 = 7 ∨ ¬ mp_hands ρ F - ρ 14 x.toNatClampNeg 4 + y ≤ 12 then (0 : Int32) = r ∧ (3 : Int32) = X.1 ∧ ρ = X.2 else mp_hands ρ F - ρ 14 x.toNatClampNeg 4 + y = r ∧ (0 : Int32) = X.1 ∧ hs_sg ρ 14 x.toNatClampNeg 4 y = X.2) 0 0 := by
  refine Met.ofW (cc := cX6_work) (maxL := 5) (ret := (some .int)) (by decide) rfl ?_
  intro p e s m args below meth c0 s₁ B hml hv
  obtain ⟨rfl, hsz, hM, hKK⟩ := hv
  have hx := B.exec
  have hb := B.bytes
  have hr := B.returns
  have hts := atoms_spec (ws := wsX6_work) B.pre
  have hown : s.vm.findClass RX6 = some m.cls := findClass_of_methodNamed B.named
  have hlocks := B.notSynchronized
  have hS : va_S A s.heap s.heap [] := va_S.rf
  have hl := lv_entry ([.ref m0, .int x, .int y]) (n := 5) (Nat.le_of_ble_eq_true rfl)
  rw [lg_entry_eq]
  generalize (lg_sl ([.ref m0, .int x, .int y]) ++ List.replicate (5 - (lg_sl ([.ref m0, .int x, .int y])).length) Slot.unset).toArray = ls at hl ⊢
  have hl : lv_has ls 5 [(0, .ref m0), (1, .int x), (2, .int y)] := hl
  refine lv_aload_n hx hb dX6_work_0 rfl (lv_at hl 0 rfl) ?_
  refine lv_iconst (v := 0) hx hb dX6_work_1 (by decide) ?_
  refine mm_putt hx hb hts (by decide +kernel) hown hKK.1 hM hS (hts (.fieldLink RX6 16 "WaxrowModel" "thrown" "I") (by decide +kernel)) (0 : Int32) dX6_work_2 (fun H locs hM hS hz => ?_)
  have hM : mm_W D d cB L m0 0 ρ A H := hM
  have hW := hM.2.1
  refine lv_aload_n hx hb dX6_work_5 rfl (lv_at hl 0 rfl) ?_
  refine lv_iload_n hx hb dX6_work_6 rfl (lv_at hl 1 rfl) ?_
  refine mm_calli (As := [.int x]) ⟨hx, hb, hml, hown, hts⟩ (kX6_isFigure l D d cB L m0 (0 : Int32) ρ A H.size P F R hok x) (cwV 1 hts gX6_work_X6_isFigure rfl rfl rfl (by decide +kernel) ⟨Nat.le_of_ble_eq_true rfl, Nat.le_of_ble_eq_true rfl⟩) hKK hM hS rfl hl.1 (Nat.le_of_ble_eq_true rfl) dX6_work_7 ⟨Nat.le_of_ble_eq_true rfl, Nat.le_of_ble_eq_true rfl⟩ rfl (fun r_ X_ H locs hp hM hz hS => ?_)
  obtain ⟨t_, τ_⟩ := X_
  obtain ⟨e1_, e2_, e3_⟩ := hp
  have e2_ : (0 : Int32) = t_ := e2_
  have e3_ : ρ = τ_ := e3_
  subst e1_ e2_ e3_
  have hM : mm_W D d cB L m0 0 ρ A H := hM
  have hW := hM.2.1
  refine lv_if_ne (tgt := 19) hx hb dX6_work_10 (by decide) (fun c_10 => ?_) (fun c_10 => ?_)
  · refine lv_iload_n hx hb dX6_work_19 rfl (lv_at hl 2 rfl) ?_
    refine lv_iconst (v := 0) hx hb dX6_work_20 (by decide) ?_
    refine lv_bipush (v := 9) hx hb dX6_work_21 (by decide) ?_
    refine mm_pure (As := [.int y, .int 0, .int 9]) ⟨hx, hb, hml, hown, hts⟩ (kX6_in l (y) (0) (9)) (va_cwS 3 hts gX6_work_X6_in rfl rfl rfl (by decide +kernel) ⟨Nat.le_of_ble_eq_true rfl, Nat.le_of_ble_eq_true rfl⟩) hM hS rfl hl.1 (Nat.le_of_ble_eq_true rfl) dX6_work_23 ⟨Nat.le_of_ble_eq_true rfl, Nat.le_of_ble_eq_true rfl⟩ rfl (fun r_ H locs hp hM hz hS => ?_)
    subst hp
    have hM : mm_W D d cB L m0 0 ρ A H := hM
    have hW := hM.2.1
    refine lv_if_ne (tgt := 35) hx hb dX6_work_26 (by decide) (fun c_26 => ?_) (fun c_26 => ?_)
    · have hb9 := hok.2.1
      obtain ⟨j, hj, ej⟩ := mp_in_ix (by omega) c_10
      subst ej
      refine lv_aload_n hx hb dX6_work_35 rfl (lv_at hl 0 rfl) ?_
      refine mm_house hx hb hts (by decide +kernel) hown hKK.1 hM (hts (.fieldLink RX6 10 "WaxrowModel" "house" "LWaxrowModel$House;") (by decide +kernel)) dX6_work_36 ?_
      have hW := hM.2.1
      refine mh_get hx hb hts (by decide +kernel) hown hKK.1 hW 3 (by decide) (hts (.fieldLink RX6 60 "WaxrowModel$House" "figures" "[[I") (by decide +kernel)) rfl (v := .ref (L 4 0)) rfl dX6_work_39 ?_
      refine lv_iload_n hx hb dX6_work_42 rfl (lv_at hl 1 rfl) ?_
      refine mh_aald hx hb hKK.2.1 hW 4 j (by decide) (by decide) (by show j < mh_n 4; unfold mh_n; simp; omega) dX6_work_43 ?_
      refine lv_astore_n (lv' := [(3, .ref (L 14 j)), (0, .ref m0), (1, .int (nI j)), (2, .int y)]) hx hb dX6_work_44 rfl hl (by decide) rfl (fun ls hl => ?_)
      refine lv_aload_n hx hb dX6_work_45 rfl (lv_at hl 1 rfl) ?_
      refine mm_house hx hb hts (by decide +kernel) hown hKK.1 hM (hts (.fieldLink RX6 10 "WaxrowModel" "house" "LWaxrowModel$House;") (by decide +kernel)) dX6_work_46 ?_
      have hW := hM.2.1
      refine mh_callo (As := []) ⟨hx, hb, hml, hown, hts⟩ (kX5_hands l D d cB L ρ (mh_own L) H.size P F R hok) (cwV 0 hts gX6_work_X5_hands rfl rfl rfl (by decide +kernel) ⟨Nat.le_of_ble_eq_true rfl, Nat.le_of_ble_eq_true rfl⟩) hKK hW hS rfl hl.1 (Nat.le_of_ble_eq_true rfl) dX6_work_49 ⟨Nat.le_of_ble_eq_true rfl, Nat.le_of_ble_eq_true rfl⟩ rfl (fun r_ τ_ H locs hp hW hz hqq hS => ?_)
      obtain ⟨e1_, e2_⟩ := hp
      subst e1_ e2_
      have hM : mm_W D d cB L m0 (0 : Int32) ρ A H := ⟨hM.1.kept (hqq _ hM.1.lt (fun ⟨k9, i9, hx9, e9⟩ => hM.2.2.2 k9 i9 hx9 e9.symm)), hW, hM.2.2⟩
      refine lv_aload_n hx hb dX6_work_52 rfl (lv_at hl 0 rfl) ?_
      refine lv_iconst (v := 4) hx hb dX6_work_53 (by decide) ?_
      refine mh_iald hx hb hKK.1 hW 14 j (by decide) (mh_ixR (k := 4) (by decide) (by decide) (by show j < mh_n 4; unfold mh_n; simp; omega)) (i := 4) (by unfold vp_in; decide) dX6_work_54 ?_
      rw [show (4 : Int32).toNatClampNeg = 4 from by decide]
      refine lv_isub hx hb dX6_work_55 ?_
      refine lv_iload_n hx hb dX6_work_56 rfl (lv_at hl 3 rfl) ?_
      refine lv_iadd hx hb dX6_work_57 ?_
      refine lv_istore (lv' := [(4, .int (((mp_hands ρ F) - (ρ 14 j 4)) + y)), (3, .ref (L 14 j)), (0, .ref m0), (1, .int (nI j)), (2, .int y)]) hx hb dX6_work_58 hl (by decide) rfl (fun ls hl => ?_)
      refine lv_aload_n hx hb dX6_work_60 rfl (lv_at hl 1 rfl) ?_
      refine lv_iconst (v := 2) hx hb dX6_work_61 (by decide) ?_
      refine mh_iald hx hb hKK.1 hW 14 j (by decide) (mh_ixR (k := 4) (by decide) (by decide) (by show j < mh_n 4; unfold mh_n; simp; omega)) (i := 2) (by unfold vp_in; decide) dX6_work_62 ?_
      rw [show (2 : Int32).toNatClampNeg = 2 from by decide]
      refine lv_bipush (v := 6) hx hb dX6_work_63 (by decide) ?_
      refine lv_icmp_eq (tgt := 84) hx hb dX6_work_65 (by decide) (fun c_65 => ?_) (fun c_65 => ?_)
      · refine lv_aload_n hx hb dX6_work_84 rfl (lv_at hl 2 rfl) ?_
        refine lv_iconst (v := 3) hx hb dX6_work_85 (by decide) ?_
        refine mm_calli (As := [.int 3]) ⟨hx, hb, hml, hown, hts⟩ (kX6_no l D d cB L m0 (0 : Int32) ρ A H.size 3) (cwV 1 hts gX6_work_X6_no rfl rfl rfl (by decide +kernel) ⟨Nat.le_of_ble_eq_true rfl, Nat.le_of_ble_eq_true rfl⟩) hKK hM hS rfl hl.1 (Nat.le_of_ble_eq_true rfl) dX6_work_86 ⟨Nat.le_of_ble_eq_true rfl, Nat.le_of_ble_eq_true rfl⟩ rfl (fun r_ X_ H locs hp hM hz hS => ?_)
        obtain ⟨t_, τ_⟩ := X_
        obtain ⟨e1_, e2_, e3_⟩ := hp
        have e2_ : (3 : Int32) = t_ := e2_
        have e3_ : ρ = τ_ := e3_
        subst e1_ e2_ e3_
        have hM : mm_W D d cB L m0 3 ρ A H := hM
        have hW := hM.2.1
        exact W.iret (v := 0) hx hb hr (fun t ht hW9 => ⟨⟨0, (3, ρ), rfl, (by have hcl := nI_clamp (n := j) (by omega); show if mp_in (nI j) 0 (nI F - 1) = 0 then _ else if mp_in y 0 9 = 0 then _ else if ρ 14 (nI j).toNatClampNeg 2 = 6 ∨ ρ 14 (nI j).toNatClampNeg 7 = 7 ∨ ¬ mp_hands ρ F - ρ 14 (nI j).toNatClampNeg 4 + y ≤ 12 then _ else mp_hands ρ F - ρ 14 (nI j).toNatClampNeg 4 + y = _ ∧ _ ∧ hs_sg ρ 14 (nI j).toNatClampNeg 4 y = _; rw [if_neg c_10, if_neg c_26, hcl, if_pos (Or.inl c_65)]; exact ⟨rfl, rfl, rfl⟩), by show mm_W D d cB L m0 _ _ A t.heap; rw [ht]; exact hM⟩, hS.F ht⟩) hS.2.2 dX6_work_89
      · refine lv_aload_n hx hb dX6_work_68 rfl (lv_at hl 1 rfl) ?_
        refine lv_bipush (v := 7) hx hb dX6_work_69 (by decide) ?_
        refine mh_iald hx hb hKK.1 hW 14 j (by decide) (mh_ixR (k := 4) (by decide) (by decide) (by show j < mh_n 4; unfold mh_n; simp; omega)) (i := 7) (by unfold vp_in; decide) dX6_work_71 ?_
        rw [show (7 : Int32).toNatClampNeg = 7 from by decide]
        refine lv_bipush (v := 7) hx hb dX6_work_72 (by decide) ?_
        refine lv_icmp_eq (tgt := 84) hx hb dX6_work_74 (by decide) (fun c_74 => ?_) (fun c_74 => ?_)
        · refine lv_aload_n hx hb dX6_work_84 rfl (lv_at hl 2 rfl) ?_
          refine lv_iconst (v := 3) hx hb dX6_work_85 (by decide) ?_
          refine mm_calli (As := [.int 3]) ⟨hx, hb, hml, hown, hts⟩ (kX6_no l D d cB L m0 (0 : Int32) ρ A H.size 3) (cwV 1 hts gX6_work_X6_no rfl rfl rfl (by decide +kernel) ⟨Nat.le_of_ble_eq_true rfl, Nat.le_of_ble_eq_true rfl⟩) hKK hM hS rfl hl.1 (Nat.le_of_ble_eq_true rfl) dX6_work_86 ⟨Nat.le_of_ble_eq_true rfl, Nat.le_of_ble_eq_true rfl⟩ rfl (fun r_ X_ H locs hp hM hz hS => ?_)
          obtain ⟨t_, τ_⟩ := X_
          obtain ⟨e1_, e2_, e3_⟩ := hp
          have e2_ : (3 : Int32) = t_ := e2_
          have e3_ : ρ = τ_ := e3_
          subst e1_ e2_ e3_
          have hM : mm_W D d cB L m0 3 ρ A H := hM
          have hW := hM.2.1
          exact W.iret (v := 0) hx hb hr (fun t ht hW9 => ⟨⟨0, (3, ρ), rfl, (by have hcl := nI_clamp (n := j) (by omega); show if mp_in (nI j) 0 (nI F - 1) = 0 then _ else if mp_in y 0 9 = 0 then _ else if ρ 14 (nI j).toNatClampNeg 2 = 6 ∨ ρ 14 (nI j).toNatClampNeg 7 = 7 ∨ ¬ mp_hands ρ F - ρ 14 (nI j).toNatClampNeg 4 + y ≤ 12 then _ else mp_hands ρ F - ρ 14 (nI j).toNatClampNeg 4 + y = _ ∧ _ ∧ hs_sg ρ 14 (nI j).toNatClampNeg 4 y = _; rw [if_neg c_10, if_neg c_26, hcl, if_pos (Or.inr (Or.inl c_74))]; exact ⟨rfl, rfl, rfl⟩), by show mm_W D d cB L m0 _ _ A t.heap; rw [ht]; exact hM⟩, hS.F ht⟩) hS.2.2 dX6_work_89
        · refine lv_iload hx hb dX6_work_77 (lv_at hl 0 rfl) ?_
          refine lv_bipush (v := 12) hx hb dX6_work_79 (by decide) ?_
          refine lv_icmp_le (tgt := 90) hx hb dX6_work_81 (by decide) (fun c_81 => ?_) (fun c_81 => ?_)
          · refine lv_aload_n hx hb dX6_work_90 rfl (lv_at hl 1 rfl) ?_
            refine lv_iconst (v := 4) hx hb dX6_work_91 (by decide) ?_
            refine lv_iload_n hx hb dX6_work_92 rfl (lv_at hl 4 rfl) ?_
            have hW := hM.2.1
            refine mh_iast hx hb hKK.1 hW hS 14 j (by decide) (mh_ixR (k := 4) (by decide) (by decide) (by show j < mh_n 4; unfold mh_n; simp; omega)) (i := 4) (x := y) (by unfold vp_in; decide) dX6_work_93 (fun H locs hW hS hz hq => ?_)
            rw [show (4 : Int32).toNatClampNeg = 4 from by decide] at hW
            have hW : mh_W D d.1 cB L (hs_sg ρ 14 j 4 y) A H := hW
            have hM : mm_W D d cB L m0 0 (hs_sg ρ 14 j 4 y) A H := ⟨hM.1.kept (hq _ (fun z => hM.2.2.2 14 j (mh_ixR (k := 4) (by decide) (by decide) (by show j < mh_n 4; unfold mh_n; simp; omega)) z.symm)), hW, hM.2.2⟩
            refine lv_iload hx hb dX6_work_94 (lv_at hl 0 rfl) ?_
            exact W.iret (v := ((mp_hands ρ F) - (ρ 14 j 4)) + y) hx hb hr (fun t ht hW9 => ⟨⟨((mp_hands ρ F) - (ρ 14 j 4)) + y, (0, hs_sg ρ 14 j 4 y), rfl, (by have hcl := nI_clamp (n := j) (by omega); show if mp_in (nI j) 0 (nI F - 1) = 0 then _ else if mp_in y 0 9 = 0 then _ else if ρ 14 (nI j).toNatClampNeg 2 = 6 ∨ ρ 14 (nI j).toNatClampNeg 7 = 7 ∨ ¬ mp_hands ρ F - ρ 14 (nI j).toNatClampNeg 4 + y ≤ 12 then _ else mp_hands ρ F - ρ 14 (nI j).toNatClampNeg 4 + y = _ ∧ _ ∧ hs_sg ρ 14 (nI j).toNatClampNeg 4 y = _; rw [if_neg c_10, if_neg c_26, hcl, if_neg (fun z => z.elim c_65 (fun z => z.elim c_74 (fun z => z c_81)))]; exact ⟨rfl, rfl, rfl⟩), by show mm_W D d cB L m0 _ _ A t.heap; rw [ht]; exact hM⟩, hS.F ht⟩) hS.2.2 dX6_work_96
          · refine lv_aload_n hx hb dX6_work_84 rfl (lv_at hl 2 rfl) ?_
            refine lv_iconst (v := 3) hx hb dX6_work_85 (by decide) ?_
            refine mm_calli (As := [.int 3]) ⟨hx, hb, hml, hown, hts⟩ (kX6_no l D d cB L m0 (0 : Int32) ρ A H.size 3) (cwV 1 hts gX6_work_X6_no rfl rfl rfl (by decide +kernel) ⟨Nat.le_of_ble_eq_true rfl, Nat.le_of_ble_eq_true rfl⟩) hKK hM hS rfl hl.1 (Nat.le_of_ble_eq_true rfl) dX6_work_86 ⟨Nat.le_of_ble_eq_true rfl, Nat.le_of_ble_eq_true rfl⟩ rfl (fun r_ X_ H locs hp hM hz hS => ?_)
            obtain ⟨t_, τ_⟩ := X_
            obtain ⟨e1_, e2_, e3_⟩ := hp
            have e2_ : (3 : Int32) = t_ := e2_
            have e3_ : ρ = τ_ := e3_
            subst e1_ e2_ e3_
            have hM : mm_W D d cB L m0 3 ρ A H := hM
            have hW := hM.2.1
            exact W.iret (v := 0) hx hb hr (fun t ht hW9 => ⟨⟨0, (3, ρ), rfl, (by have hcl := nI_clamp (n := j) (by omega); show if mp_in (nI j) 0 (nI F - 1) = 0 then _ else if mp_in y 0 9 = 0 then _ else if ρ 14 (nI j).toNatClampNeg 2 = 6 ∨ ρ 14 (nI j).toNatClampNeg 7 = 7 ∨ ¬ mp_hands ρ F - ρ 14 (nI j).toNatClampNeg 4 + y ≤ 12 then _ else mp_hands ρ F - ρ 14 (nI j).toNatClampNeg 4 + y = _ ∧ _ ∧ hs_sg ρ 14 (nI j).toNatClampNeg 4 y = _; rw [if_neg c_10, if_neg c_26, hcl, if_pos (Or.inr (Or.inr c_81))]; exact ⟨rfl, rfl, rfl⟩), by show mm_W D d cB L m0 _ _ A t.heap; rw [ht]; exact hM⟩, hS.F ht⟩) hS.2.2 dX6_work_89
    · refine lv_aload_n hx hb dX6_work_29 rfl (lv_at hl 0 rfl) ?_
      refine lv_iconst (v := 2) hx hb dX6_work_30 (by decide) ?_
      refine mm_calli (As := [.int 2]) ⟨hx, hb, hml, hown, hts⟩ (kX6_no l D d cB L m0 (0 : Int32) ρ A H.size 2) (cwV 1 hts gX6_work_X6_no rfl rfl rfl (by decide +kernel) ⟨Nat.le_of_ble_eq_true rfl, Nat.le_of_ble_eq_true rfl⟩) hKK hM hS rfl hl.1 (Nat.le_of_ble_eq_true rfl) dX6_work_31 ⟨Nat.le_of_ble_eq_true rfl, Nat.le_of_ble_eq_true rfl⟩ rfl (fun r_ X_ H locs hp hM hz hS => ?_)
      obtain ⟨t_, τ_⟩ := X_
      obtain ⟨e1_, e2_, e3_⟩ := hp
      have e2_ : (2 : Int32) = t_ := e2_
      have e3_ : ρ = τ_ := e3_
      subst e1_ e2_ e3_
      have hM : mm_W D d cB L m0 2 ρ A H := hM
      have hW := hM.2.1
      exact W.iret (v := 0) hx hb hr (fun t ht hW9 => ⟨⟨0, (2, ρ), rfl, (by show if mp_in x 0 (nI F - 1) = 0 then _ else if mp_in y 0 9 = 0 then _ else _; rw [if_neg c_10, if_pos c_26]; exact ⟨rfl, rfl, rfl⟩), by show mm_W D d cB L m0 _ _ A t.heap; rw [ht]; exact hM⟩, hS.F ht⟩) hS.2.2 dX6_work_34
  · refine lv_aload_n hx hb dX6_work_13 rfl (lv_at hl 0 rfl) ?_
    refine lv_iconst (v := 1) hx hb dX6_work_14 (by decide) ?_
    refine mm_calli (As := [.int 1]) ⟨hx, hb, hml, hown, hts⟩ (kX6_no l D d cB L m0 (0 : Int32) ρ A H.size 1) (cwV 1 hts gX6_work_X6_no rfl rfl rfl (by decide +kernel) ⟨Nat.le_of_ble_eq_true rfl, Nat.le_of_ble_eq_true rfl⟩) hKK hM hS rfl hl.1 (Nat.le_of_ble_eq_true rfl) dX6_work_15 ⟨Nat.le_of_ble_eq_true rfl, Nat.le_of_ble_eq_true rfl⟩ rfl (fun r_ X_ H locs hp hM hz hS => ?_)
    obtain ⟨t_, τ_⟩ := X_
    obtain ⟨e1_, e2_, e3_⟩ := hp
    have e2_ : (1 : Int32) = t_ := e2_
    have e3_ : ρ = τ_ := e3_
    subst e1_ e2_ e3_
    have hM : mm_W D d cB L m0 1 ρ A H := hM
    have hW := hM.2.1
    exact W.iret (v := 0) hx hb hr (fun t ht hW9 => ⟨⟨0, (1, ρ), rfl, (by show if mp_in x 0 (nI F - 1) = 0 then _ else _; rw [if_pos c_10]; exact ⟨rfl, rfl, rfl⟩), by show mm_W D d cB L m0 _ _ A t.heap; rw [ht]; exact hM⟩, hS.F ht⟩) hS.2.2 dX6_work_18
set_option maxHeartbeats 4000000 in
set_option maxRecDepth 100000 in
/-- the reference: X6_known -/
theorem kX6_known (l : Launch) (D : va_G) (d : hs_Dm) (cB : ClassId) (L : hs_Lo) (m0 : Nat) (th : Int32) (ρ : hs_St) (A : Nat → Prop) (sz : Nat) (P F R : Nat) (hok : mh_ok P F R ρ) (x y z : Int32) : mm_Mi l yX6_known wsX6_known ({ frames := 2, cells := 0, slots := 0, locals := 60 } : Room) D d cB L m0 th ρ A sz [.ref m0, .int x, .int y, .int z] (fun r X => if mp_in x 0 (nI P - 1) = 0 then (0 : Int32) = r ∧ (1 : Int32) = X.1 ∧ ρ = X.2 else if mp_in y 0 5 = 0 then (0 : Int32) = r ∧ (1 : Int32) = X.1 ∧ ρ = X.2 else (if z = 0 then ρ 12 x.toNatClampNeg y.toNatClampNeg else ρ 13 x.toNatClampNeg y.toNatClampNeg) = r ∧ (0 : Int32) = X.1 ∧ ρ = X.2) 0 0 := by
  refine Met.ofW (cc := cX6_known) (maxL := 4) (ret := (some .int)) (by decide) rfl ?_
  intro p e s m args below meth c0 s₁ B hml hv
  obtain ⟨rfl, hsz, hM, hKK⟩ := hv
  have hx := B.exec
  have hb := B.bytes
  have hr := B.returns
  have hts := atoms_spec (ws := wsX6_known) B.pre
  have hown : s.vm.findClass RX6 = some m.cls := findClass_of_methodNamed B.named
  have hlocks := B.notSynchronized
  have hS : va_S A s.heap s.heap [] := va_S.rf
  have hl := lv_entry ([.ref m0, .int x, .int y, .int z]) (n := 4) (Nat.le_of_ble_eq_true rfl)
  rw [lg_entry_eq]
  generalize (lg_sl ([.ref m0, .int x, .int y, .int z]) ++ List.replicate (4 - (lg_sl ([.ref m0, .int x, .int y, .int z])).length) Slot.unset).toArray = ls at hl ⊢
  have hl : lv_has ls 4 [(0, .ref m0), (1, .int x), (2, .int y), (3, .int z)] := hl
  refine lv_aload_n hx hb dX6_known_0 rfl (lv_at hl 0 rfl) ?_
  refine lv_iconst (v := 0) hx hb dX6_known_1 (by decide) ?_
  refine mm_putt hx hb hts (by decide +kernel) hown hKK.1 hM hS (hts (.fieldLink RX6 16 "WaxrowModel" "thrown" "I") (by decide +kernel)) (0 : Int32) dX6_known_2 (fun H locs hM hS hz => ?_)
  have hM : mm_W D d cB L m0 0 ρ A H := hM
  have hW := hM.2.1
  refine lv_aload_n hx hb dX6_known_5 rfl (lv_at hl 0 rfl) ?_
  refine lv_iload_n hx hb dX6_known_6 rfl (lv_at hl 1 rfl) ?_
  refine mm_calli (As := [.int x]) ⟨hx, hb, hml, hown, hts⟩ (kX6_isPerson l D d cB L m0 (0 : Int32) ρ A H.size P F R hok x) (cwV 1 hts gX6_known_X6_isPerson rfl rfl rfl (by decide +kernel) ⟨Nat.le_of_ble_eq_true rfl, Nat.le_of_ble_eq_true rfl⟩) hKK hM hS rfl hl.1 (Nat.le_of_ble_eq_true rfl) dX6_known_7 ⟨Nat.le_of_ble_eq_true rfl, Nat.le_of_ble_eq_true rfl⟩ rfl (fun r_ X_ H locs hp hM hz hS => ?_)
  obtain ⟨t_, τ_⟩ := X_
  obtain ⟨e1_, e2_, e3_⟩ := hp
  have e2_ : (0 : Int32) = t_ := e2_
  have e3_ : ρ = τ_ := e3_
  subst e1_ e2_ e3_
  have hM : mm_W D d cB L m0 0 ρ A H := hM
  have hW := hM.2.1
  refine lv_if_eq (tgt := 22) hx hb dX6_known_10 (by decide) (fun c_10 => ?_) (fun c_10 => ?_)
  · refine lv_aload_n hx hb dX6_known_22 rfl (lv_at hl 0 rfl) ?_
    refine lv_iconst (v := 1) hx hb dX6_known_23 (by decide) ?_
    refine mm_calli (As := [.int 1]) ⟨hx, hb, hml, hown, hts⟩ (kX6_no l D d cB L m0 (0 : Int32) ρ A H.size 1) (cwV 1 hts gX6_known_X6_no rfl rfl rfl (by decide +kernel) ⟨Nat.le_of_ble_eq_true rfl, Nat.le_of_ble_eq_true rfl⟩) hKK hM hS rfl hl.1 (Nat.le_of_ble_eq_true rfl) dX6_known_24 ⟨Nat.le_of_ble_eq_true rfl, Nat.le_of_ble_eq_true rfl⟩ rfl (fun r_ X_ H locs hp hM hz hS => ?_)
    obtain ⟨t_, τ_⟩ := X_
    obtain ⟨e1_, e2_, e3_⟩ := hp
    have e2_ : (1 : Int32) = t_ := e2_
    have e3_ : ρ = τ_ := e3_
    subst e1_ e2_ e3_
    have hM : mm_W D d cB L m0 1 ρ A H := hM
    have hW := hM.2.1
    exact W.iret (v := 0) hx hb hr (fun t ht hW9 => ⟨⟨0, (1, ρ), rfl, (by show if mp_in x 0 (nI P - 1) = 0 then _ else _; rw [if_pos c_10]; exact ⟨rfl, rfl, rfl⟩), by show mm_W D d cB L m0 _ _ A t.heap; rw [ht]; exact hM⟩, hS.F ht⟩) hS.2.2 dX6_known_27
  · refine lv_iload_n hx hb dX6_known_13 rfl (lv_at hl 2 rfl) ?_
    refine lv_iconst (v := 0) hx hb dX6_known_14 (by decide) ?_
    refine lv_iconst (v := 5) hx hb dX6_known_15 (by decide) ?_
    refine mm_pure (As := [.int y, .int 0, .int 5]) ⟨hx, hb, hml, hown, hts⟩ (kX6_in l (y) (0) (5)) (va_cwS 3 hts gX6_known_X6_in rfl rfl rfl (by decide +kernel) ⟨Nat.le_of_ble_eq_true rfl, Nat.le_of_ble_eq_true rfl⟩) hM hS rfl hl.1 (Nat.le_of_ble_eq_true rfl) dX6_known_16 ⟨Nat.le_of_ble_eq_true rfl, Nat.le_of_ble_eq_true rfl⟩ rfl (fun r_ H locs hp hM hz hS => ?_)
    subst hp
    have hM : mm_W D d cB L m0 0 ρ A H := hM
    have hW := hM.2.1
    refine lv_if_ne (tgt := 28) hx hb dX6_known_19 (by decide) (fun c_19 => ?_) (fun c_19 => ?_)
    · obtain ⟨b, hb3, eb⟩ := mp_in_le (n := 5) (by decide) c_19
      subst eb
      have hb9 := hok.1
      obtain ⟨j, hj, ej⟩ := mp_in_ix (by omega) c_10
      subst ej
      refine lv_iload_n hx hb dX6_known_28 rfl (lv_at hl 3 rfl) ?_
      refine lv_if_eq (tgt := 42) hx hb dX6_known_29 (by decide) (fun c_29 => ?_) (fun c_29 => ?_)
      · refine lv_aload_n hx hb dX6_known_42 rfl (lv_at hl 0 rfl) ?_
        refine mm_house hx hb hts (by decide +kernel) hown hKK.1 hM (hts (.fieldLink RX6 10 "WaxrowModel" "house" "LWaxrowModel$House;") (by decide +kernel)) dX6_known_43 ?_
        have hW := hM.2.1
        refine mh_get hx hb hts (by decide +kernel) hown hKK.1 hW 1 (by decide) (hts (.fieldLink RX6 67 "WaxrowModel$House" "low" "[[I") (by decide +kernel)) rfl (v := .ref (L 2 0)) rfl dX6_known_46 ?_
        refine lv_iload_n hx hb dX6_known_49 rfl (lv_at hl 1 rfl) ?_
        refine mh_aald hx hb hKK.2.1 hW 2 j (by decide) (by decide) (by show j < mh_n 2; unfold mh_n; simp; omega) dX6_known_50 ?_
        refine lv_iload_n hx hb dX6_known_51 rfl (lv_at hl 2 rfl) ?_
        refine mh_iald hx hb hKK.1 hW 12 j (by decide) (mh_ixR (k := 2) (by decide) (by decide) (by show j < mh_n 2; unfold mh_n; simp; omega)) (i := nI b) (by unfold vp_in; exact nI_in (show b < 6 by omega) (by decide)) dX6_known_52 ?_
        rw [show (nI b : Int32).toNatClampNeg = b from nI_clamp (by omega)]
        exact W.iret (v := ρ 12 j b) hx hb hr (fun t ht hW9 => ⟨⟨ρ 12 j b, (0, ρ), rfl, (by have hcl := nI_clamp (n := j) (by omega); have hcl2 := nI_clamp (n := b) (by omega); show if mp_in (nI j) 0 (nI P - 1) = 0 then _ else if mp_in (nI b) 0 5 = 0 then _ else (if z = 0 then ρ 12 (nI j).toNatClampNeg b else ρ 13 (nI j).toNatClampNeg b) = _ ∧ _ ∧ _; rw [if_neg c_10, if_neg c_19, hcl, if_pos c_29]; exact ⟨rfl, rfl, rfl⟩), by show mm_W D d cB L m0 _ _ A t.heap; rw [ht]; exact hM⟩, hS.F ht⟩) hS.2.2 dX6_known_53
      · refine lv_aload_n hx hb dX6_known_32 rfl (lv_at hl 0 rfl) ?_
        refine mm_house hx hb hts (by decide +kernel) hown hKK.1 hM (hts (.fieldLink RX6 10 "WaxrowModel" "house" "LWaxrowModel$House;") (by decide +kernel)) dX6_known_33 ?_
        have hW := hM.2.1
        refine mh_get hx hb hts (by decide +kernel) hown hKK.1 hW 2 (by decide) (hts (.fieldLink RX6 50 "WaxrowModel$House" "high" "[[I") (by decide +kernel)) rfl (v := .ref (L 3 0)) rfl dX6_known_36 ?_
        refine lv_goto (tgt := 49) hx hb dX6_known_39 (by decide) ?_
        refine lv_iload_n hx hb dX6_known_49 rfl (lv_at hl 1 rfl) ?_
        refine mh_aald hx hb hKK.2.1 hW 3 j (by decide) (by decide) (by show j < mh_n 3; unfold mh_n; simp; omega) dX6_known_50 ?_
        refine lv_iload_n hx hb dX6_known_51 rfl (lv_at hl 2 rfl) ?_
        refine mh_iald hx hb hKK.1 hW 13 j (by decide) (mh_ixR (k := 3) (by decide) (by decide) (by show j < mh_n 3; unfold mh_n; simp; omega)) (i := nI b) (by unfold vp_in; exact nI_in (show b < 6 by omega) (by decide)) dX6_known_52 ?_
        rw [show (nI b : Int32).toNatClampNeg = b from nI_clamp (by omega)]
        exact W.iret (v := ρ 13 j b) hx hb hr (fun t ht hW9 => ⟨⟨ρ 13 j b, (0, ρ), rfl, (by have hcl := nI_clamp (n := j) (by omega); have hcl2 := nI_clamp (n := b) (by omega); show if mp_in (nI j) 0 (nI P - 1) = 0 then _ else if mp_in (nI b) 0 5 = 0 then _ else (if z = 0 then ρ 12 (nI j).toNatClampNeg b else ρ 13 (nI j).toNatClampNeg b) = _ ∧ _ ∧ _; rw [if_neg c_10, if_neg c_19, hcl, if_neg c_29]; exact ⟨rfl, rfl, rfl⟩), by show mm_W D d cB L m0 _ _ A t.heap; rw [ht]; exact hM⟩, hS.F ht⟩) hS.2.2 dX6_known_53
    · refine lv_aload_n hx hb dX6_known_22 rfl (lv_at hl 0 rfl) ?_
      refine lv_iconst (v := 1) hx hb dX6_known_23 (by decide) ?_
      refine mm_calli (As := [.int 1]) ⟨hx, hb, hml, hown, hts⟩ (kX6_no l D d cB L m0 (0 : Int32) ρ A H.size 1) (cwV 1 hts gX6_known_X6_no rfl rfl rfl (by decide +kernel) ⟨Nat.le_of_ble_eq_true rfl, Nat.le_of_ble_eq_true rfl⟩) hKK hM hS rfl hl.1 (Nat.le_of_ble_eq_true rfl) dX6_known_24 ⟨Nat.le_of_ble_eq_true rfl, Nat.le_of_ble_eq_true rfl⟩ rfl (fun r_ X_ H locs hp hM hz hS => ?_)
      obtain ⟨t_, τ_⟩ := X_
      obtain ⟨e1_, e2_, e3_⟩ := hp
      have e2_ : (1 : Int32) = t_ := e2_
      have e3_ : ρ = τ_ := e3_
      subst e1_ e2_ e3_
      have hM : mm_W D d cB L m0 1 ρ A H := hM
      have hW := hM.2.1
      exact W.iret (v := 0) hx hb hr (fun t ht hW9 => ⟨⟨0, (1, ρ), rfl, (by show if mp_in x 0 (nI P - 1) = 0 then _ else if mp_in y 0 5 = 0 then _ else _; rw [if_neg c_10, if_pos c_19]; exact ⟨rfl, rfl, rfl⟩), by show mm_W D d cB L m0 _ _ A t.heap; rw [ht]; exact hM⟩, hS.F ht⟩) hS.2.2 dX6_known_27
