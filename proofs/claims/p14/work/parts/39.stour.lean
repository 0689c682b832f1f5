/-! THE REFERENCE'S tour -/
def mp_tour (ρ : hs_St) (f : Nat) (y z : Int32) : hs_St := hs_sg (hs_sg (hs_sg ρ 14 f 7 6) 14 f 9 y) 14 f 8 z
def mp_tourP (F : Nat) (ρ : hs_St) (x y z : Int32) (r : Int32) (X : mm_X) : Prop := if mp_in x 0 (nI F - 1) = 0 then ((0 : Int32) = r ∧ (1 : Int32) = X.1 ∧ ρ = X.2) else if mp_in y 1 2 = 0 then ((0 : Int32) = r ∧ (2 : Int32) = X.1 ∧ ρ = X.2) else if mp_in z 1 60 = 0 then ((0 : Int32) = r ∧ (2 : Int32) = X.1 ∧ ρ = X.2) else if mp_hand ρ x.toNatClampNeg = 0 ∨ ρ 11 (ρ 14 x.toNatClampNeg 0).toNatClampNeg 6 = 0 then ((0 : Int32) = r ∧ (3 : Int32) = X.1 ∧ ρ = X.2) else (mp_like (mp_tour ρ x.toNatClampNeg y z) x.toNatClampNeg = r ∧ (0 : Int32) = X.1 ∧ mp_tour ρ x.toNatClampNeg y z = X.2)
theorem mp_tourP3 {F : Nat} {ρ : hs_St} {x y z : Int32} {j : Nat} (e : x = nI j) (hj : j < 2 ^ 31) (c1 : ¬ mp_in x 0 (nI F - 1) = 0) (c2 : ¬ mp_in y 1 2 = 0) (c3 : ¬ mp_in z 1 60 = 0) (c4 : mp_hand ρ j = 0 ∨ ρ 11 (ρ 14 j 0).toNatClampNeg 6 = 0) : mp_tourP F ρ x y z 0 (3, ρ) := by
  unfold mp_tourP
  rw [if_neg c1, if_neg c2, if_neg c3, e, nI_clamp hj, if_pos c4]
  exact ⟨rfl, rfl, rfl⟩
theorem mp_tourP0 {F : Nat} {ρ : hs_St} {x y z : Int32} {j : Nat} (e : x = nI j) (hj : j < 2 ^ 31) (c1 : ¬ mp_in x 0 (nI F - 1) = 0) (c2 : ¬ mp_in y 1 2 = 0) (c3 : ¬ mp_in z 1 60 = 0) (c4 : ¬ (mp_hand ρ j = 0 ∨ ρ 11 (ρ 14 j 0).toNatClampNeg 6 = 0)) : mp_tourP F ρ x y z (mp_like (mp_tour ρ j y z) j) (0, mp_tour ρ j y z) := by
  unfold mp_tourP
  rw [if_neg c1, if_neg c2, if_neg c3, e, nI_clamp hj, if_neg c4]
  exact ⟨rfl, rfl, rfl⟩
theorem mp_tourP1 {F : Nat} {ρ : hs_St} {x y z : Int32} (c1 : mp_in x 0 (nI F - 1) = 0) : mp_tourP F ρ x y z 0 (1, ρ) := by
  unfold mp_tourP
  rw [if_pos c1]
  exact ⟨rfl, rfl, rfl⟩
theorem mp_tourP2 {F : Nat} {ρ : hs_St} {x y z : Int32} (c1 : ¬ mp_in x 0 (nI F - 1) = 0) (c2 : mp_in y 1 2 = 0 ∨ (¬ mp_in y 1 2 = 0 ∧ mp_in z 1 60 = 0)) : mp_tourP F ρ x y z 0 (2, ρ) := by
  unfold mp_tourP
  rcases c2 with c2 | ⟨c2, c3⟩
  · rw [if_neg c1, if_pos c2]
    exact ⟨rfl, rfl, rfl⟩
  · rw [if_neg c1, if_neg c2, if_pos c3]
    exact ⟨rfl, rfl, rfl⟩
set_option maxHeartbeats 4000000 in
set_option maxRecDepth 100000 in
/-- the reference: X6_tour -/
theorem kX6_tour (l : Launch) (D : va_G) (d : hs_Dm) (cB : ClassId) (L : hs_Lo) (m0 : Nat) (th : Int32) (ρ : hs_St) (A : Nat → Prop) (sz : Nat) (P F R : Nat) (hok : mh_ok P F R ρ) (x y z : Int32) : mm_Mi l yX6_tour wsX6_tour ({ frames := 3, cells := 0, slots := 0, locals := 80 } : Room) D d cB L m0 th ρ A sz [.ref m0, .int x, .int y, .int z] (fun r X => mp_tourP F ρ x y z r X) 0 0 := by
  refine Met.ofW (cc := cX6_tour) (maxL := 5) (ret := (some .int)) (by decide) rfl ?_
  intro p e s m args below meth c0 s₁ B hml hv
  obtain ⟨rfl, hsz, hM, hKK⟩ := hv
  have hx := B.exec
  have hb := B.bytes
  have hr := B.returns
  have hts := atoms_spec (ws := wsX6_tour) B.pre
  have hown : s.vm.findClass RX6 = some m.cls := findClass_of_methodNamed B.named
  have hlocks := B.notSynchronized
  have hS : va_S A s.heap s.heap [] := va_S.rf
  have hl := lv_entry ([.ref m0, .int x, .int y, .int z]) (n := 5) (Nat.le_of_ble_eq_true rfl)
  rw [lg_entry_eq]
  generalize (lg_sl ([.ref m0, .int x, .int y, .int z]) ++ List.replicate (5 - (lg_sl ([.ref m0, .int x, .int y, .int z])).length) Slot.unset).toArray = ls at hl ⊢
  have hl : lv_has ls 5 [(0, .ref m0), (1, .int x), (2, .int y), (3, .int z)] := hl
  refine lv_aload_n hx hb dX6_tour_0 rfl (lv_at hl 0 rfl) ?_
  refine lv_iconst (v := 0) hx hb dX6_tour_1 (by decide) ?_
  refine mm_putt hx hb hts (by decide +kernel) hown hKK.1 hM hS (hts (.fieldLink RX6 16 "WaxrowModel" "thrown" "I") (by decide +kernel)) (0 : Int32) dX6_tour_2 (fun H locs hM hS hz => ?_)
  have hM : mm_W D d cB L m0 0 ρ A H := hM
  have hW := hM.2.1
  refine lv_aload_n hx hb dX6_tour_5 rfl (lv_at hl 0 rfl) ?_
  refine lv_iload_n hx hb dX6_tour_6 rfl (lv_at hl 1 rfl) ?_
  refine mm_calli (As := [.int x]) ⟨hx, hb, hml, hown, hts⟩ (kX6_isFigure l D d cB L m0 (0 : Int32) ρ A H.size P F R hok x) (cwV 1 hts gX6_tour_X6_isFigure rfl rfl rfl (by decide +kernel) ⟨Nat.le_of_ble_eq_true rfl, Nat.le_of_ble_eq_true rfl⟩) hKK hM hS rfl hl.1 (Nat.le_of_ble_eq_true rfl) dX6_tour_7 ⟨Nat.le_of_ble_eq_true rfl, Nat.le_of_ble_eq_true rfl⟩ rfl (fun r_ X_ H locs hp hM hz hS => ?_)
  obtain ⟨t_, τ_⟩ := X_
  obtain ⟨e1_, e2_, e3_⟩ := hp
  have e2_ : (0 : Int32) = t_ := e2_
  have e3_ : ρ = τ_ := e3_
  subst e1_ e2_ e3_
  have hM : mm_W D d cB L m0 0 ρ A H := hM
  have hW := hM.2.1
  refine lv_if_ne (tgt := 19) hx hb dX6_tour_10 (by decide) (fun c_10 => ?_) (fun c_10 => ?_)
  · refine lv_iload_n hx hb dX6_tour_19 rfl (lv_at hl 2 rfl) ?_
    refine lv_iconst (v := 1) hx hb dX6_tour_20 (by decide) ?_
    refine lv_iconst (v := 2) hx hb dX6_tour_21 (by decide) ?_
    refine mm_pure (As := [.int y, .int 1, .int 2]) ⟨hx, hb, hml, hown, hts⟩ (kX6_in l (y) (1) (2)) (va_cwS 3 hts gX6_tour_X6_in rfl rfl rfl (by decide +kernel) ⟨Nat.le_of_ble_eq_true rfl, Nat.le_of_ble_eq_true rfl⟩) hM hS rfl hl.1 (Nat.le_of_ble_eq_true rfl) dX6_tour_22 ⟨Nat.le_of_ble_eq_true rfl, Nat.le_of_ble_eq_true rfl⟩ rfl (fun r_ H locs hp hM hz hS => ?_)
    subst hp
    have hM : mm_W D d cB L m0 0 ρ A H := hM
    have hW := hM.2.1
    refine lv_if_eq (tgt := 38) hx hb dX6_tour_25 (by decide) (fun c_25 => ?_) (fun c_25 => ?_)
    · refine lv_aload_n hx hb dX6_tour_38 rfl (lv_at hl 0 rfl) ?_
      refine lv_iconst (v := 2) hx hb dX6_tour_39 (by decide) ?_
      refine mm_calli (As := [.int 2]) ⟨hx, hb, hml, hown, hts⟩ (kX6_no l D d cB L m0 (0 : Int32) ρ A H.size 2) (cwV 1 hts gX6_tour_X6_no rfl rfl rfl (by decide +kernel) ⟨Nat.le_of_ble_eq_true rfl, Nat.le_of_ble_eq_true rfl⟩) hKK hM hS rfl hl.1 (Nat.le_of_ble_eq_true rfl) dX6_tour_40 ⟨Nat.le_of_ble_eq_true rfl, Nat.le_of_ble_eq_true rfl⟩ rfl (fun r_ X_ H locs hp hM hz hS => ?_)
      obtain ⟨t_, τ_⟩ := X_
      obtain ⟨e1_, e2_, e3_⟩ := hp
      have e2_ : (2 : Int32) = t_ := e2_
      have e3_ : ρ = τ_ := e3_
      subst e1_ e2_ e3_
      have hM : mm_W D d cB L m0 2 ρ A H := hM
      have hW := hM.2.1
      exact W.iret (v := 0) hx hb hr (fun t ht hW9 => ⟨⟨0, (2, ρ), rfl, (mp_tourP2 c_10 (Or.inl c_25)), by show mm_W D d cB L m0 _ _ A t.heap; rw [ht]; exact hM⟩, hS.F ht⟩) hS.2.2 dX6_tour_43
    · refine lv_iload_n hx hb dX6_tour_28 rfl (lv_at hl 3 rfl) ?_
      refine lv_iconst (v := 1) hx hb dX6_tour_29 (by decide) ?_
      refine lv_bipush (v := 60) hx hb dX6_tour_30 (by decide) ?_
      refine mm_pure (As := [.int z, .int 1, .int 60]) ⟨hx, hb, hml, hown, hts⟩ (kX6_in l (z) (1) (60)) (va_cwS 3 hts gX6_tour_X6_in rfl rfl rfl (by decide +kernel) ⟨Nat.le_of_ble_eq_true rfl, Nat.le_of_ble_eq_true rfl⟩) hM hS rfl hl.1 (Nat.le_of_ble_eq_true rfl) dX6_tour_32 ⟨Nat.le_of_ble_eq_true rfl, Nat.le_of_ble_eq_true rfl⟩ rfl (fun r_ H locs hp hM hz hS => ?_)
      subst hp
      have hM : mm_W D d cB L m0 0 ρ A H := hM
      have hW := hM.2.1
      refine lv_if_ne (tgt := 44) hx hb dX6_tour_35 (by decide) (fun c_35 => ?_) (fun c_35 => ?_)
      · have hb9 := hok.2.1
        obtain ⟨j, hj, ej⟩ := mp_in_ix (by omega) c_10
        subst ej
        have h10 := hok.1
        obtain ⟨⟨h0, h0l, h0e⟩, ⟨h1, h1l, h1e⟩, -⟩ := hok.2.2.2.2.2.2 j hj
        have hcl := nI_clamp (n := j) (by omega)
        have hc0 : (ρ 14 j 0).toNatClampNeg = h0 := by rw [h0e]; exact nI_clamp (by omega)
        refine lv_aload_n hx hb dX6_tour_44 rfl (lv_at hl 0 rfl) ?_
        refine mm_house hx hb hts (by decide +kernel) hown hKK.1 hM (hts (.fieldLink RX6 10 "WaxrowModel" "house" "LWaxrowModel$House;") (by decide +kernel)) dX6_tour_45 ?_
        have hW := hM.2.1
        refine mh_get hx hb hts (by decide +kernel) hown hKK.1 hW 3 (by decide) (hts (.fieldLink RX6 60 "WaxrowModel$House" "figures" "[[I") (by decide +kernel)) rfl (v := .ref (L 4 0)) rfl dX6_tour_48 ?_
        refine lv_iload_n hx hb dX6_tour_51 rfl (lv_at hl 1 rfl) ?_
        refine mh_aald hx hb hKK.2.1 hW 4 j (by decide) (by decide) (by show j < mh_n 4; unfold mh_n; simp; omega) dX6_tour_52 ?_
        refine lv_astore (lv' := [(4, .ref (L 14 j)), (0, .ref m0), (1, .int (nI j)), (2, .int y), (3, .int z)]) hx hb dX6_tour_53 hl (by decide) rfl (fun ls hl => ?_)
        refine lv_aload_n hx hb dX6_tour_55 rfl (lv_at hl 1 rfl) ?_
        refine lv_aload hx hb dX6_tour_56 (lv_at hl 0 rfl) ?_
        refine mm_calli (As := [.ref (L 14 j)]) ⟨hx, hb, hml, hown, hts⟩ (kX6_isAtHand l D d cB L m0 (0 : Int32) ρ A H.size j (by omega)) (cwV 1 hts gX6_tour_X6_isAtHand rfl rfl rfl (by decide +kernel) ⟨Nat.le_of_ble_eq_true rfl, Nat.le_of_ble_eq_true rfl⟩) hKK hM hS rfl hl.1 (Nat.le_of_ble_eq_true rfl) dX6_tour_58 ⟨Nat.le_of_ble_eq_true rfl, Nat.le_of_ble_eq_true rfl⟩ rfl (fun r_ X_ H locs hp hM hz hS => ?_)
        obtain ⟨t_, τ_⟩ := X_
        obtain ⟨e1_, e2_, e3_⟩ := hp
        have e2_ : (0 : Int32) = t_ := e2_
        have e3_ : ρ = τ_ := e3_
        subst e1_ e2_ e3_
        have hM : mm_W D d cB L m0 0 ρ A H := hM
        have hW := hM.2.1
        refine lv_if_eq (tgt := 82) hx hb dX6_tour_61 (by decide) (fun c_61 => ?_) (fun c_61 => ?_)
        · refine lv_aload_n hx hb dX6_tour_82 rfl (lv_at hl 1 rfl) ?_
          refine lv_iconst (v := 3) hx hb dX6_tour_83 (by decide) ?_
          refine mm_calli (As := [.int 3]) ⟨hx, hb, hml, hown, hts⟩ (kX6_no l D d cB L m0 (0 : Int32) ρ A H.size 3) (cwV 1 hts gX6_tour_X6_no rfl rfl rfl (by decide +kernel) ⟨Nat.le_of_ble_eq_true rfl, Nat.le_of_ble_eq_true rfl⟩) hKK hM hS rfl hl.1 (Nat.le_of_ble_eq_true rfl) dX6_tour_84 ⟨Nat.le_of_ble_eq_true rfl, Nat.le_of_ble_eq_true rfl⟩ rfl (fun r_ X_ H locs hp hM hz hS => ?_)
          obtain ⟨t_, τ_⟩ := X_
          obtain ⟨e1_, e2_, e3_⟩ := hp
          have e2_ : (3 : Int32) = t_ := e2_
          have e3_ : ρ = τ_ := e3_
          subst e1_ e2_ e3_
          have hM : mm_W D d cB L m0 3 ρ A H := hM
          have hW := hM.2.1
          exact W.iret (v := 0) hx hb hr (fun t ht hW9 => ⟨⟨0, (3, ρ), rfl, (mp_tourP3 (j := j) rfl (by omega) c_10 c_25 c_35 (Or.inl c_61)), by show mm_W D d cB L m0 _ _ A t.heap; rw [ht]; exact hM⟩, hS.F ht⟩) hS.2.2 dX6_tour_87
        · refine lv_aload_n hx hb dX6_tour_64 rfl (lv_at hl 1 rfl) ?_
          refine mm_house hx hb hts (by decide +kernel) hown hKK.1 hM (hts (.fieldLink RX6 10 "WaxrowModel" "house" "LWaxrowModel$House;") (by decide +kernel)) dX6_tour_65 ?_
          have hW := hM.2.1
          refine mh_get hx hb hts (by decide +kernel) hown hKK.1 hW 0 (by decide) (hts (.fieldLink RX6 46 "WaxrowModel$House" "persons" "[[I") (by decide +kernel)) rfl (v := .ref (L 1 0)) rfl dX6_tour_68 ?_
          refine lv_aload hx hb dX6_tour_71 (lv_at hl 0 rfl) ?_
          refine lv_iconst (v := 0) hx hb dX6_tour_73 (by decide) ?_
          refine mh_iald hx hb hKK.1 hW 14 j (by decide) (mh_ixR (k := 4) (by decide) (by decide) (by show j < mh_n 4; unfold mh_n; simp; omega)) (i := 0) (by unfold vp_in; decide) dX6_tour_74 ?_
          rw [show (0 : Int32).toNatClampNeg = 0 from by decide]
          rw [h0e]
          refine mh_aald hx hb hKK.2.1 hW 1 h0 (by decide) (by decide) (by show h0 < mh_n 1; unfold mh_n; simp; omega) dX6_tour_75 ?_
          refine lv_bipush (v := 6) hx hb dX6_tour_76 (by decide) ?_
          refine mh_iald hx hb hKK.1 hW 11 h0 (by decide) (mh_ixR (k := 1) (by decide) (by decide) (by show h0 < mh_n 1; unfold mh_n; simp; omega)) (i := 6) (by unfold vp_in; decide) dX6_tour_78 ?_
          rw [show (6 : Int32).toNatClampNeg = 6 from by decide]
          refine lv_if_ne (tgt := 88) hx hb dX6_tour_79 (by decide) (fun c_79 => ?_) (fun c_79 => ?_)
          · refine lv_aload hx hb dX6_tour_88 (lv_at hl 0 rfl) ?_
            refine lv_bipush (v := 7) hx hb dX6_tour_90 (by decide) ?_
            refine lv_bipush (v := 6) hx hb dX6_tour_92 (by decide) ?_
            have hW := hM.2.1
            refine mh_iast hx hb hKK.1 hW hS 14 j (by decide) (mh_ixR (k := 4) (by decide) (by decide) (by show j < mh_n 4; unfold mh_n; simp; omega)) (i := 7) (x := 6) (by unfold vp_in; decide) dX6_tour_94 (fun H locs hW hS hz hq => ?_)
            rw [show (7 : Int32).toNatClampNeg = 7 from by decide] at hW
            have hW : mh_W D d.1 cB L (hs_sg ρ 14 j 7 (6 : Int32)) A H := hW
            have hM : mm_W D d cB L m0 0 (hs_sg ρ 14 j 7 (6 : Int32)) A H := ⟨hM.1.kept (hq _ (fun z => hM.2.2.2 14 j (mh_ixR (k := 4) (by decide) (by decide) (by show j < mh_n 4; unfold mh_n; simp; omega)) z.symm)), hW, hM.2.2⟩
            refine lv_aload hx hb dX6_tour_95 (lv_at hl 0 rfl) ?_
            refine lv_bipush (v := 9) hx hb dX6_tour_97 (by decide) ?_
            refine lv_iload_n hx hb dX6_tour_99 rfl (lv_at hl 3 rfl) ?_
            have hW := hM.2.1
            refine mh_iast hx hb hKK.1 hW hS 14 j (by decide) (mh_ixR (k := 4) (by decide) (by decide) (by show j < mh_n 4; unfold mh_n; simp; omega)) (i := 9) (x := y) (by unfold vp_in; decide) dX6_tour_100 (fun H locs hW hS hz hq => ?_)
            rw [show (9 : Int32).toNatClampNeg = 9 from by decide] at hW
            have hW : mh_W D d.1 cB L (hs_sg (hs_sg ρ 14 j 7 (6 : Int32)) 14 j 9 y) A H := hW
            have hM : mm_W D d cB L m0 0 (hs_sg (hs_sg ρ 14 j 7 (6 : Int32)) 14 j 9 y) A H := ⟨hM.1.kept (hq _ (fun z => hM.2.2.2 14 j (mh_ixR (k := 4) (by decide) (by decide) (by show j < mh_n 4; unfold mh_n; simp; omega)) z.symm)), hW, hM.2.2⟩
            refine lv_aload hx hb dX6_tour_101 (lv_at hl 0 rfl) ?_
            refine lv_bipush (v := 8) hx hb dX6_tour_103 (by decide) ?_
            refine lv_iload_n hx hb dX6_tour_105 rfl (lv_at hl 4 rfl) ?_
            have hW := hM.2.1
            refine mh_iast hx hb hKK.1 hW hS 14 j (by decide) (mh_ixR (k := 4) (by decide) (by decide) (by show j < mh_n 4; unfold mh_n; simp; omega)) (i := 8) (x := z) (by unfold vp_in; decide) dX6_tour_106 (fun H locs hW hS hz hq => ?_)
            rw [show (8 : Int32).toNatClampNeg = 8 from by decide] at hW
            have hW : mh_W D d.1 cB L (hs_sg (hs_sg (hs_sg ρ 14 j 7 (6 : Int32)) 14 j 9 y) 14 j 8 z) A H := hW
            have hM : mm_W D d cB L m0 0 (hs_sg (hs_sg (hs_sg ρ 14 j 7 (6 : Int32)) 14 j 9 y) 14 j 8 z) A H := ⟨hM.1.kept (hq _ (fun z => hM.2.2.2 14 j (mh_ixR (k := 4) (by decide) (by decide) (by show j < mh_n 4; unfold mh_n; simp; omega)) z.symm)), hW, hM.2.2⟩
            refine lv_aload_n hx hb dX6_tour_107 rfl (lv_at hl 1 rfl) ?_
            refine mm_house hx hb hts (by decide +kernel) hown hKK.1 hM (hts (.fieldLink RX6 10 "WaxrowModel" "house" "LWaxrowModel$House;") (by decide +kernel)) dX6_tour_108 ?_
            have hW := hM.2.1
            refine lv_aload hx hb dX6_tour_111 (lv_at hl 0 rfl) ?_
            refine mh_callo (As := [.ref (L 14 j)]) ⟨hx, hb, hml, hown, hts⟩ (kX5_likeness l D d cB L (mp_tour ρ j y z) (mh_own L) H.size j (by omega) ⟨h0, by omega, by show hs_sg _ 14 j 8 z 14 j 0 = _; rw [pc9, if_neg (by omega), pc9, if_neg (by omega), pc9, if_neg (by omega)]; exact h0e⟩ ⟨h1, by omega, by show hs_sg _ 14 j 8 z 14 j 1 = _; rw [pc9, if_neg (by omega), pc9, if_neg (by omega), pc9, if_neg (by omega)]; exact h1e⟩) (cwV 1 hts gX6_tour_X5_likeness rfl rfl rfl (by decide +kernel) ⟨Nat.le_of_ble_eq_true rfl, Nat.le_of_ble_eq_true rfl⟩) hKK hW hS rfl hl.1 (Nat.le_of_ble_eq_true rfl) dX6_tour_113 ⟨Nat.le_of_ble_eq_true rfl, Nat.le_of_ble_eq_true rfl⟩ rfl (fun r_ τ_ H locs hp hW hz hqq hS => ?_)
            obtain ⟨e1_, e2_⟩ := hp
            subst e1_ e2_
            have hM : mm_W D d cB L m0 (0 : Int32) (hs_sg (hs_sg (hs_sg ρ 14 j 7 (6 : Int32)) 14 j 9 y) 14 j 8 z) A H := ⟨hM.1.kept (hqq _ hM.1.lt (fun ⟨k9, i9, hx9, e9⟩ => hM.2.2.2 k9 i9 hx9 e9.symm)), hW, hM.2.2⟩
            exact W.iret (v := mp_like (mp_tour ρ j y z) j) hx hb hr (fun t ht hW9 => ⟨⟨mp_like (mp_tour ρ j y z) j, (0, hs_sg (hs_sg (hs_sg ρ 14 j 7 (6 : Int32)) 14 j 9 y) 14 j 8 z), rfl, (mp_tourP0 (j := j) rfl (by omega) c_10 c_25 c_35 (fun z9 => z9.elim c_61 (fun z8 => c_79 (by rw [hc0] at z8; exact z8)))), by show mm_W D d cB L m0 _ _ A t.heap; rw [ht]; exact hM⟩, hS.F ht⟩) hS.2.2 dX6_tour_116
          · refine lv_aload_n hx hb dX6_tour_82 rfl (lv_at hl 1 rfl) ?_
            refine lv_iconst (v := 3) hx hb dX6_tour_83 (by decide) ?_
            refine mm_calli (As := [.int 3]) ⟨hx, hb, hml, hown, hts⟩ (kX6_no l D d cB L m0 (0 : Int32) ρ A H.size 3) (cwV 1 hts gX6_tour_X6_no rfl rfl rfl (by decide +kernel) ⟨Nat.le_of_ble_eq_true rfl, Nat.le_of_ble_eq_true rfl⟩) hKK hM hS rfl hl.1 (Nat.le_of_ble_eq_true rfl) dX6_tour_84 ⟨Nat.le_of_ble_eq_true rfl, Nat.le_of_ble_eq_true rfl⟩ rfl (fun r_ X_ H locs hp hM hz hS => ?_)
            obtain ⟨t_, τ_⟩ := X_
            obtain ⟨e1_, e2_, e3_⟩ := hp
            have e2_ : (3 : Int32) = t_ := e2_
            have e3_ : ρ = τ_ := e3_
            subst e1_ e2_ e3_
            have hM : mm_W D d cB L m0 3 ρ A H := hM
            have hW := hM.2.1
            exact W.iret (v := 0) hx hb hr (fun t ht hW9 => ⟨⟨0, (3, ρ), rfl, (mp_tourP3 (j := j) rfl (by omega) c_10 c_25 c_35 (Or.inr (by rw [hc0]; exact c_79))), by show mm_W D d cB L m0 _ _ A t.heap; rw [ht]; exact hM⟩, hS.F ht⟩) hS.2.2 dX6_tour_87
      · refine lv_aload_n hx hb dX6_tour_38 rfl (lv_at hl 0 rfl) ?_
        refine lv_iconst (v := 2) hx hb dX6_tour_39 (by decide) ?_
        refine mm_calli (As := [.int 2]) ⟨hx, hb, hml, hown, hts⟩ (kX6_no l D d cB L m0 (0 : Int32) ρ A H.size 2) (cwV 1 hts gX6_tour_X6_no rfl rfl rfl (by decide +kernel) ⟨Nat.le_of_ble_eq_true rfl, Nat.le_of_ble_eq_true rfl⟩) hKK hM hS rfl hl.1 (Nat.le_of_ble_eq_true rfl) dX6_tour_40 ⟨Nat.le_of_ble_eq_true rfl, Nat.le_of_ble_eq_true rfl⟩ rfl (fun r_ X_ H locs hp hM hz hS => ?_)
        obtain ⟨t_, τ_⟩ := X_
        obtain ⟨e1_, e2_, e3_⟩ := hp
        have e2_ : (2 : Int32) = t_ := e2_
        have e3_ : ρ = τ_ := e3_
        subst e1_ e2_ e3_
        have hM : mm_W D d cB L m0 2 ρ A H := hM
        have hW := hM.2.1
        exact W.iret (v := 0) hx hb hr (fun t ht hW9 => ⟨⟨0, (2, ρ), rfl, (mp_tourP2 c_10 (Or.inr ⟨c_25, c_35⟩)), by show mm_W D d cB L m0 _ _ A t.heap; rw [ht]; exact hM⟩, hS.F ht⟩) hS.2.2 dX6_tour_43
  · refine lv_aload_n hx hb dX6_tour_13 rfl (lv_at hl 0 rfl) ?_
    refine lv_iconst (v := 1) hx hb dX6_tour_14 (by decide) ?_
    refine mm_calli (As := [.int 1]) ⟨hx, hb, hml, hown, hts⟩ (kX6_no l D d cB L m0 (0 : Int32) ρ A H.size 1) (cwV 1 hts gX6_tour_X6_no rfl rfl rfl (by decide +kernel) ⟨Nat.le_of_ble_eq_true rfl, Nat.le_of_ble_eq_true rfl⟩) hKK hM hS rfl hl.1 (Nat.le_of_ble_eq_true rfl) dX6_tour_15 ⟨Nat.le_of_ble_eq_true rfl, Nat.le_of_ble_eq_true rfl⟩ rfl (fun r_ X_ H locs hp hM hz hS => ?_)
    obtain ⟨t_, τ_⟩ := X_
    obtain ⟨e1_, e2_, e3_⟩ := hp
    have e2_ : (1 : Int32) = t_ := e2_
    have e3_ : ρ = τ_ := e3_
    subst e1_ e2_ e3_
    have hM : mm_W D d cB L m0 1 ρ A H := hM
    have hW := hM.2.1
    exact W.iret (v := 0) hx hb hr (fun t ht hW9 => ⟨⟨0, (1, ρ), rfl, (mp_tourP1 c_10), by show mm_W D d cB L m0 _ _ A t.heap; rw [ht]; exact hM⟩, hS.F ht⟩) hS.2.2 dX6_tour_18
