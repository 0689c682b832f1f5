/-! THE REFERENCE'S show -/
def mp_showP (F R : Nat) (ρ : hs_St) (x y : Int32) (r : Int32) (X : mm_X) : Prop := if mp_in x 0 (nI F - 1) = 0 then ((0 : Int32) = r ∧ (1 : Int32) = X.1 ∧ ρ = X.2) else if mp_in y 0 (nI R - 1) = 0 then ((0 : Int32) = r ∧ (1 : Int32) = X.1 ∧ ρ = X.2) else if mp_hand ρ x.toNatClampNeg = 0 ∨ ¬ ρ 11 (ρ 14 x.toNatClampNeg 0).toNatClampNeg 6 = 1 ∨ mp_like ρ x.toNatClampNeg < 30 ∨ ρ 6 0 y.toNatClampNeg ≤ mp_many ρ y F ∨ ¬ mp_shownOf ρ (ρ 14 x.toNatClampNeg 0) F 0 = -1 then ((0 : Int32) = r ∧ (2 : Int32) = X.1 ∧ ρ = X.2) else mp_draw (hs_sg ρ 14 x.toNatClampNeg 7 y) x.toNatClampNeg = r ∧ (0 : Int32) = X.1 ∧ hs_sg ρ 14 x.toNatClampNeg 7 y = X.2
theorem mp_showP1 {F R : Nat} {ρ : hs_St} {x y : Int32} (c : mp_in x 0 (nI F - 1) = 0 ∨ (¬ mp_in x 0 (nI F - 1) = 0 ∧ mp_in y 0 (nI R - 1) = 0)) : mp_showP F R ρ x y 0 (1, ρ) := by
  unfold mp_showP
  rcases c with c | ⟨c, c2⟩
  · rw [if_pos c]
    exact ⟨rfl, rfl, rfl⟩
  · rw [if_neg c, if_pos c2]
    exact ⟨rfl, rfl, rfl⟩
theorem mp_showP2 {F R : Nat} {ρ : hs_St} {x y : Int32} {j b : Nat} (e : x = nI j) (e2 : y = nI b) (hj : j < 2 ^ 31) (hb : b < 2 ^ 31) (c1 : ¬ mp_in x 0 (nI F - 1) = 0) (c2 : ¬ mp_in y 0 (nI R - 1) = 0) (c4 : mp_hand ρ j = 0 ∨ ¬ ρ 11 (ρ 14 j 0).toNatClampNeg 6 = 1 ∨ mp_like ρ j < 30 ∨ ρ 6 0 b ≤ mp_many ρ (nI b) F ∨ ¬ mp_shownOf ρ (ρ 14 j 0) F 0 = -1) : mp_showP F R ρ x y 0 (2, ρ) := by
  subst e e2
  unfold mp_showP
  rw [if_neg c1, if_neg c2, nI_clamp hj, nI_clamp hb, if_pos c4]
  exact ⟨rfl, rfl, rfl⟩
theorem mp_showP0 {F R : Nat} {ρ : hs_St} {x y : Int32} {j b : Nat} (e : x = nI j) (e2 : y = nI b) (hj : j < 2 ^ 31) (hb : b < 2 ^ 31) (c1 : ¬ mp_in x 0 (nI F - 1) = 0) (c2 : ¬ mp_in y 0 (nI R - 1) = 0) (c4 : ¬ (mp_hand ρ j = 0 ∨ ¬ ρ 11 (ρ 14 j 0).toNatClampNeg 6 = 1 ∨ mp_like ρ j < 30 ∨ ρ 6 0 b ≤ mp_many ρ (nI b) F ∨ ¬ mp_shownOf ρ (ρ 14 j 0) F 0 = -1)) : mp_showP F R ρ x y (mp_draw (hs_sg ρ 14 j 7 (nI b)) j) (0, hs_sg ρ 14 j 7 (nI b)) := by
  subst e e2
  unfold mp_showP
  rw [if_neg c1, if_neg c2, nI_clamp hj, nI_clamp hb, if_neg c4]
  exact ⟨rfl, rfl, rfl⟩
set_option maxHeartbeats 4000000 in
set_option maxRecDepth 100000 in
/-- the reference: X6_show -/
theorem kX6_show (l : Launch) (D : va_G) (d : hs_Dm) (cB : ClassId) (L : hs_Lo) (m0 : Nat) (th : Int32) (ρ : hs_St) (A : Nat → Prop) (sz : Nat) (P F R : Nat) (hok : mh_ok P F R ρ) (x y : Int32) : mm_Mi l yX6_show wsX6_show ({ frames := 4, cells := 0, slots := 0, locals := 100 } : Room) D d cB L m0 th ρ A sz [.ref m0, .int x, .int y] (fun r X => mp_showP F R ρ x y r X) 0 0 := by
  refine Met.ofW (cc := cX6_show) (maxL := 5) (ret := (some .int)) (by decide) rfl ?_
  intro p e s m args below meth c0 s₁ B hml hv
  obtain ⟨rfl, hsz, hM, hKK⟩ := hv
  have hx := B.exec
  have hb := B.bytes
  have hr := B.returns
  have hts := atoms_spec (ws := wsX6_show) B.pre
  have hown : s.vm.findClass RX6 = some m.cls := findClass_of_methodNamed B.named
  have hlocks := B.notSynchronized
  have hS : va_S A s.heap s.heap [] := va_S.rf
  have hl := lv_entry ([.ref m0, .int x, .int y]) (n := 5) (Nat.le_of_ble_eq_true rfl)
  rw [lg_entry_eq]
  generalize (lg_sl ([.ref m0, .int x, .int y]) ++ List.replicate (5 - (lg_sl ([.ref m0, .int x, .int y])).length) Slot.unset).toArray = ls at hl ⊢
  have hl : lv_has ls 5 [(0, .ref m0), (1, .int x), (2, .int y)] := hl
  refine lv_aload_n hx hb dX6_show_0 rfl (lv_at hl 0 rfl) ?_
  refine lv_iconst (v := 0) hx hb dX6_show_1 (by decide) ?_
  refine mm_putt hx hb hts (by decide +kernel) hown hKK.1 hM hS (hts (.fieldLink RX6 16 "WaxrowModel" "thrown" "I") (by decide +kernel)) (0 : Int32) dX6_show_2 (fun H locs hM hS hz => ?_)
  have hM : mm_W D d cB L m0 0 ρ A H := hM
  have hW := hM.2.1
  refine lv_aload_n hx hb dX6_show_5 rfl (lv_at hl 0 rfl) ?_
  refine lv_iload_n hx hb dX6_show_6 rfl (lv_at hl 1 rfl) ?_
  refine mm_calli (As := [.int x]) ⟨hx, hb, hml, hown, hts⟩ (kX6_isFigure l D d cB L m0 (0 : Int32) ρ A H.size P F R hok x) (cwV 1 hts gX6_show_X6_isFigure rfl rfl rfl (by decide +kernel) ⟨Nat.le_of_ble_eq_true rfl, Nat.le_of_ble_eq_true rfl⟩) hKK hM hS rfl hl.1 (Nat.le_of_ble_eq_true rfl) dX6_show_7 ⟨Nat.le_of_ble_eq_true rfl, Nat.le_of_ble_eq_true rfl⟩ rfl (fun r_ X_ H locs hp hM hz hS => ?_)
  obtain ⟨t_, τ_⟩ := X_
  obtain ⟨e1_, e2_, e3_⟩ := hp
  have e2_ : (0 : Int32) = t_ := e2_
  have e3_ : ρ = τ_ := e3_
  subst e1_ e2_ e3_
  have hM : mm_W D d cB L m0 0 ρ A H := hM
  have hW := hM.2.1
  refine lv_if_eq (tgt := 21) hx hb dX6_show_10 (by decide) (fun c_10 => ?_) (fun c_10 => ?_)
  · refine lv_aload_n hx hb dX6_show_21 rfl (lv_at hl 0 rfl) ?_
    refine lv_iconst (v := 1) hx hb dX6_show_22 (by decide) ?_
    refine mm_calli (As := [.int 1]) ⟨hx, hb, hml, hown, hts⟩ (kX6_no l D d cB L m0 (0 : Int32) ρ A H.size 1) (cwV 1 hts gX6_show_X6_no rfl rfl rfl (by decide +kernel) ⟨Nat.le_of_ble_eq_true rfl, Nat.le_of_ble_eq_true rfl⟩) hKK hM hS rfl hl.1 (Nat.le_of_ble_eq_true rfl) dX6_show_23 ⟨Nat.le_of_ble_eq_true rfl, Nat.le_of_ble_eq_true rfl⟩ rfl (fun r_ X_ H locs hp hM hz hS => ?_)
    obtain ⟨t_, τ_⟩ := X_
    obtain ⟨e1_, e2_, e3_⟩ := hp
    have e2_ : (1 : Int32) = t_ := e2_
    have e3_ : ρ = τ_ := e3_
    subst e1_ e2_ e3_
    have hM : mm_W D d cB L m0 1 ρ A H := hM
    have hW := hM.2.1
    exact W.iret (v := 0) hx hb hr (fun t ht hW9 => ⟨⟨0, (1, ρ), rfl, (mp_showP1 (Or.inl c_10)), by show mm_W D d cB L m0 _ _ A t.heap; rw [ht]; exact hM⟩, hS.F ht⟩) hS.2.2 dX6_show_26
  · refine lv_aload_n hx hb dX6_show_13 rfl (lv_at hl 0 rfl) ?_
    refine lv_iload_n hx hb dX6_show_14 rfl (lv_at hl 2 rfl) ?_
    refine mm_calli (As := [.int y]) ⟨hx, hb, hml, hown, hts⟩ (kX6_isRoom l D d cB L m0 (0 : Int32) ρ A H.size P F R hok y) (cwV 1 hts gX6_show_X6_isRoom rfl rfl rfl (by decide +kernel) ⟨Nat.le_of_ble_eq_true rfl, Nat.le_of_ble_eq_true rfl⟩) hKK hM hS rfl hl.1 (Nat.le_of_ble_eq_true rfl) dX6_show_15 ⟨Nat.le_of_ble_eq_true rfl, Nat.le_of_ble_eq_true rfl⟩ rfl (fun r_ X_ H locs hp hM hz hS => ?_)
    obtain ⟨t_, τ_⟩ := X_
    obtain ⟨e1_, e2_, e3_⟩ := hp
    have e2_ : (0 : Int32) = t_ := e2_
    have e3_ : ρ = τ_ := e3_
    subst e1_ e2_ e3_
    have hM : mm_W D d cB L m0 0 ρ A H := hM
    have hW := hM.2.1
    refine lv_if_ne (tgt := 27) hx hb dX6_show_18 (by decide) (fun c_18 => ?_) (fun c_18 => ?_)
    · have hF8 := hok.2.1
      have h10 := hok.1
      have hR5 := hok.2.2.1
      obtain ⟨j, hj, ej⟩ := mp_in_ix (by omega) c_10
      obtain ⟨b, hb8, eb⟩ := mp_in_ix (by omega) c_18
      subst ej eb
      obtain ⟨⟨h0, h0l, h0e⟩, ⟨h1, h1l, h1e⟩, -⟩ := hok.2.2.2.2.2.2 j hj
      have hc0 : (ρ 14 j 0).toNatClampNeg = h0 := by rw [h0e]; exact nI_clamp (by omega)
      refine lv_aload_n hx hb dX6_show_27 rfl (lv_at hl 0 rfl) ?_
      refine mm_house hx hb hts (by decide +kernel) hown hKK.1 hM (hts (.fieldLink RX6 10 "WaxrowModel" "house" "LWaxrowModel$House;") (by decide +kernel)) dX6_show_28 ?_
      have hW := hM.2.1
      refine mh_get hx hb hts (by decide +kernel) hown hKK.1 hW 3 (by decide) (hts (.fieldLink RX6 60 "WaxrowModel$House" "figures" "[[I") (by decide +kernel)) rfl (v := .ref (L 4 0)) rfl dX6_show_31 ?_
      refine lv_iload_n hx hb dX6_show_34 rfl (lv_at hl 1 rfl) ?_
      refine mh_aald hx hb hKK.2.1 hW 4 j (by decide) (by decide) (by show j < mh_n 4; unfold mh_n; simp; omega) dX6_show_35 ?_
      refine lv_astore_n (lv' := [(3, .ref (L 14 j)), (0, .ref m0), (1, .int (nI j)), (2, .int (nI b))]) hx hb dX6_show_36 rfl hl (by decide) rfl (fun ls hl => ?_)
      refine lv_aload_n hx hb dX6_show_37 rfl (lv_at hl 1 rfl) ?_
      refine lv_aload_n hx hb dX6_show_38 rfl (lv_at hl 0 rfl) ?_
      refine mm_calli (As := [.ref (L 14 j)]) ⟨hx, hb, hml, hown, hts⟩ (kX6_isAtHand l D d cB L m0 (0 : Int32) ρ A H.size j (by omega)) (cwV 1 hts gX6_show_X6_isAtHand rfl rfl rfl (by decide +kernel) ⟨Nat.le_of_ble_eq_true rfl, Nat.le_of_ble_eq_true rfl⟩) hKK hM hS rfl hl.1 (Nat.le_of_ble_eq_true rfl) dX6_show_39 ⟨Nat.le_of_ble_eq_true rfl, Nat.le_of_ble_eq_true rfl⟩ rfl (fun r_ X_ H locs hp hM hz hS => ?_)
      obtain ⟨t_, τ_⟩ := X_
      obtain ⟨e1_, e2_, e3_⟩ := hp
      have e2_ : (0 : Int32) = t_ := e2_
      have e3_ : ρ = τ_ := e3_
      subst e1_ e2_ e3_
      have hM : mm_W D d cB L m0 0 ρ A H := hM
      have hW := hM.2.1
      refine lv_if_eq (tgt := 80) hx hb dX6_show_42 (by decide) (fun c_42 => ?_) (fun c_42 => ?_)
      · refine lv_iconst (v := 0) hx hb dX6_show_80 (by decide) ?_
        refine lv_istore (lv' := [(4, .int 0), (3, .ref (L 14 j)), (0, .ref m0), (1, .int (nI j)), (2, .int (nI b))]) hx hb dX6_show_81 hl (by decide) rfl (fun ls hl => ?_)
        refine lv_iload hx hb dX6_show_83 (lv_at hl 0 rfl) ?_
        refine lv_if_eq (tgt := 122) hx hb dX6_show_85 (by decide) (fun c_85 => ?_) (fun c_85 => ?_)
        · refine lv_aload_n hx hb dX6_show_122 rfl (lv_at hl 2 rfl) ?_
          refine lv_iconst (v := 2) hx hb dX6_show_123 (by decide) ?_
          refine mm_calli (As := [.int 2]) ⟨hx, hb, hml, hown, hts⟩ (kX6_no l D d cB L m0 (0 : Int32) ρ A H.size 2) (cwV 1 hts gX6_show_X6_no rfl rfl rfl (by decide +kernel) ⟨Nat.le_of_ble_eq_true rfl, Nat.le_of_ble_eq_true rfl⟩) hKK hM hS rfl hl.1 (Nat.le_of_ble_eq_true rfl) dX6_show_124 ⟨Nat.le_of_ble_eq_true rfl, Nat.le_of_ble_eq_true rfl⟩ rfl (fun r_ X_ H locs hp hM hz hS => ?_)
          obtain ⟨t_, τ_⟩ := X_
          obtain ⟨e1_, e2_, e3_⟩ := hp
          have e2_ : (2 : Int32) = t_ := e2_
          have e3_ : ρ = τ_ := e3_
          subst e1_ e2_ e3_
          have hM : mm_W D d cB L m0 2 ρ A H := hM
          have hW := hM.2.1
          exact W.iret (v := 0) hx hb hr (fun t ht hW9 => ⟨⟨0, (2, ρ), rfl, (mp_showP2 (j := j) (b := b) rfl rfl (by omega) (by omega) c_10 c_18 (Or.inl c_42)), by show mm_W D d cB L m0 _ _ A t.heap; rw [ht]; exact hM⟩, hS.F ht⟩) hS.2.2 dX6_show_127
        · exact absurd (by decide +kernel) c_85
      · refine lv_aload_n hx hb dX6_show_45 rfl (lv_at hl 1 rfl) ?_
        refine mm_house hx hb hts (by decide +kernel) hown hKK.1 hM (hts (.fieldLink RX6 10 "WaxrowModel" "house" "LWaxrowModel$House;") (by decide +kernel)) dX6_show_46 ?_
        have hW := hM.2.1
        refine mh_get hx hb hts (by decide +kernel) hown hKK.1 hW 0 (by decide) (hts (.fieldLink RX6 46 "WaxrowModel$House" "persons" "[[I") (by decide +kernel)) rfl (v := .ref (L 1 0)) rfl dX6_show_49 ?_
        refine lv_aload_n hx hb dX6_show_52 rfl (lv_at hl 0 rfl) ?_
        refine lv_iconst (v := 0) hx hb dX6_show_53 (by decide) ?_
        refine mh_iald hx hb hKK.1 hW 14 j (by decide) (mh_ixR (k := 4) (by decide) (by decide) (by show j < mh_n 4; unfold mh_n; simp; omega)) (i := 0) (by unfold vp_in; decide) dX6_show_54 ?_
        rw [show (0 : Int32).toNatClampNeg = 0 from by decide]
        rw [h0e]
        refine mh_aald hx hb hKK.2.1 hW 1 h0 (by decide) (by decide) (by show h0 < mh_n 1; unfold mh_n; simp; omega) dX6_show_55 ?_
        refine lv_bipush (v := 6) hx hb dX6_show_56 (by decide) ?_
        refine mh_iald hx hb hKK.1 hW 11 h0 (by decide) (mh_ixR (k := 1) (by decide) (by decide) (by show h0 < mh_n 1; unfold mh_n; simp; omega)) (i := 6) (by unfold vp_in; decide) dX6_show_58 ?_
        rw [show (6 : Int32).toNatClampNeg = 6 from by decide]
        refine lv_iconst (v := 1) hx hb dX6_show_59 (by decide) ?_
        refine lv_icmp_ne (tgt := 80) hx hb dX6_show_60 (by decide) (fun c_60 => ?_) (fun c_60 => ?_)
        · refine lv_iconst (v := 0) hx hb dX6_show_80 (by decide) ?_
          refine lv_istore (lv' := [(4, .int 0), (3, .ref (L 14 j)), (0, .ref m0), (1, .int (nI j)), (2, .int (nI b))]) hx hb dX6_show_81 hl (by decide) rfl (fun ls hl => ?_)
          refine lv_iload hx hb dX6_show_83 (lv_at hl 0 rfl) ?_
          refine lv_if_eq (tgt := 122) hx hb dX6_show_85 (by decide) (fun c_85 => ?_) (fun c_85 => ?_)
          · refine lv_aload_n hx hb dX6_show_122 rfl (lv_at hl 2 rfl) ?_
            refine lv_iconst (v := 2) hx hb dX6_show_123 (by decide) ?_
            refine mm_calli (As := [.int 2]) ⟨hx, hb, hml, hown, hts⟩ (kX6_no l D d cB L m0 (0 : Int32) ρ A H.size 2) (cwV 1 hts gX6_show_X6_no rfl rfl rfl (by decide +kernel) ⟨Nat.le_of_ble_eq_true rfl, Nat.le_of_ble_eq_true rfl⟩) hKK hM hS rfl hl.1 (Nat.le_of_ble_eq_true rfl) dX6_show_124 ⟨Nat.le_of_ble_eq_true rfl, Nat.le_of_ble_eq_true rfl⟩ rfl (fun r_ X_ H locs hp hM hz hS => ?_)
            obtain ⟨t_, τ_⟩ := X_
            obtain ⟨e1_, e2_, e3_⟩ := hp
            have e2_ : (2 : Int32) = t_ := e2_
            have e3_ : ρ = τ_ := e3_
            subst e1_ e2_ e3_
            have hM : mm_W D d cB L m0 2 ρ A H := hM
            have hW := hM.2.1
            exact W.iret (v := 0) hx hb hr (fun t ht hW9 => ⟨⟨0, (2, ρ), rfl, (mp_showP2 (j := j) (b := b) rfl rfl (by omega) (by omega) c_10 c_18 (Or.inr (Or.inl (by rw [hc0]; exact c_60)))), by show mm_W D d cB L m0 _ _ A t.heap; rw [ht]; exact hM⟩, hS.F ht⟩) hS.2.2 dX6_show_127
          · exact absurd (by decide +kernel) c_85
        · refine lv_aload_n hx hb dX6_show_63 rfl (lv_at hl 1 rfl) ?_
          refine mm_house hx hb hts (by decide +kernel) hown hKK.1 hM (hts (.fieldLink RX6 10 "WaxrowModel" "house" "LWaxrowModel$House;") (by decide +kernel)) dX6_show_64 ?_
          have hW := hM.2.1
          refine lv_aload_n hx hb dX6_show_67 rfl (lv_at hl 0 rfl) ?_
          refine mh_callo (As := [.ref (L 14 j)]) ⟨hx, hb, hml, hown, hts⟩ (kX5_likeness l D d cB L ρ (mh_own L) H.size j (by omega) ⟨h0, by omega, h0e⟩ ⟨h1, by omega, h1e⟩) (cwV 1 hts gX6_show_X5_likeness rfl rfl rfl (by decide +kernel) ⟨Nat.le_of_ble_eq_true rfl, Nat.le_of_ble_eq_true rfl⟩) hKK hW hS rfl hl.1 (Nat.le_of_ble_eq_true rfl) dX6_show_68 ⟨Nat.le_of_ble_eq_true rfl, Nat.le_of_ble_eq_true rfl⟩ rfl (fun r_ τ_ H locs hp hW hz hqq hS => ?_)
          obtain ⟨e1_, e2_⟩ := hp
          subst e1_ e2_
          have hM : mm_W D d cB L m0 (0 : Int32) ρ A H := ⟨hM.1.kept (hqq _ hM.1.lt (fun ⟨k9, i9, hx9, e9⟩ => hM.2.2.2 k9 i9 hx9 e9.symm)), hW, hM.2.2⟩
          refine lv_bipush (v := 30) hx hb dX6_show_71 (by decide) ?_
          refine lv_icmp_lt (tgt := 80) hx hb dX6_show_73 (by decide) (fun c_73 => ?_) (fun c_73 => ?_)
          · refine lv_iconst (v := 0) hx hb dX6_show_80 (by decide) ?_
            refine lv_istore (lv' := [(4, .int 0), (3, .ref (L 14 j)), (0, .ref m0), (1, .int (nI j)), (2, .int (nI b))]) hx hb dX6_show_81 hl (by decide) rfl (fun ls hl => ?_)
            refine lv_iload hx hb dX6_show_83 (lv_at hl 0 rfl) ?_
            refine lv_if_eq (tgt := 122) hx hb dX6_show_85 (by decide) (fun c_85 => ?_) (fun c_85 => ?_)
            · refine lv_aload_n hx hb dX6_show_122 rfl (lv_at hl 2 rfl) ?_
              refine lv_iconst (v := 2) hx hb dX6_show_123 (by decide) ?_
              refine mm_calli (As := [.int 2]) ⟨hx, hb, hml, hown, hts⟩ (kX6_no l D d cB L m0 (0 : Int32) ρ A H.size 2) (cwV 1 hts gX6_show_X6_no rfl rfl rfl (by decide +kernel) ⟨Nat.le_of_ble_eq_true rfl, Nat.le_of_ble_eq_true rfl⟩) hKK hM hS rfl hl.1 (Nat.le_of_ble_eq_true rfl) dX6_show_124 ⟨Nat.le_of_ble_eq_true rfl, Nat.le_of_ble_eq_true rfl⟩ rfl (fun r_ X_ H locs hp hM hz hS => ?_)
              obtain ⟨t_, τ_⟩ := X_
              obtain ⟨e1_, e2_, e3_⟩ := hp
              have e2_ : (2 : Int32) = t_ := e2_
              have e3_ : ρ = τ_ := e3_
              subst e1_ e2_ e3_
              have hM : mm_W D d cB L m0 2 ρ A H := hM
              have hW := hM.2.1
              exact W.iret (v := 0) hx hb hr (fun t ht hW9 => ⟨⟨0, (2, ρ), rfl, (mp_showP2 (j := j) (b := b) rfl rfl (by omega) (by omega) c_10 c_18 (Or.inr (Or.inr (Or.inl c_73)))), by show mm_W D d cB L m0 _ _ A t.heap; rw [ht]; exact hM⟩, hS.F ht⟩) hS.2.2 dX6_show_127
            · exact absurd (by decide +kernel) c_85
          · refine lv_iconst (v := 1) hx hb dX6_show_76 (by decide) ?_
            refine lv_goto (tgt := 81) hx hb dX6_show_77 (by decide) ?_
            refine lv_istore (lv' := [(4, .int 1), (3, .ref (L 14 j)), (0, .ref m0), (1, .int (nI j)), (2, .int (nI b))]) hx hb dX6_show_81 hl (by decide) rfl (fun ls hl => ?_)
            refine lv_iload hx hb dX6_show_83 (lv_at hl 0 rfl) ?_
            refine lv_if_eq (tgt := 122) hx hb dX6_show_85 (by decide) (fun c_85 => ?_) (fun c_85 => ?_)
            · exact absurd c_85 (by decide +kernel)
            · refine lv_aload_n hx hb dX6_show_88 rfl (lv_at hl 2 rfl) ?_
              refine mm_house hx hb hts (by decide +kernel) hown hKK.1 hM (hts (.fieldLink RX6 10 "WaxrowModel" "house" "LWaxrowModel$House;") (by decide +kernel)) dX6_show_89 ?_
              have hW := hM.2.1
              refine lv_iload_n hx hb dX6_show_92 rfl (lv_at hl 4 rfl) ?_
              refine mh_callo (As := [.int (nI b)]) ⟨hx, hb, hml, hown, hts⟩ (kX5_shownIn l D d cB L ρ (mh_own L) H.size P F R hok (nI b)) (cwV 1 hts gX6_show_X5_shownIn rfl rfl rfl (by decide +kernel) ⟨Nat.le_of_ble_eq_true rfl, Nat.le_of_ble_eq_true rfl⟩) hKK hW hS rfl hl.1 (Nat.le_of_ble_eq_true rfl) dX6_show_93 ⟨Nat.le_of_ble_eq_true rfl, Nat.le_of_ble_eq_true rfl⟩ rfl (fun r_ τ_ H locs hp hW hz hqq hS => ?_)
              obtain ⟨e1_, e2_⟩ := hp
              subst e1_ e2_
              have hM : mm_W D d cB L m0 (0 : Int32) ρ A H := ⟨hM.1.kept (hqq _ hM.1.lt (fun ⟨k9, i9, hx9, e9⟩ => hM.2.2.2 k9 i9 hx9 e9.symm)), hW, hM.2.2⟩
              refine lv_aload_n hx hb dX6_show_96 rfl (lv_at hl 2 rfl) ?_
              refine mm_house hx hb hts (by decide +kernel) hown hKK.1 hM (hts (.fieldLink RX6 10 "WaxrowModel" "house" "LWaxrowModel$House;") (by decide +kernel)) dX6_show_97 ?_
              have hW := hM.2.1
              refine mh_get hx hb hts (by decide +kernel) hown hKK.1 hW 5 (by decide) (hts (.fieldLink RX6 106 "WaxrowModel$House" "spots" "[I") (by decide +kernel)) rfl (v := .ref (L 6 0)) rfl dX6_show_100 ?_
              refine lv_iload_n hx hb dX6_show_103 rfl (lv_at hl 4 rfl) ?_
              refine mh_iald hx hb hKK.1 hW 6 0 (by decide) (mh_ixO (by decide)) (i := nI b) (by unfold vp_in; exact nI_in (show b < 5 by omega) (by decide)) dX6_show_104 ?_
              rw [show (nI b : Int32).toNatClampNeg = b from nI_clamp (by omega)]
              refine lv_icmp_ge (tgt := 122) hx hb dX6_show_105 (by decide) (fun c_105 => ?_) (fun c_105 => ?_)
              · refine lv_aload_n hx hb dX6_show_122 rfl (lv_at hl 2 rfl) ?_
                refine lv_iconst (v := 2) hx hb dX6_show_123 (by decide) ?_
                refine mm_calli (As := [.int 2]) ⟨hx, hb, hml, hown, hts⟩ (kX6_no l D d cB L m0 (0 : Int32) ρ A H.size 2) (cwV 1 hts gX6_show_X6_no rfl rfl rfl (by decide +kernel) ⟨Nat.le_of_ble_eq_true rfl, Nat.le_of_ble_eq_true rfl⟩) hKK hM hS rfl hl.1 (Nat.le_of_ble_eq_true rfl) dX6_show_124 ⟨Nat.le_of_ble_eq_true rfl, Nat.le_of_ble_eq_true rfl⟩ rfl (fun r_ X_ H locs hp hM hz hS => ?_)
                obtain ⟨t_, τ_⟩ := X_
                obtain ⟨e1_, e2_, e3_⟩ := hp
                have e2_ : (2 : Int32) = t_ := e2_
                have e3_ : ρ = τ_ := e3_
                subst e1_ e2_ e3_
                have hM : mm_W D d cB L m0 2 ρ A H := hM
                have hW := hM.2.1
                exact W.iret (v := 0) hx hb hr (fun t ht hW9 => ⟨⟨0, (2, ρ), rfl, (mp_showP2 (j := j) (b := b) rfl rfl (by omega) (by omega) c_10 c_18 (Or.inr (Or.inr (Or.inr (Or.inl c_105))))), by show mm_W D d cB L m0 _ _ A t.heap; rw [ht]; exact hM⟩, hS.F ht⟩) hS.2.2 dX6_show_127
              · refine lv_aload_n hx hb dX6_show_108 rfl (lv_at hl 2 rfl) ?_
                refine mm_house hx hb hts (by decide +kernel) hown hKK.1 hM (hts (.fieldLink RX6 10 "WaxrowModel" "house" "LWaxrowModel$House;") (by decide +kernel)) dX6_show_109 ?_
                have hW := hM.2.1
                refine lv_aload_n hx hb dX6_show_112 rfl (lv_at hl 1 rfl) ?_
                refine lv_iconst (v := 0) hx hb dX6_show_113 (by decide) ?_
                refine mh_iald hx hb hKK.1 hW 14 j (by decide) (mh_ixR (k := 4) (by decide) (by decide) (by show j < mh_n 4; unfold mh_n; simp; omega)) (i := 0) (by unfold vp_in; decide) dX6_show_114 ?_
                rw [show (0 : Int32).toNatClampNeg = 0 from by decide]
                refine mh_callo (As := [.int (ρ 14 j 0)]) ⟨hx, hb, hml, hown, hts⟩ (kX5_shownOf l D d cB L ρ (mh_own L) H.size P F R hok (ρ 14 j 0)) (cwV 1 hts gX6_show_X5_shownOf rfl rfl rfl (by decide +kernel) ⟨Nat.le_of_ble_eq_true rfl, Nat.le_of_ble_eq_true rfl⟩) hKK hW hS rfl hl.1 (Nat.le_of_ble_eq_true rfl) dX6_show_115 ⟨Nat.le_of_ble_eq_true rfl, Nat.le_of_ble_eq_true rfl⟩ rfl (fun r_ τ_ H locs hp hW hz hqq hS => ?_)
                obtain ⟨e1_, e2_⟩ := hp
                subst e1_ e2_
                have hM : mm_W D d cB L m0 (0 : Int32) ρ A H := ⟨hM.1.kept (hqq _ hM.1.lt (fun ⟨k9, i9, hx9, e9⟩ => hM.2.2.2 k9 i9 hx9 e9.symm)), hW, hM.2.2⟩
                refine lv_iconst (v := (-1)) hx hb dX6_show_118 (by decide) ?_
                refine lv_icmp_eq (tgt := 128) hx hb dX6_show_119 (by decide) (fun c_119 => ?_) (fun c_119 => ?_)
                · refine lv_aload_n hx hb dX6_show_128 rfl (lv_at hl 1 rfl) ?_
                  refine lv_bipush (v := 7) hx hb dX6_show_129 (by decide) ?_
                  refine lv_iload_n hx hb dX6_show_131 rfl (lv_at hl 4 rfl) ?_
                  have hW := hM.2.1
                  refine mh_iast hx hb hKK.1 hW hS 14 j (by decide) (mh_ixR (k := 4) (by decide) (by decide) (by show j < mh_n 4; unfold mh_n; simp; omega)) (i := 7) (x := nI b) (by unfold vp_in; decide) dX6_show_132 (fun H locs hW hS hz hq => ?_)
                  rw [show (7 : Int32).toNatClampNeg = 7 from by decide] at hW
                  have hW : mh_W D d.1 cB L (hs_sg ρ 14 j 7 (nI b)) A H := hW
                  have hM : mm_W D d cB L m0 0 (hs_sg ρ 14 j 7 (nI b)) A H := ⟨hM.1.kept (hq _ (fun z => hM.2.2.2 14 j (mh_ixR (k := 4) (by decide) (by decide) (by show j < mh_n 4; unfold mh_n; simp; omega)) z.symm)), hW, hM.2.2⟩
                  refine lv_aload_n hx hb dX6_show_133 rfl (lv_at hl 2 rfl) ?_
                  refine mm_house hx hb hts (by decide +kernel) hown hKK.1 hM (hts (.fieldLink RX6 10 "WaxrowModel" "house" "LWaxrowModel$House;") (by decide +kernel)) dX6_show_134 ?_
                  have hW := hM.2.1
                  refine lv_aload_n hx hb dX6_show_137 rfl (lv_at hl 1 rfl) ?_
                  refine mh_callo (As := [.ref (L 14 j)]) ⟨hx, hb, hml, hown, hts⟩ (kX5_draw l D d cB L (hs_sg ρ 14 j 7 (nI b)) (mh_own L) H.size j (by omega) ⟨h0, by omega, by rw [pc9, if_neg (by omega)]; exact h0e⟩ ⟨h1, by omega, by rw [pc9, if_neg (by omega)]; exact h1e⟩) (cwV 1 hts gX6_show_X5_draw rfl rfl rfl (by decide +kernel) ⟨Nat.le_of_ble_eq_true rfl, Nat.le_of_ble_eq_true rfl⟩) hKK hW hS rfl hl.1 (Nat.le_of_ble_eq_true rfl) dX6_show_138 ⟨Nat.le_of_ble_eq_true rfl, Nat.le_of_ble_eq_true rfl⟩ rfl (fun r_ τ_ H locs hp hW hz hqq hS => ?_)
                  obtain ⟨e1_, e2_⟩ := hp
                  subst e1_ e2_
                  have hM : mm_W D d cB L m0 (0 : Int32) (hs_sg ρ 14 j 7 (nI b)) A H := ⟨hM.1.kept (hqq _ hM.1.lt (fun ⟨k9, i9, hx9, e9⟩ => hM.2.2.2 k9 i9 hx9 e9.symm)), hW, hM.2.2⟩
                  exact W.iret (v := mp_draw (hs_sg ρ 14 j 7 (nI b)) j) hx hb hr (fun t ht hW9 => ⟨⟨mp_draw (hs_sg ρ 14 j 7 (nI b)) j, (0, hs_sg ρ 14 j 7 (nI b)), rfl, (mp_showP0 (j := j) (b := b) rfl rfl (by omega) (by omega) c_10 c_18 (fun z => z.elim c_42 (fun z => z.elim (fun z => z (by rw [hc0]; exact c_60)) (fun z => z.elim c_73 (fun z => z.elim c_105 (fun z => z c_119)))))), by show mm_W D d cB L m0 _ _ A t.heap; rw [ht]; exact hM⟩, hS.F ht⟩) hS.2.2 dX6_show_141
                · refine lv_aload_n hx hb dX6_show_122 rfl (lv_at hl 2 rfl) ?_
                  refine lv_iconst (v := 2) hx hb dX6_show_123 (by decide) ?_
                  refine mm_calli (As := [.int 2]) ⟨hx, hb, hml, hown, hts⟩ (kX6_no l D d cB L m0 (0 : Int32) ρ A H.size 2) (cwV 1 hts gX6_show_X6_no rfl rfl rfl (by decide +kernel) ⟨Nat.le_of_ble_eq_true rfl, Nat.le_of_ble_eq_true rfl⟩) hKK hM hS rfl hl.1 (Nat.le_of_ble_eq_true rfl) dX6_show_124 ⟨Nat.le_of_ble_eq_true rfl, Nat.le_of_ble_eq_true rfl⟩ rfl (fun r_ X_ H locs hp hM hz hS => ?_)
                  obtain ⟨t_, τ_⟩ := X_
                  obtain ⟨e1_, e2_, e3_⟩ := hp
                  have e2_ : (2 : Int32) = t_ := e2_
                  have e3_ : ρ = τ_ := e3_
                  subst e1_ e2_ e3_
                  have hM : mm_W D d cB L m0 2 ρ A H := hM
                  have hW := hM.2.1
                  exact W.iret (v := 0) hx hb hr (fun t ht hW9 => ⟨⟨0, (2, ρ), rfl, (mp_showP2 (j := j) (b := b) rfl rfl (by omega) (by omega) c_10 c_18 (Or.inr (Or.inr (Or.inr (Or.inr c_119))))), by show mm_W D d cB L m0 _ _ A t.heap; rw [ht]; exact hM⟩, hS.F ht⟩) hS.2.2 dX6_show_127
    · refine lv_aload_n hx hb dX6_show_21 rfl (lv_at hl 0 rfl) ?_
      refine lv_iconst (v := 1) hx hb dX6_show_22 (by decide) ?_
      refine mm_calli (As := [.int 1]) ⟨hx, hb, hml, hown, hts⟩ (kX6_no l D d cB L m0 (0 : Int32) ρ A H.size 1) (cwV 1 hts gX6_show_X6_no rfl rfl rfl (by decide +kernel) ⟨Nat.le_of_ble_eq_true rfl, Nat.le_of_ble_eq_true rfl⟩) hKK hM hS rfl hl.1 (Nat.le_of_ble_eq_true rfl) dX6_show_23 ⟨Nat.le_of_ble_eq_true rfl, Nat.le_of_ble_eq_true rfl⟩ rfl (fun r_ X_ H locs hp hM hz hS => ?_)
      obtain ⟨t_, τ_⟩ := X_
      obtain ⟨e1_, e2_, e3_⟩ := hp
      have e2_ : (1 : Int32) = t_ := e2_
      have e3_ : ρ = τ_ := e3_
      subst e1_ e2_ e3_
      have hM : mm_W D d cB L m0 1 ρ A H := hM
      have hW := hM.2.1
      exact W.iret (v := 0) hx hb hr (fun t ht hW9 => ⟨⟨0, (1, ρ), rfl, (mp_showP1 (Or.inr ⟨c_10, c_18⟩)), by show mm_W D d cB L m0 _ _ A t.heap; rw [ht]; exact hM⟩, hS.F ht⟩) hS.2.2 dX6_show_26
