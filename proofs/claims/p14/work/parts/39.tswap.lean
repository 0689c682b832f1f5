/-! THE REFERENCE'S swap -/
def mp_swap (ρ : hs_St) (a b : Nat) : hs_St := hs_sg (hs_sg (hs_sg (hs_sg ρ 14 a 0 (ρ 14 b 0)) 14 a 5 (ρ 14 b 5)) 14 b 0 (ρ 14 a 0)) 14 b 5 (ρ 14 a 5)
def mp_swapP (F : Nat) (ρ : hs_St) (x y : Int32) (r : Int32) (X : mm_X) : Prop := if mp_in x 0 (nI F - 1) = 0 then ((0 : Int32) = r ∧ (1 : Int32) = X.1 ∧ ρ = X.2) else if mp_in y 0 (nI F - 1) = 0 then ((0 : Int32) = r ∧ (1 : Int32) = X.1 ∧ ρ = X.2) else if x = y then ((0 : Int32) = r ∧ (2 : Int32) = X.1 ∧ ρ = X.2) else if mp_hand ρ x.toNatClampNeg = 0 ∨ mp_hand ρ y.toNatClampNeg = 0 then ((0 : Int32) = r ∧ (3 : Int32) = X.1 ∧ ρ = X.2) else mp_like (mp_swap ρ x.toNatClampNeg y.toNatClampNeg) x.toNatClampNeg = r ∧ (0 : Int32) = X.1 ∧ mp_swap ρ x.toNatClampNeg y.toNatClampNeg = X.2
theorem mp_swapP1 {F : Nat} {ρ : hs_St} {x y : Int32} (c : mp_in x 0 (nI F - 1) = 0 ∨ (¬ mp_in x 0 (nI F - 1) = 0 ∧ mp_in y 0 (nI F - 1) = 0)) : mp_swapP F ρ x y 0 (1, ρ) := by
  unfold mp_swapP
  rcases c with c | ⟨c, c2⟩
  · rw [if_pos c]
    exact ⟨rfl, rfl, rfl⟩
  · rw [if_neg c, if_pos c2]
    exact ⟨rfl, rfl, rfl⟩
theorem mp_swapP2 {F : Nat} {ρ : hs_St} {x y : Int32} (c1 : ¬ mp_in x 0 (nI F - 1) = 0) (c2 : ¬ mp_in y 0 (nI F - 1) = 0) (c3 : x = y) : mp_swapP F ρ x y 0 (2, ρ) := by
  unfold mp_swapP
  rw [if_neg c1, if_neg c2, if_pos c3]
  exact ⟨rfl, rfl, rfl⟩
theorem mp_swapP3 {F : Nat} {ρ : hs_St} {x y : Int32} {j b : Nat} (e : x = nI j) (e2 : y = nI b) (hj : j < 2 ^ 31) (hb : b < 2 ^ 31) (c1 : ¬ mp_in x 0 (nI F - 1) = 0) (c2 : ¬ mp_in y 0 (nI F - 1) = 0) (c3 : ¬ x = y) (c4 : mp_hand ρ j = 0 ∨ mp_hand ρ b = 0) : mp_swapP F ρ x y 0 (3, ρ) := by
  unfold mp_swapP
  rw [if_neg c1, if_neg c2, if_neg c3, e, e2, nI_clamp hj, nI_clamp hb, if_pos c4]
  exact ⟨rfl, rfl, rfl⟩
theorem mp_swapP0 {F : Nat} {ρ : hs_St} {x y : Int32} {j b : Nat} (e : x = nI j) (e2 : y = nI b) (hj : j < 2 ^ 31) (hb : b < 2 ^ 31) (c1 : ¬ mp_in x 0 (nI F - 1) = 0) (c2 : ¬ mp_in y 0 (nI F - 1) = 0) (c3 : ¬ x = y) (c4 : ¬ (mp_hand ρ j = 0 ∨ mp_hand ρ b = 0)) : mp_swapP F ρ x y (mp_like (mp_swap ρ j b) j) (0, mp_swap ρ j b) := by
  unfold mp_swapP
  rw [if_neg c1, if_neg c2, if_neg c3, e, e2, nI_clamp hj, nI_clamp hb, if_neg c4]
  exact ⟨rfl, rfl, rfl⟩
set_option maxHeartbeats 4000000 in
set_option maxRecDepth 100000 in
/-- the reference: X6_swap -/
theorem kX6_swap (l : Launch) (D : va_G) (d : hs_Dm) (cB : ClassId) (L : hs_Lo) (m0 : Nat) (th : Int32) (ρ : hs_St) (A : Nat → Prop) (sz : Nat) (P F R : Nat) (hok : mh_ok P F R ρ) (x y : Int32) : mm_Mi l yX6_swap wsX6_swap ({ frames := 3, cells := 0, slots := 0, locals := 80 } : Room) D d cB L m0 th ρ A sz [.ref m0, .int x, .int y] (fun r X => mp_swapP F ρ x y r X) 0 0 := by
  refine Met.ofW (cc := cX6_swap) (maxL := 7) (ret := (some .int)) (by decide) rfl ?_
  intro p e s m args below meth c0 s₁ B hml hv
  obtain ⟨rfl, hsz, hM, hKK⟩ := hv
  have hx := B.exec
  have hb := B.bytes
  have hr := B.returns
  have hts := atoms_spec (ws := wsX6_swap) B.pre
  have hown : s.vm.findClass RX6 = some m.cls := findClass_of_methodNamed B.named
  have hlocks := B.notSynchronized
  have hS : va_S A s.heap s.heap [] := va_S.rf
  have hl := lv_entry ([.ref m0, .int x, .int y]) (n := 7) (Nat.le_of_ble_eq_true rfl)
  rw [lg_entry_eq]
  generalize (lg_sl ([.ref m0, .int x, .int y]) ++ List.replicate (7 - (lg_sl ([.ref m0, .int x, .int y])).length) Slot.unset).toArray = ls at hl ⊢
  have hl : lv_has ls 7 [(0, .ref m0), (1, .int x), (2, .int y)] := hl
  refine lv_aload_n hx hb dX6_swap_0 rfl (lv_at hl 0 rfl) ?_
  refine lv_iconst (v := 0) hx hb dX6_swap_1 (by decide) ?_
  refine mm_putt hx hb hts (by decide +kernel) hown hKK.1 hM hS (hts (.fieldLink RX6 16 "WaxrowModel" "thrown" "I") (by decide +kernel)) (0 : Int32) dX6_swap_2 (fun H locs hM hS hz => ?_)
  have hM : mm_W D d cB L m0 0 ρ A H := hM
  have hW := hM.2.1
  refine lv_aload_n hx hb dX6_swap_5 rfl (lv_at hl 0 rfl) ?_
  refine lv_iload_n hx hb dX6_swap_6 rfl (lv_at hl 1 rfl) ?_
  refine mm_calli (As := [.int x]) ⟨hx, hb, hml, hown, hts⟩ (kX6_isFigure l D d cB L m0 (0 : Int32) ρ A H.size P F R hok x) (cwV 1 hts gX6_swap_X6_isFigure rfl rfl rfl (by decide +kernel) ⟨Nat.le_of_ble_eq_true rfl, Nat.le_of_ble_eq_true rfl⟩) hKK hM hS rfl hl.1 (Nat.le_of_ble_eq_true rfl) dX6_swap_7 ⟨Nat.le_of_ble_eq_true rfl, Nat.le_of_ble_eq_true rfl⟩ rfl (fun r_ X_ H locs hp hM hz hS => ?_)
  obtain ⟨t_, τ_⟩ := X_
  obtain ⟨e1_, e2_, e3_⟩ := hp
  have e2_ : (0 : Int32) = t_ := e2_
  have e3_ : ρ = τ_ := e3_
  subst e1_ e2_ e3_
  have hM : mm_W D d cB L m0 0 ρ A H := hM
  have hW := hM.2.1
  refine lv_if_eq (tgt := 21) hx hb dX6_swap_10 (by decide) (fun c_10 => ?_) (fun c_10 => ?_)
  · refine lv_aload_n hx hb dX6_swap_21 rfl (lv_at hl 0 rfl) ?_
    refine lv_iconst (v := 1) hx hb dX6_swap_22 (by decide) ?_
    refine mm_calli (As := [.int 1]) ⟨hx, hb, hml, hown, hts⟩ (kX6_no l D d cB L m0 (0 : Int32) ρ A H.size 1) (cwV 1 hts gX6_swap_X6_no rfl rfl rfl (by decide +kernel) ⟨Nat.le_of_ble_eq_true rfl, Nat.le_of_ble_eq_true rfl⟩) hKK hM hS rfl hl.1 (Nat.le_of_ble_eq_true rfl) dX6_swap_23 ⟨Nat.le_of_ble_eq_true rfl, Nat.le_of_ble_eq_true rfl⟩ rfl (fun r_ X_ H locs hp hM hz hS => ?_)
    obtain ⟨t_, τ_⟩ := X_
    obtain ⟨e1_, e2_, e3_⟩ := hp
    have e2_ : (1 : Int32) = t_ := e2_
    have e3_ : ρ = τ_ := e3_
    subst e1_ e2_ e3_
    have hM : mm_W D d cB L m0 1 ρ A H := hM
    have hW := hM.2.1
    exact W.iret (v := 0) hx hb hr (fun t ht hW9 => ⟨⟨0, (1, ρ), rfl, (mp_swapP1 (Or.inl c_10)), by show mm_W D d cB L m0 _ _ A t.heap; rw [ht]; exact hM⟩, hS.F ht⟩) hS.2.2 dX6_swap_26
  · refine lv_aload_n hx hb dX6_swap_13 rfl (lv_at hl 0 rfl) ?_
    refine lv_iload_n hx hb dX6_swap_14 rfl (lv_at hl 2 rfl) ?_
    refine mm_calli (As := [.int y]) ⟨hx, hb, hml, hown, hts⟩ (kX6_isFigure l D d cB L m0 (0 : Int32) ρ A H.size P F R hok y) (cwV 1 hts gX6_swap_X6_isFigure rfl rfl rfl (by decide +kernel) ⟨Nat.le_of_ble_eq_true rfl, Nat.le_of_ble_eq_true rfl⟩) hKK hM hS rfl hl.1 (Nat.le_of_ble_eq_true rfl) dX6_swap_15 ⟨Nat.le_of_ble_eq_true rfl, Nat.le_of_ble_eq_true rfl⟩ rfl (fun r_ X_ H locs hp hM hz hS => ?_)
    obtain ⟨t_, τ_⟩ := X_
    obtain ⟨e1_, e2_, e3_⟩ := hp
    have e2_ : (0 : Int32) = t_ := e2_
    have e3_ : ρ = τ_ := e3_
    subst e1_ e2_ e3_
    have hM : mm_W D d cB L m0 0 ρ A H := hM
    have hW := hM.2.1
    refine lv_if_ne (tgt := 27) hx hb dX6_swap_18 (by decide) (fun c_18 => ?_) (fun c_18 => ?_)
    · refine lv_iload_n hx hb dX6_swap_27 rfl (lv_at hl 1 rfl) ?_
      refine lv_iload_n hx hb dX6_swap_28 rfl (lv_at hl 2 rfl) ?_
      refine lv_icmp_ne (tgt := 38) hx hb dX6_swap_29 (by decide) (fun c_29 => ?_) (fun c_29 => ?_)
      · have hF8 := hok.2.1
        have h10 := hok.1
        obtain ⟨j, hj, ej⟩ := mp_in_ix (by omega) c_10
        obtain ⟨b, hb8, eb⟩ := mp_in_ix (by omega) c_18
        subst ej eb
        have hjb : j ≠ b := fun z9 => c_29 (by rw [z9])
        obtain ⟨⟨h0, h0l, h0e⟩, ⟨h1, h1l, h1e⟩, -⟩ := hok.2.2.2.2.2.2 j hj
        obtain ⟨⟨g0, g0l, g0e⟩, -⟩ := hok.2.2.2.2.2.2 b hb8
        refine lv_aload_n hx hb dX6_swap_38 rfl (lv_at hl 0 rfl) ?_
        refine mm_house hx hb hts (by decide +kernel) hown hKK.1 hM (hts (.fieldLink RX6 10 "WaxrowModel" "house" "LWaxrowModel$House;") (by decide +kernel)) dX6_swap_39 ?_
        have hW := hM.2.1
        refine mh_get hx hb hts (by decide +kernel) hown hKK.1 hW 3 (by decide) (hts (.fieldLink RX6 60 "WaxrowModel$House" "figures" "[[I") (by decide +kernel)) rfl (v := .ref (L 4 0)) rfl dX6_swap_42 ?_
        refine lv_iload_n hx hb dX6_swap_45 rfl (lv_at hl 1 rfl) ?_
        refine mh_aald hx hb hKK.2.1 hW 4 j (by decide) (by decide) (by show j < mh_n 4; unfold mh_n; simp; omega) dX6_swap_46 ?_
        refine lv_astore_n (lv' := [(3, .ref (L 14 j)), (0, .ref m0), (1, .int (nI j)), (2, .int (nI b))]) hx hb dX6_swap_47 rfl hl (by decide) rfl (fun ls hl => ?_)
        refine lv_aload_n hx hb dX6_swap_48 rfl (lv_at hl 1 rfl) ?_
        refine mm_house hx hb hts (by decide +kernel) hown hKK.1 hM (hts (.fieldLink RX6 10 "WaxrowModel" "house" "LWaxrowModel$House;") (by decide +kernel)) dX6_swap_49 ?_
        have hW := hM.2.1
        refine mh_get hx hb hts (by decide +kernel) hown hKK.1 hW 3 (by decide) (hts (.fieldLink RX6 60 "WaxrowModel$House" "figures" "[[I") (by decide +kernel)) rfl (v := .ref (L 4 0)) rfl dX6_swap_52 ?_
        refine lv_iload_n hx hb dX6_swap_55 rfl (lv_at hl 3 rfl) ?_
        refine mh_aald hx hb hKK.2.1 hW 4 b (by decide) (by decide) (by show b < mh_n 4; unfold mh_n; simp; omega) dX6_swap_56 ?_
        refine lv_astore (lv' := [(4, .ref (L 14 b)), (3, .ref (L 14 j)), (0, .ref m0), (1, .int (nI j)), (2, .int (nI b))]) hx hb dX6_swap_57 hl (by decide) rfl (fun ls hl => ?_)
        refine lv_aload_n hx hb dX6_swap_59 rfl (lv_at hl 2 rfl) ?_
        refine lv_aload_n hx hb dX6_swap_60 rfl (lv_at hl 1 rfl) ?_
        refine mm_calli (As := [.ref (L 14 j)]) ⟨hx, hb, hml, hown, hts⟩ (kX6_isAtHand l D d cB L m0 (0 : Int32) ρ A H.size j (by omega)) (cwV 1 hts gX6_swap_X6_isAtHand rfl rfl rfl (by decide +kernel) ⟨Nat.le_of_ble_eq_true rfl, Nat.le_of_ble_eq_true rfl⟩) hKK hM hS rfl hl.1 (Nat.le_of_ble_eq_true rfl) dX6_swap_61 ⟨Nat.le_of_ble_eq_true rfl, Nat.le_of_ble_eq_true rfl⟩ rfl (fun r_ X_ H locs hp hM hz hS => ?_)
        obtain ⟨t_, τ_⟩ := X_
        obtain ⟨e1_, e2_, e3_⟩ := hp
        have e2_ : (0 : Int32) = t_ := e2_
        have e3_ : ρ = τ_ := e3_
        subst e1_ e2_ e3_
        have hM : mm_W D d cB L m0 0 ρ A H := hM
        have hW := hM.2.1
        refine lv_if_eq (tgt := 76) hx hb dX6_swap_64 (by decide) (fun c_64 => ?_) (fun c_64 => ?_)
        · refine lv_aload_n hx hb dX6_swap_76 rfl (lv_at hl 2 rfl) ?_
          refine lv_iconst (v := 3) hx hb dX6_swap_77 (by decide) ?_
          refine mm_calli (As := [.int 3]) ⟨hx, hb, hml, hown, hts⟩ (kX6_no l D d cB L m0 (0 : Int32) ρ A H.size 3) (cwV 1 hts gX6_swap_X6_no rfl rfl rfl (by decide +kernel) ⟨Nat.le_of_ble_eq_true rfl, Nat.le_of_ble_eq_true rfl⟩) hKK hM hS rfl hl.1 (Nat.le_of_ble_eq_true rfl) dX6_swap_78 ⟨Nat.le_of_ble_eq_true rfl, Nat.le_of_ble_eq_true rfl⟩ rfl (fun r_ X_ H locs hp hM hz hS => ?_)
          obtain ⟨t_, τ_⟩ := X_
          obtain ⟨e1_, e2_, e3_⟩ := hp
          have e2_ : (3 : Int32) = t_ := e2_
          have e3_ : ρ = τ_ := e3_
          subst e1_ e2_ e3_
          have hM : mm_W D d cB L m0 3 ρ A H := hM
          have hW := hM.2.1
          exact W.iret (v := 0) hx hb hr (fun t ht hW9 => ⟨⟨0, (3, ρ), rfl, (mp_swapP3 (j := j) (b := b) rfl rfl (by omega) (by omega) c_10 c_18 c_29 (Or.inl c_64)), by show mm_W D d cB L m0 _ _ A t.heap; rw [ht]; exact hM⟩, hS.F ht⟩) hS.2.2 dX6_swap_81
        · refine lv_aload_n hx hb dX6_swap_67 rfl (lv_at hl 2 rfl) ?_
          refine lv_aload hx hb dX6_swap_68 (lv_at hl 0 rfl) ?_
          refine mm_calli (As := [.ref (L 14 b)]) ⟨hx, hb, hml, hown, hts⟩ (kX6_isAtHand l D d cB L m0 (0 : Int32) ρ A H.size b (by omega)) (cwV 1 hts gX6_swap_X6_isAtHand rfl rfl rfl (by decide +kernel) ⟨Nat.le_of_ble_eq_true rfl, Nat.le_of_ble_eq_true rfl⟩) hKK hM hS rfl hl.1 (Nat.le_of_ble_eq_true rfl) dX6_swap_70 ⟨Nat.le_of_ble_eq_true rfl, Nat.le_of_ble_eq_true rfl⟩ rfl (fun r_ X_ H locs hp hM hz hS => ?_)
          obtain ⟨t_, τ_⟩ := X_
          obtain ⟨e1_, e2_, e3_⟩ := hp
          have e2_ : (0 : Int32) = t_ := e2_
          have e3_ : ρ = τ_ := e3_
          subst e1_ e2_ e3_
          have hM : mm_W D d cB L m0 0 ρ A H := hM
          have hW := hM.2.1
          refine lv_if_ne (tgt := 82) hx hb dX6_swap_73 (by decide) (fun c_73 => ?_) (fun c_73 => ?_)
          · refine lv_aload_n hx hb dX6_swap_82 rfl (lv_at hl 1 rfl) ?_
            refine lv_iconst (v := 0) hx hb dX6_swap_83 (by decide) ?_
            refine mh_iald hx hb hKK.1 hW 14 j (by decide) (mh_ixR (k := 4) (by decide) (by decide) (by show j < mh_n 4; unfold mh_n; simp; omega)) (i := 0) (by unfold vp_in; decide) dX6_swap_84 ?_
            rw [show (0 : Int32).toNatClampNeg = 0 from by decide]
            refine lv_istore (lv' := [(5, .int (ρ 14 j 0)), (4, .ref (L 14 b)), (3, .ref (L 14 j)), (0, .ref m0), (1, .int (nI j)), (2, .int (nI b))]) hx hb dX6_swap_85 hl (by decide) rfl (fun ls hl => ?_)
            refine lv_aload_n hx hb dX6_swap_87 rfl (lv_at hl 2 rfl) ?_
            refine lv_iconst (v := 5) hx hb dX6_swap_88 (by decide) ?_
            refine mh_iald hx hb hKK.1 hW 14 j (by decide) (mh_ixR (k := 4) (by decide) (by decide) (by show j < mh_n 4; unfold mh_n; simp; omega)) (i := 5) (by unfold vp_in; decide) dX6_swap_89 ?_
            rw [show (5 : Int32).toNatClampNeg = 5 from by decide]
            refine lv_istore (lv' := [(6, .int (ρ 14 j 5)), (5, .int (ρ 14 j 0)), (4, .ref (L 14 b)), (3, .ref (L 14 j)), (0, .ref m0), (1, .int (nI j)), (2, .int (nI b))]) hx hb dX6_swap_90 hl (by decide) rfl (fun ls hl => ?_)
            refine lv_aload_n hx hb dX6_swap_92 rfl (lv_at hl 3 rfl) ?_
            refine lv_iconst (v := 0) hx hb dX6_swap_93 (by decide) ?_
            refine lv_aload hx hb dX6_swap_94 (lv_at hl 2 rfl) ?_
            refine lv_iconst (v := 0) hx hb dX6_swap_96 (by decide) ?_
            refine mh_iald hx hb hKK.1 hW 14 b (by decide) (mh_ixR (k := 4) (by decide) (by decide) (by show b < mh_n 4; unfold mh_n; simp; omega)) (i := 0) (by unfold vp_in; decide) dX6_swap_97 ?_
            rw [show (0 : Int32).toNatClampNeg = 0 from by decide]
            have hW := hM.2.1
            refine mh_iast hx hb hKK.1 hW hS 14 j (by decide) (mh_ixR (k := 4) (by decide) (by decide) (by show j < mh_n 4; unfold mh_n; simp; omega)) (i := 0) (x := ρ 14 b 0) (by unfold vp_in; decide) dX6_swap_98 (fun H locs hW hS hz hq => ?_)
            rw [show (0 : Int32).toNatClampNeg = 0 from by decide] at hW
            have hW : mh_W D d.1 cB L (hs_sg ρ 14 j 0 (ρ 14 b 0)) A H := hW
            have hM : mm_W D d cB L m0 0 (hs_sg ρ 14 j 0 (ρ 14 b 0)) A H := ⟨hM.1.kept (hq _ (fun z => hM.2.2.2 14 j (mh_ixR (k := 4) (by decide) (by decide) (by show j < mh_n 4; unfold mh_n; simp; omega)) z.symm)), hW, hM.2.2⟩
            refine lv_aload_n hx hb dX6_swap_99 rfl (lv_at hl 3 rfl) ?_
            refine lv_iconst (v := 5) hx hb dX6_swap_100 (by decide) ?_
            refine lv_aload hx hb dX6_swap_101 (lv_at hl 2 rfl) ?_
            refine lv_iconst (v := 5) hx hb dX6_swap_103 (by decide) ?_
            refine mh_iald hx hb hKK.1 hW 14 b (by decide) (mh_ixR (k := 4) (by decide) (by decide) (by show b < mh_n 4; unfold mh_n; simp; omega)) (i := 5) (by unfold vp_in; decide) dX6_swap_104 ?_
            rw [show (5 : Int32).toNatClampNeg = 5 from by decide]
            rw [show (hs_sg ρ 14 j 0 (ρ 14 b 0)) 14 b 5 = ρ 14 b 5 from by rw [pc9, if_neg (by omega)]]
            have hW := hM.2.1
            refine mh_iast hx hb hKK.1 hW hS 14 j (by decide) (mh_ixR (k := 4) (by decide) (by decide) (by show j < mh_n 4; unfold mh_n; simp; omega)) (i := 5) (x := ρ 14 b 5) (by unfold vp_in; decide) dX6_swap_105 (fun H locs hW hS hz hq => ?_)
            rw [show (5 : Int32).toNatClampNeg = 5 from by decide] at hW
            have hW : mh_W D d.1 cB L (hs_sg (hs_sg ρ 14 j 0 (ρ 14 b 0)) 14 j 5 (ρ 14 b 5)) A H := hW
            have hM : mm_W D d cB L m0 0 (hs_sg (hs_sg ρ 14 j 0 (ρ 14 b 0)) 14 j 5 (ρ 14 b 5)) A H := ⟨hM.1.kept (hq _ (fun z => hM.2.2.2 14 j (mh_ixR (k := 4) (by decide) (by decide) (by show j < mh_n 4; unfold mh_n; simp; omega)) z.symm)), hW, hM.2.2⟩
            refine lv_aload hx hb dX6_swap_106 (lv_at hl 2 rfl) ?_
            refine lv_iconst (v := 0) hx hb dX6_swap_108 (by decide) ?_
            refine lv_iload hx hb dX6_swap_109 (lv_at hl 1 rfl) ?_
            have hW := hM.2.1
            refine mh_iast hx hb hKK.1 hW hS 14 b (by decide) (mh_ixR (k := 4) (by decide) (by decide) (by show b < mh_n 4; unfold mh_n; simp; omega)) (i := 0) (x := ρ 14 j 0) (by unfold vp_in; decide) dX6_swap_111 (fun H locs hW hS hz hq => ?_)
            rw [show (0 : Int32).toNatClampNeg = 0 from by decide] at hW
            have hW : mh_W D d.1 cB L (hs_sg (hs_sg (hs_sg ρ 14 j 0 (ρ 14 b 0)) 14 j 5 (ρ 14 b 5)) 14 b 0 (ρ 14 j 0)) A H := hW
            have hM : mm_W D d cB L m0 0 (hs_sg (hs_sg (hs_sg ρ 14 j 0 (ρ 14 b 0)) 14 j 5 (ρ 14 b 5)) 14 b 0 (ρ 14 j 0)) A H := ⟨hM.1.kept (hq _ (fun z => hM.2.2.2 14 b (mh_ixR (k := 4) (by decide) (by decide) (by show b < mh_n 4; unfold mh_n; simp; omega)) z.symm)), hW, hM.2.2⟩
            refine lv_aload hx hb dX6_swap_112 (lv_at hl 2 rfl) ?_
            refine lv_iconst (v := 5) hx hb dX6_swap_114 (by decide) ?_
            refine lv_iload hx hb dX6_swap_115 (lv_at hl 0 rfl) ?_
            have hW := hM.2.1
            refine mh_iast hx hb hKK.1 hW hS 14 b (by decide) (mh_ixR (k := 4) (by decide) (by decide) (by show b < mh_n 4; unfold mh_n; simp; omega)) (i := 5) (x := ρ 14 j 5) (by unfold vp_in; decide) dX6_swap_117 (fun H locs hW hS hz hq => ?_)
            rw [show (5 : Int32).toNatClampNeg = 5 from by decide] at hW
            have hW : mh_W D d.1 cB L (hs_sg (hs_sg (hs_sg (hs_sg ρ 14 j 0 (ρ 14 b 0)) 14 j 5 (ρ 14 b 5)) 14 b 0 (ρ 14 j 0)) 14 b 5 (ρ 14 j 5)) A H := hW
            have hM : mm_W D d cB L m0 0 (hs_sg (hs_sg (hs_sg (hs_sg ρ 14 j 0 (ρ 14 b 0)) 14 j 5 (ρ 14 b 5)) 14 b 0 (ρ 14 j 0)) 14 b 5 (ρ 14 j 5)) A H := ⟨hM.1.kept (hq _ (fun z => hM.2.2.2 14 b (mh_ixR (k := 4) (by decide) (by decide) (by show b < mh_n 4; unfold mh_n; simp; omega)) z.symm)), hW, hM.2.2⟩
            refine lv_aload_n hx hb dX6_swap_118 rfl (lv_at hl 4 rfl) ?_
            refine mm_house hx hb hts (by decide +kernel) hown hKK.1 hM (hts (.fieldLink RX6 10 "WaxrowModel" "house" "LWaxrowModel$House;") (by decide +kernel)) dX6_swap_119 ?_
            have hW := hM.2.1
            refine lv_aload_n hx hb dX6_swap_122 rfl (lv_at hl 3 rfl) ?_
            refine mh_callo (As := [.ref (L 14 j)]) ⟨hx, hb, hml, hown, hts⟩ (kX5_likeness l D d cB L (mp_swap ρ j b) (mh_own L) H.size j (by omega) ⟨g0, by omega, by show mp_swap ρ j b 14 j 0 = _; unfold mp_swap; rw [pc9, if_neg (by omega), pc9, if_neg (by omega), pc9, if_neg (by omega), pc9, if_pos ⟨rfl, rfl, rfl⟩]; exact g0e⟩ ⟨h1, by omega, by show mp_swap ρ j b 14 j 1 = _; unfold mp_swap; rw [pc9, if_neg (by omega), pc9, if_neg (by omega), pc9, if_neg (by omega), pc9, if_neg (by omega)]; exact h1e⟩) (cwV 1 hts gX6_swap_X5_likeness rfl rfl rfl (by decide +kernel) ⟨Nat.le_of_ble_eq_true rfl, Nat.le_of_ble_eq_true rfl⟩) hKK hW hS rfl hl.1 (Nat.le_of_ble_eq_true rfl) dX6_swap_123 ⟨Nat.le_of_ble_eq_true rfl, Nat.le_of_ble_eq_true rfl⟩ rfl (fun r_ τ_ H locs hp hW hz hqq hS => ?_)
            obtain ⟨e1_, e2_⟩ := hp
            subst e1_ e2_
            have hM : mm_W D d cB L m0 (0 : Int32) (hs_sg (hs_sg (hs_sg (hs_sg ρ 14 j 0 (ρ 14 b 0)) 14 j 5 (ρ 14 b 5)) 14 b 0 (ρ 14 j 0)) 14 b 5 (ρ 14 j 5)) A H := ⟨hM.1.kept (hqq _ hM.1.lt (fun ⟨k9, i9, hx9, e9⟩ => hM.2.2.2 k9 i9 hx9 e9.symm)), hW, hM.2.2⟩
            exact W.iret (v := mp_like (mp_swap ρ j b) j) hx hb hr (fun t ht hW9 => ⟨⟨mp_like (mp_swap ρ j b) j, (0, hs_sg (hs_sg (hs_sg (hs_sg ρ 14 j 0 (ρ 14 b 0)) 14 j 5 (ρ 14 b 5)) 14 b 0 (ρ 14 j 0)) 14 b 5 (ρ 14 j 5)), rfl, (mp_swapP0 (j := j) (b := b) rfl rfl (by omega) (by omega) c_10 c_18 c_29 (fun z9 => z9.elim c_64 c_73)), by show mm_W D d cB L m0 _ _ A t.heap; rw [ht]; exact hM⟩, hS.F ht⟩) hS.2.2 dX6_swap_126
          · refine lv_aload_n hx hb dX6_swap_76 rfl (lv_at hl 2 rfl) ?_
            refine lv_iconst (v := 3) hx hb dX6_swap_77 (by decide) ?_
            refine mm_calli (As := [.int 3]) ⟨hx, hb, hml, hown, hts⟩ (kX6_no l D d cB L m0 (0 : Int32) ρ A H.size 3) (cwV 1 hts gX6_swap_X6_no rfl rfl rfl (by decide +kernel) ⟨Nat.le_of_ble_eq_true rfl, Nat.le_of_ble_eq_true rfl⟩) hKK hM hS rfl hl.1 (Nat.le_of_ble_eq_true rfl) dX6_swap_78 ⟨Nat.le_of_ble_eq_true rfl, Nat.le_of_ble_eq_true rfl⟩ rfl (fun r_ X_ H locs hp hM hz hS => ?_)
            obtain ⟨t_, τ_⟩ := X_
            obtain ⟨e1_, e2_, e3_⟩ := hp
            have e2_ : (3 : Int32) = t_ := e2_
            have e3_ : ρ = τ_ := e3_
            subst e1_ e2_ e3_
            have hM : mm_W D d cB L m0 3 ρ A H := hM
            have hW := hM.2.1
            exact W.iret (v := 0) hx hb hr (fun t ht hW9 => ⟨⟨0, (3, ρ), rfl, (mp_swapP3 (j := j) (b := b) rfl rfl (by omega) (by omega) c_10 c_18 c_29 (Or.inr c_73)), by show mm_W D d cB L m0 _ _ A t.heap; rw [ht]; exact hM⟩, hS.F ht⟩) hS.2.2 dX6_swap_81
      · refine lv_aload_n hx hb dX6_swap_32 rfl (lv_at hl 0 rfl) ?_
        refine lv_iconst (v := 2) hx hb dX6_swap_33 (by decide) ?_
        refine mm_calli (As := [.int 2]) ⟨hx, hb, hml, hown, hts⟩ (kX6_no l D d cB L m0 (0 : Int32) ρ A H.size 2) (cwV 1 hts gX6_swap_X6_no rfl rfl rfl (by decide +kernel) ⟨Nat.le_of_ble_eq_true rfl, Nat.le_of_ble_eq_true rfl⟩) hKK hM hS rfl hl.1 (Nat.le_of_ble_eq_true rfl) dX6_swap_34 ⟨Nat.le_of_ble_eq_true rfl, Nat.le_of_ble_eq_true rfl⟩ rfl (fun r_ X_ H locs hp hM hz hS => ?_)
        obtain ⟨t_, τ_⟩ := X_
        obtain ⟨e1_, e2_, e3_⟩ := hp
        have e2_ : (2 : Int32) = t_ := e2_
        have e3_ : ρ = τ_ := e3_
        subst e1_ e2_ e3_
        have hM : mm_W D d cB L m0 2 ρ A H := hM
        have hW := hM.2.1
        exact W.iret (v := 0) hx hb hr (fun t ht hW9 => ⟨⟨0, (2, ρ), rfl, (mp_swapP2 c_10 c_18 c_29), by show mm_W D d cB L m0 _ _ A t.heap; rw [ht]; exact hM⟩, hS.F ht⟩) hS.2.2 dX6_swap_37
    · refine lv_aload_n hx hb dX6_swap_21 rfl (lv_at hl 0 rfl) ?_
      refine lv_iconst (v := 1) hx hb dX6_swap_22 (by decide) ?_
      refine mm_calli (As := [.int 1]) ⟨hx, hb, hml, hown, hts⟩ (kX6_no l D d cB L m0 (0 : Int32) ρ A H.size 1) (cwV 1 hts gX6_swap_X6_no rfl rfl rfl (by decide +kernel) ⟨Nat.le_of_ble_eq_true rfl, Nat.le_of_ble_eq_true rfl⟩) hKK hM hS rfl hl.1 (Nat.le_of_ble_eq_true rfl) dX6_swap_23 ⟨Nat.le_of_ble_eq_true rfl, Nat.le_of_ble_eq_true rfl⟩ rfl (fun r_ X_ H locs hp hM hz hS => ?_)
      obtain ⟨t_, τ_⟩ := X_
      obtain ⟨e1_, e2_, e3_⟩ := hp
      have e2_ : (1 : Int32) = t_ := e2_
      have e3_ : ρ = τ_ := e3_
      subst e1_ e2_ e3_
      have hM : mm_W D d cB L m0 1 ρ A H := hM
      have hW := hM.2.1
      exact W.iret (v := 0) hx hb hr (fun t ht hW9 => ⟨⟨0, (1, ρ), rfl, (mp_swapP1 (Or.inr ⟨c_10, c_18⟩)), by show mm_W D d cB L m0 _ _ A t.heap; rw [ht]; exact hM⟩, hS.F ht⟩) hS.2.2 dX6_swap_26
