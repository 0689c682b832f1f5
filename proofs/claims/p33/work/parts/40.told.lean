/-! TOLD'S METHODS while a house is founded -/
theorem tl_vp (xs : Nat → Int32) (N k : Nat) {m : Nat} (hm : 0 < m) (hm2 : m < 2 ^ 31) : ¬ tl_v xs N k (nI m) < 0 := by
  obtain ⟨j, hj, e⟩ := tl_v_in xs N k hm hm2
  rw [e]
  exact nI_pos (by omega)
theorem tl_vl (xs : Nat → Int32) (N k : Nat) {m a : Nat} (hm : 0 < m) (ha : m ≤ a + 1) (ha2 : a + 1 < 2 ^ 31) : tl_v xs N k (nI m) ≤ nI a := by
  obtain ⟨j, hj, e⟩ := tl_v_in xs N k hm (show m < 2 ^ 31 by omega)
  rw [e]
  exact nI_le (by omega) (by omega)
theorem tl_81 : ∀ v, v < 81 → ¬ (nI v - 40 < -40) ∧ nI v - 40 ≤ 40 := by decide +kernel
theorem tl_b40 (xs : Nat → Int32) (N k : Nat) : ¬ (tl_v xs N k 81 - 40 < -40) ∧ tl_v xs N k 81 - 40 ≤ 40 := by
  obtain ⟨j, hj, e⟩ := tl_v_in xs N k (m := 81) (by decide) (by decide)
  rw [show tl_v xs N k 81 = nI j from e]
  exact tl_81 j hj
set_option maxHeartbeats 4000000 in
set_option maxRecDepth 100000 in
/-- Told: person -/
theorem kX5_person (l : Launch) (D : va_G) (d : hs_Dm) (a0 w b : Nat) (cB : ClassId) (Lh L2 : hs_Lo) (Ah A : Nat → Prop) (N : Nat) (xs : Nat → Int32) (L : hs_Lo) (n : Nat → Nat) (c σ : hs_St) (sz : Nat) (hH : tl_H w b Ah A sz) (hN31 : N < 2 ^ 31) (P F R k dy : Nat) (G : tg P F R n c σ k dy) (hP9 : P ≤ 7) (hF7 : F ≤ 7) (hR4 : R ≤ 4) (hk20 : k < 2 ^ 20) (hP4 : P < 7) (x : Int32) (hx0 : ¬ x < 0) (hx9 : x ≤ 999) : tl_Mi l yX5_person wsX5_person ({ frames := 4, cells := 10, slots := 61, locals := 110 }) D d a0 w b cB Lh L2 Ah A N xs L n c σ sz [.ref a0, .int x] (fun r X => r = 1 ∧ X.2.2.2 = sp_newP σ P x (tl_v xs N k 1000) (tl_v xs N (k + 1) 1000) ∧ tg (P + 1) F R X.2.1 X.2.2.1 X.2.2.2 (k + 2) dy) 10 61 := by
  refine Met.ofW (cc := cX5_person) (maxL := 3) (ret := (some .boolean)) (by decide) rfl ?_
  intro p e s m args below meth c0 s₁ B hml hv
  obtain ⟨rfl, hsz, hB, hKK⟩ := hv
  have hx := B.exec
  have hb := B.bytes
  have hr := B.returns
  have hts := atoms_spec (ws := wsX5_person) B.pre
  have hown : s.vm.findClass RX5 = some m.cls := findClass_of_methodNamed B.named
  have hlocks := B.notSynchronized
  have hS : va_S A s.heap s.heap [] := va_S.rf
  have hH : tl_H w b Ah A s.heap.size := by rw [hsz]; exact hH
  have hl := lv_entry ([.ref a0, .int x]) (n := 3) (Nat.le_of_ble_eq_true rfl)
  rw [lg_entry_eq]
  generalize (lg_sl ([.ref a0, .int x]) ++ List.replicate (3 - (lg_sl ([.ref a0, .int x])).length) Slot.unset).toArray = ls at hl ⊢
  have hl : lv_has ls 3 [(0, .ref a0), (1, .int x)] := hl
  obtain ⟨hok, hpd, ⟨n1, n2, n3, n4, n5, n6, n7⟩, hk2, hd10, hd6, hpp, hff⟩ := id G
  refine lv_aload_n hx hb dX5_person_0 rfl (lv_at hl 0 rfl) ?_
  refine lv_aload_n hx hb dX5_person_1 rfl (lv_at hl 0 rfl) ?_
  refine tl_get hx hb hts (by decide +kernel) hown hKK.1 hB 3 (by decide) (hts (.fieldLink RX5 18 "WaxrowLaw$Told" "fame" "[[I") (by decide +kernel)) rfl (v := .ref (L 1 0)) rfl dX5_person_2 ?_
  refine lv_iconst (v := 3) hx hb dX5_person_5 (by decide) ?_
  refine tl_newa hx hb (hts (.arrayClass .int) (by decide +kernel)) hKK.1 hH.1 hB hS (by decide) (N' := 3) rfl (by decide) (Nat.le_of_ble_eq_true rfl) (Nat.le_of_ble_eq_true rfl) dX5_person_6 (fun H v1 hB nv1 hAv1 hv1 hz hS => ?_)
  refine lv_dup hx hb dX5_person_8 rfl ?_
  refine lv_iconst (v := 0) hx hb dX5_person_9 (by decide) ?_
  refine lv_iload_n hx hb dX5_person_10 rfl (lv_at hl 1 rfl) ?_
  refine tl_niast hx hb hKK.1 hB hS hv1 nv1 hAv1 (i := 0) (x := x) (by unfold vp_in; decide) dX5_person_11 (fun H locs hB hv1 hz hS => ?_)
  rw [show (0 : Int32).toNatClampNeg = 0 from by decide] at hv1
  refine lv_dup hx hb dX5_person_12 rfl ?_
  refine lv_iconst (v := 1) hx hb dX5_person_13 (by decide) ?_
  refine lv_aload_n hx hb dX5_person_14 rfl (lv_at hl 0 rfl) ?_
  refine lv_sipush (v := 1000) hx hb dX5_person_15 (by decide) ?_
  refine tl_draw (k := k) ⟨hx, hb, hml, hown, hts⟩ (cwV 1 hts gX5_person_X5_draw rfl rfl rfl (by decide +kernel) ⟨Nat.le_of_ble_eq_true rfl, Nat.le_of_ble_eq_true rfl⟩) hk2 (by omega) hN31 (by decide) hKK hH hB hS rfl hl.1 (Nat.le_of_ble_eq_true rfl) dX5_person_18 ⟨Nat.le_of_ble_eq_true rfl, Nat.le_of_ble_eq_true rfl⟩ rfl (fun H locs hB hz hqq hS => ?_)
  have hv1 := hv1.kept (hqq v1 hv1.lt (tl_ne0 hB nv1))
  have hB : tl_B D d a0 w b cB Lh Ah A L n (hs_sg c 0 0 2 (nI (k + 1))) σ H := hB
  refine tl_niast hx hb hKK.1 hB hS hv1 nv1 hAv1 (i := 1) (x := tl_v xs N k 1000) (by unfold vp_in; decide) dX5_person_21 (fun H locs hB hv1 hz hS => ?_)
  rw [show (1 : Int32).toNatClampNeg = 1 from by decide] at hv1
  refine lv_dup hx hb dX5_person_22 rfl ?_
  refine lv_iconst (v := 2) hx hb dX5_person_23 (by decide) ?_
  refine lv_aload_n hx hb dX5_person_24 rfl (lv_at hl 0 rfl) ?_
  refine lv_sipush (v := 1000) hx hb dX5_person_25 (by decide) ?_
  refine tl_draw (k := (k + 1)) ⟨hx, hb, hml, hown, hts⟩ (cwV 1 hts gX5_person_X5_draw rfl rfl rfl (by decide +kernel) ⟨Nat.le_of_ble_eq_true rfl, Nat.le_of_ble_eq_true rfl⟩) rfl (by omega) hN31 (by decide) hKK hH hB hS rfl hl.1 (Nat.le_of_ble_eq_true rfl) dX5_person_28 ⟨Nat.le_of_ble_eq_true rfl, Nat.le_of_ble_eq_true rfl⟩ rfl (fun H locs hB hz hqq hS => ?_)
  have hv1 := hv1.kept (hqq v1 hv1.lt (tl_ne0 hB nv1))
  have hB : tl_B D d a0 w b cB Lh Ah A L n (hs_sg (hs_sg c 0 0 2 (nI (k + 1))) 0 0 2 (nI (k + 1 + 1))) σ H := hB
  refine tl_niast hx hb hKK.1 hB hS hv1 nv1 hAv1 (i := 2) (x := tl_v xs N (k + 1) 1000) (by unfold vp_in; decide) dX5_person_31 (fun H locs hB hv1 hz hS => ?_)
  rw [show (2 : Int32).toNatClampNeg = 2 from by decide] at hv1
  have hBo := hB
  have hSo := hS
  have hvo := hv1
  refine tl_callp (k := 1) (v := v1) ⟨hx, hb, hml, hown, hts⟩ (va_cwS 2 hts gX5_person_X5_plus rfl rfl rfl (by decide +kernel) ⟨Nat.le_of_ble_eq_true rfl, Nat.le_of_ble_eq_true rfl⟩) (by have e_ : n 1 = P := (by simp [tl_gc, tl_gn, hs_sg, upd, n1, n2, n3, n4, n5, n6, n7]); omega) (by decide) (by decide) hKK hH hB hv1 hS rfl hl.1 (Nat.le_of_ble_eq_true rfl) dX5_person_32 ⟨Nat.le_of_ble_eq_true rfl, Nat.le_of_ble_eq_true rfl⟩ rfl (fun q2 H locs hq0 hq2 hv1 hB hz hS => ?_)
  have nq2 := hBo.nw hq0
  have hneq2 : v1 ≠ q2 := Nat.ne_of_lt (Nat.lt_of_lt_of_le hvo.lt hq0)
  have hAq2 : A q2 := hH.1 _ (Nat.le_trans hSo.1 hq0)
  refine tl_grow hx hb hts (by decide +kernel) hown hKK.1 hB hS 1 q2 v1 (by decide) (by decide) (hts (.fieldLink RX5 18 "WaxrowLaw$Told" "fame" "[[I") (by decide +kernel)) rfl rfl (by decide +kernel) hv1 hq2 nv1 nq2 hneq2 hAv1 hAq2 rfl dX5_person_35 (fun H locs hB hS hz => ?_)
  have hB : tl_B D d a0 w b cB Lh Ah A (tl_gL L 1 (n 1) q2 v1) (tl_gn n 1) (tl_gc (hs_sg (hs_sg c 0 0 2 (nI (k + 1))) 0 0 2 (nI (k + 1 + 1))) 1 (n 1) (upd (upd (upd (fun _ => 0) 0 x) 1 (tl_v xs N k 1000)) 2 (tl_v xs N (k + 1) 1000))) σ H := hB
  refine lv_aload_n hx hb dX5_person_38 rfl (lv_at hl 0 rfl) ?_
  refine lv_aload_n hx hb dX5_person_39 rfl (lv_at hl 0 rfl) ?_
  refine tl_get hx hb hts (by decide +kernel) hown hKK.1 hB 4 (by decide) (hts (.fieldLink RX5 22 "WaxrowLaw$Told" "trends" "[[I") (by decide +kernel)) rfl (v := .ref ((tl_gL L 1 (n 1) q2 v1) 2 0)) rfl dX5_person_40 ?_
  refine lv_iconst (v := 3) hx hb dX5_person_43 (by decide) ?_
  refine tl_newa hx hb (hts (.arrayClass .int) (by decide +kernel)) hKK.1 hH.1 hB hS (by decide) (N' := 3) rfl (by decide) (Nat.le_of_ble_eq_true rfl) (Nat.le_of_ble_eq_true rfl) dX5_person_44 (fun H v3 hB nv3 hAv3 hv3 hz hS => ?_)
  refine lv_dup hx hb dX5_person_46 rfl ?_
  refine lv_iconst (v := 0) hx hb dX5_person_47 (by decide) ?_
  refine lv_iconst (v := 0) hx hb dX5_person_48 (by decide) ?_
  refine tl_niast hx hb hKK.1 hB hS hv3 nv3 hAv3 (i := 0) (x := 0) (by unfold vp_in; decide) dX5_person_49 (fun H locs hB hv3 hz hS => ?_)
  rw [show (0 : Int32).toNatClampNeg = 0 from by decide] at hv3
  refine lv_dup hx hb dX5_person_50 rfl ?_
  refine lv_iconst (v := 1) hx hb dX5_person_51 (by decide) ?_
  refine lv_iconst (v := 0) hx hb dX5_person_52 (by decide) ?_
  refine tl_niast hx hb hKK.1 hB hS hv3 nv3 hAv3 (i := 1) (x := 0) (by unfold vp_in; decide) dX5_person_53 (fun H locs hB hv3 hz hS => ?_)
  rw [show (1 : Int32).toNatClampNeg = 1 from by decide] at hv3
  refine lv_dup hx hb dX5_person_54 rfl ?_
  refine lv_iconst (v := 2) hx hb dX5_person_55 (by decide) ?_
  refine lv_iconst (v := 0) hx hb dX5_person_56 (by decide) ?_
  refine tl_niast hx hb hKK.1 hB hS hv3 nv3 hAv3 (i := 2) (x := 0) (by unfold vp_in; decide) dX5_person_57 (fun H locs hB hv3 hz hS => ?_)
  rw [show (2 : Int32).toNatClampNeg = 2 from by decide] at hv3
  have hBo := hB
  have hSo := hS
  have hvo := hv3
  refine tl_callp (k := 2) (v := v3) ⟨hx, hb, hml, hown, hts⟩ (va_cwS 2 hts gX5_person_X5_plus rfl rfl rfl (by decide +kernel) ⟨Nat.le_of_ble_eq_true rfl, Nat.le_of_ble_eq_true rfl⟩) (by have e_ : (tl_gn n 1) 2 = P := (by simp [tl_gc, tl_gn, hs_sg, upd, n1, n2, n3, n4, n5, n6, n7]); omega) (by decide) (by decide) hKK hH hB hv3 hS rfl hl.1 (Nat.le_of_ble_eq_true rfl) dX5_person_58 ⟨Nat.le_of_ble_eq_true rfl, Nat.le_of_ble_eq_true rfl⟩ rfl (fun q4 H locs hq0 hq4 hv3 hB hz hS => ?_)
  have nq4 := hBo.nw hq0
  have hneq4 : v3 ≠ q4 := Nat.ne_of_lt (Nat.lt_of_lt_of_le hvo.lt hq0)
  have hAq4 : A q4 := hH.1 _ (Nat.le_trans hSo.1 hq0)
  refine tl_grow hx hb hts (by decide +kernel) hown hKK.1 hB hS 2 q4 v3 (by decide) (by decide) (hts (.fieldLink RX5 22 "WaxrowLaw$Told" "trends" "[[I") (by decide +kernel)) rfl rfl (by decide +kernel) hv3 hq4 nv3 nq4 hneq4 hAv3 hAq4 rfl dX5_person_61 (fun H locs hB hS hz => ?_)
  have hB : tl_B D d a0 w b cB Lh Ah A (tl_gL (tl_gL L 1 (n 1) q2 v1) 2 ((tl_gn n 1) 2) q4 v3) (tl_gn (tl_gn n 1) 2) (tl_gc (tl_gc (hs_sg (hs_sg c 0 0 2 (nI (k + 1))) 0 0 2 (nI (k + 1 + 1))) 1 (n 1) (upd (upd (upd (fun _ => 0) 0 x) 1 (tl_v xs N k 1000)) 2 (tl_v xs N (k + 1) 1000))) 2 ((tl_gn n 1) 2) (upd (upd (upd (fun _ => 0) 0 (0 : Int32)) 1 (0 : Int32)) 2 (0 : Int32))) σ H := hB
  refine lv_aload_n hx hb dX5_person_64 rfl (lv_at hl 0 rfl) ?_
  refine lv_aload_n hx hb dX5_person_65 rfl (lv_at hl 0 rfl) ?_
  refine tl_get hx hb hts (by decide +kernel) hown hKK.1 hB 5 (by decide) (hts (.fieldLink RX5 25 "WaxrowLaw$Told" "rest" "[[I") (by decide +kernel)) rfl (v := .ref ((tl_gL (tl_gL L 1 (n 1) q2 v1) 2 ((tl_gn n 1) 2) q4 v3) 3 0)) rfl dX5_person_66 ?_
  refine lv_iconst (v := 3) hx hb dX5_person_69 (by decide) ?_
  refine tl_newa hx hb (hts (.arrayClass .int) (by decide +kernel)) hKK.1 hH.1 hB hS (by decide) (N' := 3) rfl (by decide) (Nat.le_of_ble_eq_true rfl) (Nat.le_of_ble_eq_true rfl) dX5_person_70 (fun H v5 hB nv5 hAv5 hv5 hz hS => ?_)
  refine lv_dup hx hb dX5_person_72 rfl ?_
  refine lv_iconst (v := 0) hx hb dX5_person_73 (by decide) ?_
  refine lv_iconst (v := 0) hx hb dX5_person_74 (by decide) ?_
  refine tl_niast hx hb hKK.1 hB hS hv5 nv5 hAv5 (i := 0) (x := 0) (by unfold vp_in; decide) dX5_person_75 (fun H locs hB hv5 hz hS => ?_)
  rw [show (0 : Int32).toNatClampNeg = 0 from by decide] at hv5
  refine lv_dup hx hb dX5_person_76 rfl ?_
  refine lv_iconst (v := 1) hx hb dX5_person_77 (by decide) ?_
  refine lv_iconst (v := 0) hx hb dX5_person_78 (by decide) ?_
  refine tl_niast hx hb hKK.1 hB hS hv5 nv5 hAv5 (i := 1) (x := 0) (by unfold vp_in; decide) dX5_person_79 (fun H locs hB hv5 hz hS => ?_)
  rw [show (1 : Int32).toNatClampNeg = 1 from by decide] at hv5
  refine lv_dup hx hb dX5_person_80 rfl ?_
  refine lv_iconst (v := 2) hx hb dX5_person_81 (by decide) ?_
  refine lv_iconst (v := 0) hx hb dX5_person_82 (by decide) ?_
  refine tl_niast hx hb hKK.1 hB hS hv5 nv5 hAv5 (i := 2) (x := 0) (by unfold vp_in; decide) dX5_person_83 (fun H locs hB hv5 hz hS => ?_)
  rw [show (2 : Int32).toNatClampNeg = 2 from by decide] at hv5
  have hBo := hB
  have hSo := hS
  have hvo := hv5
  refine tl_callp (k := 3) (v := v5) ⟨hx, hb, hml, hown, hts⟩ (va_cwS 2 hts gX5_person_X5_plus rfl rfl rfl (by decide +kernel) ⟨Nat.le_of_ble_eq_true rfl, Nat.le_of_ble_eq_true rfl⟩) (by have e_ : (tl_gn (tl_gn n 1) 2) 3 = P := (by simp [tl_gc, tl_gn, hs_sg, upd, n1, n2, n3, n4, n5, n6, n7]); omega) (by decide) (by decide) hKK hH hB hv5 hS rfl hl.1 (Nat.le_of_ble_eq_true rfl) dX5_person_84 ⟨Nat.le_of_ble_eq_true rfl, Nat.le_of_ble_eq_true rfl⟩ rfl (fun q6 H locs hq0 hq6 hv5 hB hz hS => ?_)
  have nq6 := hBo.nw hq0
  have hneq6 : v5 ≠ q6 := Nat.ne_of_lt (Nat.lt_of_lt_of_le hvo.lt hq0)
  have hAq6 : A q6 := hH.1 _ (Nat.le_trans hSo.1 hq0)
  refine tl_grow hx hb hts (by decide +kernel) hown hKK.1 hB hS 3 q6 v5 (by decide) (by decide) (hts (.fieldLink RX5 25 "WaxrowLaw$Told" "rest" "[[I") (by decide +kernel)) rfl rfl (by decide +kernel) hv5 hq6 nv5 nq6 hneq6 hAv5 hAq6 rfl dX5_person_87 (fun H locs hB hS hz => ?_)
  have hB : tl_B D d a0 w b cB Lh Ah A (tl_gL (tl_gL (tl_gL L 1 (n 1) q2 v1) 2 ((tl_gn n 1) 2) q4 v3) 3 ((tl_gn (tl_gn n 1) 2) 3) q6 v5) (tl_gn (tl_gn (tl_gn n 1) 2) 3) (tl_gc (tl_gc (tl_gc (hs_sg (hs_sg c 0 0 2 (nI (k + 1))) 0 0 2 (nI (k + 1 + 1))) 1 (n 1) (upd (upd (upd (fun _ => 0) 0 x) 1 (tl_v xs N k 1000)) 2 (tl_v xs N (k + 1) 1000))) 2 ((tl_gn n 1) 2) (upd (upd (upd (fun _ => 0) 0 (0 : Int32)) 1 (0 : Int32)) 2 (0 : Int32))) 3 ((tl_gn (tl_gn n 1) 2) 3) (upd (upd (upd (fun _ => 0) 0 (0 : Int32)) 1 (0 : Int32)) 2 (0 : Int32))) σ H := hB
  refine lv_aload_n hx hb dX5_person_90 rfl (lv_at hl 0 rfl) ?_
  refine lv_aload_n hx hb dX5_person_91 rfl (lv_at hl 0 rfl) ?_
  refine tl_get hx hb hts (by decide +kernel) hown hKK.1 hB 6 (by decide) (hts (.fieldLink RX5 28 "WaxrowLaw$Told" "low" "[[I") (by decide +kernel)) rfl (v := .ref ((tl_gL (tl_gL (tl_gL L 1 (n 1) q2 v1) 2 ((tl_gn n 1) 2) q4 v3) 3 ((tl_gn (tl_gn n 1) 2) 3) q6 v5) 4 0)) rfl dX5_person_92 ?_
  refine lv_bipush (v := 6) hx hb dX5_person_95 (by decide) ?_
  refine tl_newa hx hb (hts (.arrayClass .int) (by decide +kernel)) hKK.1 hH.1 hB hS (by decide) (N' := 6) rfl (by decide) (Nat.le_of_ble_eq_true rfl) (Nat.le_of_ble_eq_true rfl) dX5_person_97 (fun H v7 hB nv7 hAv7 hv7 hz hS => ?_)
  refine lv_dup hx hb dX5_person_99 rfl ?_
  refine lv_iconst (v := 0) hx hb dX5_person_100 (by decide) ?_
  refine lv_iconst (v := 0) hx hb dX5_person_101 (by decide) ?_
  refine tl_niast hx hb hKK.1 hB hS hv7 nv7 hAv7 (i := 0) (x := 0) (by unfold vp_in; decide) dX5_person_102 (fun H locs hB hv7 hz hS => ?_)
  rw [show (0 : Int32).toNatClampNeg = 0 from by decide] at hv7
  refine lv_dup hx hb dX5_person_103 rfl ?_
  refine lv_iconst (v := 1) hx hb dX5_person_104 (by decide) ?_
  refine lv_iconst (v := 0) hx hb dX5_person_105 (by decide) ?_
  refine tl_niast hx hb hKK.1 hB hS hv7 nv7 hAv7 (i := 1) (x := 0) (by unfold vp_in; decide) dX5_person_106 (fun H locs hB hv7 hz hS => ?_)
  rw [show (1 : Int32).toNatClampNeg = 1 from by decide] at hv7
  refine lv_dup hx hb dX5_person_107 rfl ?_
  refine lv_iconst (v := 2) hx hb dX5_person_108 (by decide) ?_
  refine lv_iconst (v := 0) hx hb dX5_person_109 (by decide) ?_
  refine tl_niast hx hb hKK.1 hB hS hv7 nv7 hAv7 (i := 2) (x := 0) (by unfold vp_in; decide) dX5_person_110 (fun H locs hB hv7 hz hS => ?_)
  rw [show (2 : Int32).toNatClampNeg = 2 from by decide] at hv7
  refine lv_dup hx hb dX5_person_111 rfl ?_
  refine lv_iconst (v := 3) hx hb dX5_person_112 (by decide) ?_
  refine lv_iconst (v := 0) hx hb dX5_person_113 (by decide) ?_
  refine tl_niast hx hb hKK.1 hB hS hv7 nv7 hAv7 (i := 3) (x := 0) (by unfold vp_in; decide) dX5_person_114 (fun H locs hB hv7 hz hS => ?_)
  rw [show (3 : Int32).toNatClampNeg = 3 from by decide] at hv7
  refine lv_dup hx hb dX5_person_115 rfl ?_
  refine lv_iconst (v := 4) hx hb dX5_person_116 (by decide) ?_
  refine lv_iconst (v := 0) hx hb dX5_person_117 (by decide) ?_
  refine tl_niast hx hb hKK.1 hB hS hv7 nv7 hAv7 (i := 4) (x := 0) (by unfold vp_in; decide) dX5_person_118 (fun H locs hB hv7 hz hS => ?_)
  rw [show (4 : Int32).toNatClampNeg = 4 from by decide] at hv7
  refine lv_dup hx hb dX5_person_119 rfl ?_
  refine lv_iconst (v := 5) hx hb dX5_person_120 (by decide) ?_
  refine lv_iconst (v := 0) hx hb dX5_person_121 (by decide) ?_
  refine tl_niast hx hb hKK.1 hB hS hv7 nv7 hAv7 (i := 5) (x := 0) (by unfold vp_in; decide) dX5_person_122 (fun H locs hB hv7 hz hS => ?_)
  rw [show (5 : Int32).toNatClampNeg = 5 from by decide] at hv7
  have hBo := hB
  have hSo := hS
  have hvo := hv7
  refine tl_callp (k := 4) (v := v7) ⟨hx, hb, hml, hown, hts⟩ (va_cwS 2 hts gX5_person_X5_plus rfl rfl rfl (by decide +kernel) ⟨Nat.le_of_ble_eq_true rfl, Nat.le_of_ble_eq_true rfl⟩) (by have e_ : (tl_gn (tl_gn (tl_gn n 1) 2) 3) 4 = P := (by simp [tl_gc, tl_gn, hs_sg, upd, n1, n2, n3, n4, n5, n6, n7]); omega) (by decide) (by decide) hKK hH hB hv7 hS rfl hl.1 (Nat.le_of_ble_eq_true rfl) dX5_person_123 ⟨Nat.le_of_ble_eq_true rfl, Nat.le_of_ble_eq_true rfl⟩ rfl (fun q8 H locs hq0 hq8 hv7 hB hz hS => ?_)
  have nq8 := hBo.nw hq0
  have hneq8 : v7 ≠ q8 := Nat.ne_of_lt (Nat.lt_of_lt_of_le hvo.lt hq0)
  have hAq8 : A q8 := hH.1 _ (Nat.le_trans hSo.1 hq0)
  refine tl_grow hx hb hts (by decide +kernel) hown hKK.1 hB hS 4 q8 v7 (by decide) (by decide) (hts (.fieldLink RX5 28 "WaxrowLaw$Told" "low" "[[I") (by decide +kernel)) rfl rfl (by decide +kernel) hv7 hq8 nv7 nq8 hneq8 hAv7 hAq8 rfl dX5_person_126 (fun H locs hB hS hz => ?_)
  have hB : tl_B D d a0 w b cB Lh Ah A (tl_gL (tl_gL (tl_gL (tl_gL L 1 (n 1) q2 v1) 2 ((tl_gn n 1) 2) q4 v3) 3 ((tl_gn (tl_gn n 1) 2) 3) q6 v5) 4 ((tl_gn (tl_gn (tl_gn n 1) 2) 3) 4) q8 v7) (tl_gn (tl_gn (tl_gn (tl_gn n 1) 2) 3) 4) (tl_gc (tl_gc (tl_gc (tl_gc (hs_sg (hs_sg c 0 0 2 (nI (k + 1))) 0 0 2 (nI (k + 1 + 1))) 1 (n 1) (upd (upd (upd (fun _ => 0) 0 x) 1 (tl_v xs N k 1000)) 2 (tl_v xs N (k + 1) 1000))) 2 ((tl_gn n 1) 2) (upd (upd (upd (fun _ => 0) 0 (0 : Int32)) 1 (0 : Int32)) 2 (0 : Int32))) 3 ((tl_gn (tl_gn n 1) 2) 3) (upd (upd (upd (fun _ => 0) 0 (0 : Int32)) 1 (0 : Int32)) 2 (0 : Int32))) 4 ((tl_gn (tl_gn (tl_gn n 1) 2) 3) 4) (upd (upd (upd (upd (upd (upd (fun _ => 0) 0 (0 : Int32)) 1 (0 : Int32)) 2 (0 : Int32)) 3 (0 : Int32)) 4 (0 : Int32)) 5 (0 : Int32))) σ H := hB
  refine lv_aload_n hx hb dX5_person_129 rfl (lv_at hl 0 rfl) ?_
  refine lv_aload_n hx hb dX5_person_130 rfl (lv_at hl 0 rfl) ?_
  refine tl_get hx hb hts (by decide +kernel) hown hKK.1 hB 7 (by decide) (hts (.fieldLink RX5 31 "WaxrowLaw$Told" "high" "[[I") (by decide +kernel)) rfl (v := .ref ((tl_gL (tl_gL (tl_gL (tl_gL L 1 (n 1) q2 v1) 2 ((tl_gn n 1) 2) q4 v3) 3 ((tl_gn (tl_gn n 1) 2) 3) q6 v5) 4 ((tl_gn (tl_gn (tl_gn n 1) 2) 3) 4) q8 v7) 5 0)) rfl dX5_person_131 ?_
  refine lv_bipush (v := 6) hx hb dX5_person_134 (by decide) ?_
  refine tl_newa hx hb (hts (.arrayClass .int) (by decide +kernel)) hKK.1 hH.1 hB hS (by decide) (N' := 6) rfl (by decide) (Nat.le_of_ble_eq_true rfl) (Nat.le_of_ble_eq_true rfl) dX5_person_136 (fun H v9 hB nv9 hAv9 hv9 hz hS => ?_)
  refine lv_dup hx hb dX5_person_138 rfl ?_
  refine lv_iconst (v := 0) hx hb dX5_person_139 (by decide) ?_
  refine lv_bipush (v := 99) hx hb dX5_person_140 (by decide) ?_
  refine tl_niast hx hb hKK.1 hB hS hv9 nv9 hAv9 (i := 0) (x := 99) (by unfold vp_in; decide) dX5_person_142 (fun H locs hB hv9 hz hS => ?_)
  rw [show (0 : Int32).toNatClampNeg = 0 from by decide] at hv9
  refine lv_dup hx hb dX5_person_143 rfl ?_
  refine lv_iconst (v := 1) hx hb dX5_person_144 (by decide) ?_
  refine lv_bipush (v := 99) hx hb dX5_person_145 (by decide) ?_
  refine tl_niast hx hb hKK.1 hB hS hv9 nv9 hAv9 (i := 1) (x := 99) (by unfold vp_in; decide) dX5_person_147 (fun H locs hB hv9 hz hS => ?_)
  rw [show (1 : Int32).toNatClampNeg = 1 from by decide] at hv9
  refine lv_dup hx hb dX5_person_148 rfl ?_
  refine lv_iconst (v := 2) hx hb dX5_person_149 (by decide) ?_
  refine lv_bipush (v := 99) hx hb dX5_person_150 (by decide) ?_
  refine tl_niast hx hb hKK.1 hB hS hv9 nv9 hAv9 (i := 2) (x := 99) (by unfold vp_in; decide) dX5_person_152 (fun H locs hB hv9 hz hS => ?_)
  rw [show (2 : Int32).toNatClampNeg = 2 from by decide] at hv9
  refine lv_dup hx hb dX5_person_153 rfl ?_
  refine lv_iconst (v := 3) hx hb dX5_person_154 (by decide) ?_
  refine lv_bipush (v := 99) hx hb dX5_person_155 (by decide) ?_
  refine tl_niast hx hb hKK.1 hB hS hv9 nv9 hAv9 (i := 3) (x := 99) (by unfold vp_in; decide) dX5_person_157 (fun H locs hB hv9 hz hS => ?_)
  rw [show (3 : Int32).toNatClampNeg = 3 from by decide] at hv9
  refine lv_dup hx hb dX5_person_158 rfl ?_
  refine lv_iconst (v := 4) hx hb dX5_person_159 (by decide) ?_
  refine lv_bipush (v := 99) hx hb dX5_person_160 (by decide) ?_
  refine tl_niast hx hb hKK.1 hB hS hv9 nv9 hAv9 (i := 4) (x := 99) (by unfold vp_in; decide) dX5_person_162 (fun H locs hB hv9 hz hS => ?_)
  rw [show (4 : Int32).toNatClampNeg = 4 from by decide] at hv9
  refine lv_dup hx hb dX5_person_163 rfl ?_
  refine lv_iconst (v := 5) hx hb dX5_person_164 (by decide) ?_
  refine lv_bipush (v := 99) hx hb dX5_person_165 (by decide) ?_
  refine tl_niast hx hb hKK.1 hB hS hv9 nv9 hAv9 (i := 5) (x := 99) (by unfold vp_in; decide) dX5_person_167 (fun H locs hB hv9 hz hS => ?_)
  rw [show (5 : Int32).toNatClampNeg = 5 from by decide] at hv9
  have hBo := hB
  have hSo := hS
  have hvo := hv9
  refine tl_callp (k := 5) (v := v9) ⟨hx, hb, hml, hown, hts⟩ (va_cwS 2 hts gX5_person_X5_plus rfl rfl rfl (by decide +kernel) ⟨Nat.le_of_ble_eq_true rfl, Nat.le_of_ble_eq_true rfl⟩) (by have e_ : (tl_gn (tl_gn (tl_gn (tl_gn n 1) 2) 3) 4) 5 = P := (by simp [tl_gc, tl_gn, hs_sg, upd, n1, n2, n3, n4, n5, n6, n7]); omega) (by decide) (by decide) hKK hH hB hv9 hS rfl hl.1 (Nat.le_of_ble_eq_true rfl) dX5_person_168 ⟨Nat.le_of_ble_eq_true rfl, Nat.le_of_ble_eq_true rfl⟩ rfl (fun q10 H locs hq0 hq10 hv9 hB hz hS => ?_)
  have nq10 := hBo.nw hq0
  have hneq10 : v9 ≠ q10 := Nat.ne_of_lt (Nat.lt_of_lt_of_le hvo.lt hq0)
  have hAq10 : A q10 := hH.1 _ (Nat.le_trans hSo.1 hq0)
  refine tl_grow hx hb hts (by decide +kernel) hown hKK.1 hB hS 5 q10 v9 (by decide) (by decide) (hts (.fieldLink RX5 31 "WaxrowLaw$Told" "high" "[[I") (by decide +kernel)) rfl rfl (by decide +kernel) hv9 hq10 nv9 nq10 hneq10 hAv9 hAq10 rfl dX5_person_171 (fun H locs hB hS hz => ?_)
  have hB : tl_B D d a0 w b cB Lh Ah A (tl_gL (tl_gL (tl_gL (tl_gL (tl_gL L 1 (n 1) q2 v1) 2 ((tl_gn n 1) 2) q4 v3) 3 ((tl_gn (tl_gn n 1) 2) 3) q6 v5) 4 ((tl_gn (tl_gn (tl_gn n 1) 2) 3) 4) q8 v7) 5 ((tl_gn (tl_gn (tl_gn (tl_gn n 1) 2) 3) 4) 5) q10 v9) (tl_gn (tl_gn (tl_gn (tl_gn (tl_gn n 1) 2) 3) 4) 5) (tl_gc (tl_gc (tl_gc (tl_gc (tl_gc (hs_sg (hs_sg c 0 0 2 (nI (k + 1))) 0 0 2 (nI (k + 1 + 1))) 1 (n 1) (upd (upd (upd (fun _ => 0) 0 x) 1 (tl_v xs N k 1000)) 2 (tl_v xs N (k + 1) 1000))) 2 ((tl_gn n 1) 2) (upd (upd (upd (fun _ => 0) 0 (0 : Int32)) 1 (0 : Int32)) 2 (0 : Int32))) 3 ((tl_gn (tl_gn n 1) 2) 3) (upd (upd (upd (fun _ => 0) 0 (0 : Int32)) 1 (0 : Int32)) 2 (0 : Int32))) 4 ((tl_gn (tl_gn (tl_gn n 1) 2) 3) 4) (upd (upd (upd (upd (upd (upd (fun _ => 0) 0 (0 : Int32)) 1 (0 : Int32)) 2 (0 : Int32)) 3 (0 : Int32)) 4 (0 : Int32)) 5 (0 : Int32))) 5 ((tl_gn (tl_gn (tl_gn (tl_gn n 1) 2) 3) 4) 5) (upd (upd (upd (upd (upd (upd (fun _ => 0) 0 (99 : Int32)) 1 (99 : Int32)) 2 (99 : Int32)) 3 (99 : Int32)) 4 (99 : Int32)) 5 (99 : Int32))) σ H := hB
  refine lv_aload_n hx hb dX5_person_174 rfl (lv_at hl 0 rfl) ?_
  refine tl_get hx hb hts (by decide +kernel) hown hKK.1 hB 3 (by decide) (hts (.fieldLink RX5 18 "WaxrowLaw$Told" "fame" "[[I") (by decide +kernel)) rfl (v := .ref ((tl_gL (tl_gL (tl_gL (tl_gL (tl_gL L 1 (n 1) q2 v1) 2 ((tl_gn n 1) 2) q4 v3) 3 ((tl_gn (tl_gn n 1) 2) 3) q6 v5) 4 ((tl_gn (tl_gn (tl_gn n 1) 2) 3) 4) q8 v7) 5 ((tl_gn (tl_gn (tl_gn (tl_gn n 1) 2) 3) 4) 5) q10 v9) 1 0)) rfl dX5_person_175 ?_
  refine lv_aload_n hx hb dX5_person_178 rfl (lv_at hl 0 rfl) ?_
  refine tl_get hx hb hts (by decide +kernel) hown hKK.1 hB 3 (by decide) (hts (.fieldLink RX5 18 "WaxrowLaw$Told" "fame" "[[I") (by decide +kernel)) rfl (v := .ref ((tl_gL (tl_gL (tl_gL (tl_gL (tl_gL L 1 (n 1) q2 v1) 2 ((tl_gn n 1) 2) q4 v3) 3 ((tl_gn (tl_gn n 1) 2) 3) q6 v5) 4 ((tl_gn (tl_gn (tl_gn n 1) 2) 3) 4) q8 v7) 5 ((tl_gn (tl_gn (tl_gn (tl_gn n 1) 2) 3) 4) 5) q10 v9) 1 0)) rfl dX5_person_179 ?_
  refine tl_len hx hb hKK.2.1 hB 1 (by decide) (by decide) dX5_person_182 ?_
  rw [show (tl_gn (tl_gn (tl_gn (tl_gn (tl_gn n 1) 2) 3) 4) 5) 1 = P + 1 from (by simp [tl_gc, tl_gn, hs_sg, upd, n1, n2, n3, n4, n5, n6, n7])]
  refine lv_iconst (v := 1) hx hb dX5_person_183 (by decide) ?_
  refine lv_isub hx hb dX5_person_184 ?_
  rw [nI_pred]
  refine tl_aald hx hb hKK.2.1 hB 1 P (by decide) (by decide) (by have e_ : (tl_gn (tl_gn (tl_gn (tl_gn (tl_gn n 1) 2) 3) 4) 5) 1 = P + 1 := (by simp [tl_gc, tl_gn, hs_sg, upd, n1, n2, n3, n4, n5, n6, n7]); omega) (by omega) dX5_person_185 ?_
  refine lv_astore_n (lv' := [(2, .ref ((tl_gL (tl_gL (tl_gL (tl_gL (tl_gL L 1 (n 1) q2 v1) 2 ((tl_gn n 1) 2) q4 v3) 3 ((tl_gn (tl_gn n 1) 2) 3) q6 v5) 4 ((tl_gn (tl_gn (tl_gn n 1) 2) 3) 4) q8 v7) 5 ((tl_gn (tl_gn (tl_gn (tl_gn n 1) 2) 3) 4) 5) q10 v9) 11 P)), (0, .ref a0), (1, .int x)]) hx hb dX5_person_186 rfl hl (by decide) rfl (fun ls hl => ?_)
  refine lv_aload_n hx hb dX5_person_187 rfl (lv_at hl 1 rfl) ?_
  refine tl_get hx hb hts (by decide +kernel) hown hKK.1 hB 0 (by decide) (hts (.fieldLink RX5 10 "WaxrowLaw$Told" "m" "LWaxrow;") (by decide +kernel)) rfl (v := .ref w) rfl dX5_person_188 ?_
  refine lv_aload_n hx hb dX5_person_191 rfl (lv_at hl 0 rfl) ?_
  refine lv_iconst (v := 0) hx hb dX5_person_192 (by decide) ?_
  refine tl_iald hx hb hKK.1 hB 1 P (by decide) (by decide) (by have e_ : (tl_gn (tl_gn (tl_gn (tl_gn (tl_gn n 1) 2) 3) 4) 5) 1 = P + 1 := (by simp [tl_gc, tl_gn, hs_sg, upd, n1, n2, n3, n4, n5, n6, n7]); omega) (i := 0) (by unfold vp_in; decide) dX5_person_193 ?_
  rw [show (0 : Int32).toNatClampNeg = 0 from by decide]
  rw [show (tl_gc (tl_gc (tl_gc (tl_gc (tl_gc (hs_sg (hs_sg c 0 0 2 (nI (k + 1))) 0 0 2 (nI (k + 1 + 1))) 1 (n 1) (upd (upd (upd (fun _ => 0) 0 x) 1 (tl_v xs N k 1000)) 2 (tl_v xs N (k + 1) 1000))) 2 ((tl_gn n 1) 2) (upd (upd (upd (fun _ => 0) 0 (0 : Int32)) 1 (0 : Int32)) 2 (0 : Int32))) 3 ((tl_gn (tl_gn n 1) 2) 3) (upd (upd (upd (fun _ => 0) 0 (0 : Int32)) 1 (0 : Int32)) 2 (0 : Int32))) 4 ((tl_gn (tl_gn (tl_gn n 1) 2) 3) 4) (upd (upd (upd (upd (upd (upd (fun _ => 0) 0 (0 : Int32)) 1 (0 : Int32)) 2 (0 : Int32)) 3 (0 : Int32)) 4 (0 : Int32)) 5 (0 : Int32))) 5 ((tl_gn (tl_gn (tl_gn (tl_gn n 1) 2) 3) 4) 5) (upd (upd (upd (upd (upd (upd (fun _ => 0) 0 (99 : Int32)) 1 (99 : Int32)) 2 (99 : Int32)) 3 (99 : Int32)) 4 (99 : Int32)) 5 (99 : Int32))) 11 P 0 = x from by simp [tl_gc, tl_gn, hs_sg, upd, n1, n2, n3, n4, n5, n6, n7]]
  refine lv_aload_n hx hb dX5_person_194 rfl (lv_at hl 0 rfl) ?_
  refine lv_iconst (v := 1) hx hb dX5_person_195 (by decide) ?_
  refine tl_iald hx hb hKK.1 hB 1 P (by decide) (by decide) (by have e_ : (tl_gn (tl_gn (tl_gn (tl_gn (tl_gn n 1) 2) 3) 4) 5) 1 = P + 1 := (by simp [tl_gc, tl_gn, hs_sg, upd, n1, n2, n3, n4, n5, n6, n7]); omega) (i := 1) (by unfold vp_in; decide) dX5_person_196 ?_
  rw [show (1 : Int32).toNatClampNeg = 1 from by decide]
  rw [show (tl_gc (tl_gc (tl_gc (tl_gc (tl_gc (hs_sg (hs_sg c 0 0 2 (nI (k + 1))) 0 0 2 (nI (k + 1 + 1))) 1 (n 1) (upd (upd (upd (fun _ => 0) 0 x) 1 (tl_v xs N k 1000)) 2 (tl_v xs N (k + 1) 1000))) 2 ((tl_gn n 1) 2) (upd (upd (upd (fun _ => 0) 0 (0 : Int32)) 1 (0 : Int32)) 2 (0 : Int32))) 3 ((tl_gn (tl_gn n 1) 2) 3) (upd (upd (upd (fun _ => 0) 0 (0 : Int32)) 1 (0 : Int32)) 2 (0 : Int32))) 4 ((tl_gn (tl_gn (tl_gn n 1) 2) 3) 4) (upd (upd (upd (upd (upd (upd (fun _ => 0) 0 (0 : Int32)) 1 (0 : Int32)) 2 (0 : Int32)) 3 (0 : Int32)) 4 (0 : Int32)) 5 (0 : Int32))) 5 ((tl_gn (tl_gn (tl_gn (tl_gn n 1) 2) 3) 4) 5) (upd (upd (upd (upd (upd (upd (fun _ => 0) 0 (99 : Int32)) 1 (99 : Int32)) 2 (99 : Int32)) 3 (99 : Int32)) 4 (99 : Int32)) 5 (99 : Int32))) 11 P 1 = tl_v xs N k 1000 from by simp [tl_gc, tl_gn, hs_sg, upd, n1, n2, n3, n4, n5, n6, n7]]
  refine lv_aload_n hx hb dX5_person_197 rfl (lv_at hl 0 rfl) ?_
  refine lv_iconst (v := 2) hx hb dX5_person_198 (by decide) ?_
  refine tl_iald hx hb hKK.1 hB 1 P (by decide) (by decide) (by have e_ : (tl_gn (tl_gn (tl_gn (tl_gn (tl_gn n 1) 2) 3) 4) 5) 1 = P + 1 := (by simp [tl_gc, tl_gn, hs_sg, upd, n1, n2, n3, n4, n5, n6, n7]); omega) (i := 2) (by unfold vp_in; decide) dX5_person_199 ?_
  rw [show (2 : Int32).toNatClampNeg = 2 from by decide]
  rw [show (tl_gc (tl_gc (tl_gc (tl_gc (tl_gc (hs_sg (hs_sg c 0 0 2 (nI (k + 1))) 0 0 2 (nI (k + 1 + 1))) 1 (n 1) (upd (upd (upd (fun _ => 0) 0 x) 1 (tl_v xs N k 1000)) 2 (tl_v xs N (k + 1) 1000))) 2 ((tl_gn n 1) 2) (upd (upd (upd (fun _ => 0) 0 (0 : Int32)) 1 (0 : Int32)) 2 (0 : Int32))) 3 ((tl_gn (tl_gn n 1) 2) 3) (upd (upd (upd (fun _ => 0) 0 (0 : Int32)) 1 (0 : Int32)) 2 (0 : Int32))) 4 ((tl_gn (tl_gn (tl_gn n 1) 2) 3) 4) (upd (upd (upd (upd (upd (upd (fun _ => 0) 0 (0 : Int32)) 1 (0 : Int32)) 2 (0 : Int32)) 3 (0 : Int32)) 4 (0 : Int32)) 5 (0 : Int32))) 5 ((tl_gn (tl_gn (tl_gn (tl_gn n 1) 2) 3) 4) 5) (upd (upd (upd (upd (upd (upd (fun _ => 0) 0 (99 : Int32)) 1 (99 : Int32)) 2 (99 : Int32)) 3 (99 : Int32)) 4 (99 : Int32)) 5 (99 : Int32))) 11 P 2 = tl_v xs N (k + 1) 1000 from by simp [tl_gc, tl_gn, hs_sg, upd, n1, n2, n3, n4, n5, n6, n7]]
  refine tl_waxi (As := [.int x, .int (tl_v xs N k 1000), .int (tl_v xs N (k + 1) 1000)]) ⟨hx, hb, hml, hown, hts⟩ (kX4_person l D d Lh σ Ah w L2 (fun z => hH.2.2.1 (hH.2.1 w z)) P F R hok (by omega) x _ _ hx0 hx9 (tl_vp xs N k (m := 1000) (by decide) (by decide)) (tl_vl xs N k (m := 1000) (a := 999) (by decide) (by decide) (by decide)) (tl_vp xs N (k + 1) (m := 1000) (by decide) (by decide)) (tl_vl xs N (k + 1) (m := 1000) (a := 999) (by decide) (by decide) (by decide))) (cwV 3 hts gX5_person_X4_person rfl rfl rfl (by decide +kernel) ⟨Nat.le_of_ble_eq_true rfl, Nat.le_of_ble_eq_true rfl⟩) hKK hH hB hS rfl hl.1 (Nat.le_of_ble_eq_true rfl) dX5_person_200 ⟨Nat.le_of_ble_eq_true rfl, Nat.le_of_ble_eq_true rfl⟩ rfl (fun r_ τ_ H locs hp hB hz hS => ?_)
  obtain ⟨rfl, rfl⟩ := hp
  have hB : tl_B D d a0 w b cB Lh Ah A (tl_gL (tl_gL (tl_gL (tl_gL (tl_gL L 1 (n 1) q2 v1) 2 ((tl_gn n 1) 2) q4 v3) 3 ((tl_gn (tl_gn n 1) 2) 3) q6 v5) 4 ((tl_gn (tl_gn (tl_gn n 1) 2) 3) 4) q8 v7) 5 ((tl_gn (tl_gn (tl_gn (tl_gn n 1) 2) 3) 4) 5) q10 v9) (tl_gn (tl_gn (tl_gn (tl_gn (tl_gn n 1) 2) 3) 4) 5) (tl_gc (tl_gc (tl_gc (tl_gc (tl_gc (hs_sg (hs_sg c 0 0 2 (nI (k + 1))) 0 0 2 (nI (k + 1 + 1))) 1 (n 1) (upd (upd (upd (fun _ => 0) 0 x) 1 (tl_v xs N k 1000)) 2 (tl_v xs N (k + 1) 1000))) 2 ((tl_gn n 1) 2) (upd (upd (upd (fun _ => 0) 0 (0 : Int32)) 1 (0 : Int32)) 2 (0 : Int32))) 3 ((tl_gn (tl_gn n 1) 2) 3) (upd (upd (upd (fun _ => 0) 0 (0 : Int32)) 1 (0 : Int32)) 2 (0 : Int32))) 4 ((tl_gn (tl_gn (tl_gn n 1) 2) 3) 4) (upd (upd (upd (upd (upd (upd (fun _ => 0) 0 (0 : Int32)) 1 (0 : Int32)) 2 (0 : Int32)) 3 (0 : Int32)) 4 (0 : Int32)) 5 (0 : Int32))) 5 ((tl_gn (tl_gn (tl_gn (tl_gn n 1) 2) 3) 4) 5) (upd (upd (upd (upd (upd (upd (fun _ => 0) 0 (99 : Int32)) 1 (99 : Int32)) 2 (99 : Int32)) 3 (99 : Int32)) 4 (99 : Int32)) 5 (99 : Int32))) (sp_newP σ P x (tl_v xs N k 1000) (tl_v xs N (k + 1) 1000)) H := hB
  refine lv_aload_n hx hb dX5_person_203 rfl (lv_at hl 1 rfl) ?_
  refine tl_get hx hb hts (by decide +kernel) hown hKK.1 hB 3 (by decide) (hts (.fieldLink RX5 18 "WaxrowLaw$Told" "fame" "[[I") (by decide +kernel)) rfl (v := .ref ((tl_gL (tl_gL (tl_gL (tl_gL (tl_gL L 1 (n 1) q2 v1) 2 ((tl_gn n 1) 2) q4 v3) 3 ((tl_gn (tl_gn n 1) 2) 3) q6 v5) 4 ((tl_gn (tl_gn (tl_gn n 1) 2) 3) 4) q8 v7) 5 ((tl_gn (tl_gn (tl_gn (tl_gn n 1) 2) 3) 4) 5) q10 v9) 1 0)) rfl dX5_person_204 ?_
  refine tl_len hx hb hKK.2.1 hB 1 (by decide) (by decide) dX5_person_207 ?_
  rw [show (tl_gn (tl_gn (tl_gn (tl_gn (tl_gn n 1) 2) 3) 4) 5) 1 = P + 1 from (by simp [tl_gc, tl_gn, hs_sg, upd, n1, n2, n3, n4, n5, n6, n7])]
  refine lv_iconst (v := 1) hx hb dX5_person_208 (by decide) ?_
  refine lv_isub hx hb dX5_person_209 ?_
  rw [nI_pred]
  refine lv_icmp_ne (tgt := 217) hx hb dX5_person_210 (by decide) (fun c_210 => ?_) (fun c_210 => ?_)
  · exact absurd rfl c_210
  · refine lv_iconst (v := 1) hx hb dX5_person_213 (by decide) ?_
    refine lv_goto (tgt := 218) hx hb dX5_person_214 (by decide) ?_
    refine W.widen (k := 10) (n := 61) (Nat.le_of_ble_eq_true rfl) (Nat.le_of_ble_eq_true rfl) ?_
    exact W.zret (v := 1) (ty := .boolean) hx hb hr rfl (fun U9 ht hW9 => ⟨⟨1, (tl_gL (tl_gL (tl_gL (tl_gL (tl_gL L 1 (n 1) q2 v1) 2 ((tl_gn n 1) 2) q4 v3) 3 ((tl_gn (tl_gn n 1) 2) 3) q6 v5) 4 ((tl_gn (tl_gn (tl_gn n 1) 2) 3) 4) q8 v7) 5 ((tl_gn (tl_gn (tl_gn (tl_gn n 1) 2) 3) 4) 5) q10 v9, tl_gn (tl_gn (tl_gn (tl_gn (tl_gn n 1) 2) 3) 4) 5, tl_gc (tl_gc (tl_gc (tl_gc (tl_gc (hs_sg (hs_sg c 0 0 2 (nI (k + 1))) 0 0 2 (nI (k + 1 + 1))) 1 (n 1) (upd (upd (upd (fun _ => 0) 0 x) 1 (tl_v xs N k 1000)) 2 (tl_v xs N (k + 1) 1000))) 2 ((tl_gn n 1) 2) (upd (upd (upd (fun _ => 0) 0 (0 : Int32)) 1 (0 : Int32)) 2 (0 : Int32))) 3 ((tl_gn (tl_gn n 1) 2) 3) (upd (upd (upd (fun _ => 0) 0 (0 : Int32)) 1 (0 : Int32)) 2 (0 : Int32))) 4 ((tl_gn (tl_gn (tl_gn n 1) 2) 3) 4) (upd (upd (upd (upd (upd (upd (fun _ => 0) 0 (0 : Int32)) 1 (0 : Int32)) 2 (0 : Int32)) 3 (0 : Int32)) 4 (0 : Int32)) 5 (0 : Int32))) 5 ((tl_gn (tl_gn (tl_gn (tl_gn n 1) 2) 3) 4) 5) (upd (upd (upd (upd (upd (upd (fun _ => 0) 0 (99 : Int32)) 1 (99 : Int32)) 2 (99 : Int32)) 3 (99 : Int32)) 4 (99 : Int32)) 5 (99 : Int32)), sp_newP σ P x (tl_v xs N k 1000) (tl_v xs N (k + 1) 1000)), rfl, ⟨rfl, rfl, tg_person G (by omega) x _ _ ⟨by simp [tl_gn, n1], by simp [tl_gn, n2], by simp [tl_gn, n3], by simp [tl_gn, n4], by simp [tl_gn, n5], by simp [tl_gn, n6], by simp [tl_gn, n7]⟩ rfl rfl (fun a q j ha hq => by rcases ha with rfl | rfl | rfl <;> simp [tl_gc, tl_gn, hs_sg, n1, n2, n3, n4, n5, Nat.ne_of_lt hq]) (fun j hj => by rcases (show j = 0 ∨ j = 1 ∨ j = 2 by omega) with rfl | rfl | rfl <;> simp [tl_gc, tl_gn, hs_sg, upd, n1, n2, n3, n4, n5, n6, n7]) (fun j hj => by rcases (show j = 0 ∨ j = 1 ∨ j = 2 ∨ j = 3 ∨ j = 4 ∨ j = 5 by omega) with rfl | rfl | rfl | rfl | rfl | rfl <;> simp [tl_gc, tl_gn, hs_sg, upd, n1, n2, n3, n4, n5, n6, n7]) (fun j hj => by rcases (show j = 0 ∨ j = 1 ∨ j = 2 ∨ j = 3 ∨ j = 4 ∨ j = 5 by omega) with rfl | rfl | rfl | rfl | rfl | rfl <;> simp [tl_gc, tl_gn, hs_sg, upd, n1, n2, n3, n4, n5, n6, n7]) (fun f j => by simp [tl_gc, tl_gn, hs_sg])⟩, by show tl_Bx D d a0 w b cB Lh Ah A _ U9.heap; rw [ht]; exact hB⟩, hS.F ht⟩) hS.2.2 dX5_person_218
set_option maxHeartbeats 4000000 in
set_option maxRecDepth 100000 in
/-- Told: trend -/
theorem kX5_trend (l : Launch) (D : va_G) (d : hs_Dm) (a0 w b : Nat) (cB : ClassId) (Lh L2 : hs_Lo) (Ah A : Nat → Prop) (N : Nat) (xs : Nat → Int32) (L : hs_Lo) (n : Nat → Nat) (c σ : hs_St) (sz : Nat) (hH : tl_H w b Ah A sz) (hN31 : N < 2 ^ 31) (P F R k dy : Nat) (G : tg P F R n c σ k dy) (hP9 : P ≤ 7) (hF7 : F ≤ 7) (hR4 : R ≤ 4) (hk20 : k < 2 ^ 20) (hP1 : 1 ≤ P) : tl_Mi l yX5_trend wsX5_trend ({ frames := 3, cells := 0, slots := 0, locals := 90 }) D d a0 w b cB Lh L2 Ah A N xs L n c σ sz [.ref a0] (fun r X => r = 1 ∧ X.2.2.2 = hs_sg σ 6 (tl_v xs N k (nI P)).toNatClampNeg (tl_v xs N (k + 1) 3).toNatClampNeg (tl_v xs N (k + 2) 81 - 40) ∧ tg P F R X.2.1 X.2.2.1 X.2.2.2 (k + 3) dy) 0 0 := by
  refine Met.ofW (cc := cX5_trend) (maxL := 4) (ret := (some .boolean)) (by decide) rfl ?_
  intro p e s m args below meth c0 s₁ B hml hv
  obtain ⟨rfl, hsz, hB, hKK⟩ := hv
  have hx := B.exec
  have hb := B.bytes
  have hr := B.returns
  have hts := atoms_spec (ws := wsX5_trend) B.pre
  have hown : s.vm.findClass RX5 = some m.cls := findClass_of_methodNamed B.named
  have hlocks := B.notSynchronized
  have hS : va_S A s.heap s.heap [] := va_S.rf
  have hH : tl_H w b Ah A s.heap.size := by rw [hsz]; exact hH
  have hl := lv_entry ([.ref a0]) (n := 4) (Nat.le_of_ble_eq_true rfl)
  rw [lg_entry_eq]
  generalize (lg_sl ([.ref a0]) ++ List.replicate (4 - (lg_sl ([.ref a0])).length) Slot.unset).toArray = ls at hl ⊢
  have hl : lv_has ls 4 [(0, .ref a0)] := hl
  obtain ⟨hok, hpd, ⟨n1, n2, n3, n4, n5, n6, n7⟩, hk2, hd10, hd6, hpp, hff⟩ := id G
  refine lv_aload_n hx hb dX5_trend_0 rfl (lv_at hl 0 rfl) ?_
  refine lv_aload_n hx hb dX5_trend_1 rfl (lv_at hl 0 rfl) ?_
  refine tl_get hx hb hts (by decide +kernel) hown hKK.1 hB 3 (by decide) (hts (.fieldLink RX5 18 "WaxrowLaw$Told" "fame" "[[I") (by decide +kernel)) rfl (v := .ref (L 1 0)) rfl dX5_trend_2 ?_
  refine tl_len hx hb hKK.2.1 hB 1 (by decide) (by decide) dX5_trend_5 ?_
  rw [show n 1 = P from (by simp [tl_gc, tl_gn, hs_sg, upd, n1, n2, n3, n4, n5, n6, n7])]
  refine tl_draw (k := k) ⟨hx, hb, hml, hown, hts⟩ (cwV 1 hts gX5_trend_X5_draw rfl rfl rfl (by decide +kernel) ⟨Nat.le_of_ble_eq_true rfl, Nat.le_of_ble_eq_true rfl⟩) hk2 (by omega) hN31 (nI_ne0 (by omega) (by omega)) hKK hH hB hS rfl hl.1 (Nat.le_of_ble_eq_true rfl) dX5_trend_6 ⟨Nat.le_of_ble_eq_true rfl, Nat.le_of_ble_eq_true rfl⟩ rfl (fun H locs hB hz hqq hS => ?_)
  have hB : tl_B D d a0 w b cB Lh Ah A L n (hs_sg c 0 0 2 (nI (k + 1))) σ H := hB
  obtain ⟨p, hp, ep⟩ := tl_v_in xs N k (m := P) (by omega) (by omega)
  rw [show tl_v xs N k (nI P) = nI p from ep]
  refine lv_istore_n (lv' := [(1, .int (nI p)), (0, .ref a0)]) hx hb dX5_trend_9 rfl hl (by decide) rfl (fun ls hl => ?_)
  refine lv_aload_n hx hb dX5_trend_10 rfl (lv_at hl 1 rfl) ?_
  refine lv_iconst (v := 3) hx hb dX5_trend_11 (by decide) ?_
  refine tl_draw (k := (k + 1)) ⟨hx, hb, hml, hown, hts⟩ (cwV 1 hts gX5_trend_X5_draw rfl rfl rfl (by decide +kernel) ⟨Nat.le_of_ble_eq_true rfl, Nat.le_of_ble_eq_true rfl⟩) rfl (by omega) hN31 (by decide) hKK hH hB hS rfl hl.1 (Nat.le_of_ble_eq_true rfl) dX5_trend_12 ⟨Nat.le_of_ble_eq_true rfl, Nat.le_of_ble_eq_true rfl⟩ rfl (fun H locs hB hz hqq hS => ?_)
  have hB : tl_B D d a0 w b cB Lh Ah A L n (hs_sg (hs_sg c 0 0 2 (nI (k + 1))) 0 0 2 (nI (k + 1 + 1))) σ H := hB
  obtain ⟨j, hj, ej⟩ := tl_v_in xs N (k + 1) (m := 3) (by omega) (by omega)
  rw [show tl_v xs N (k + 1) 3 = nI j from ej]
  refine lv_istore_n (lv' := [(2, .int (nI j)), (1, .int (nI p)), (0, .ref a0)]) hx hb dX5_trend_15 rfl hl (by decide) rfl (fun ls hl => ?_)
  refine lv_aload_n hx hb dX5_trend_16 rfl (lv_at hl 2 rfl) ?_
  refine tl_get hx hb hts (by decide +kernel) hown hKK.1 hB 4 (by decide) (hts (.fieldLink RX5 22 "WaxrowLaw$Told" "trends" "[[I") (by decide +kernel)) rfl (v := .ref (L 2 0)) rfl dX5_trend_17 ?_
  refine lv_iload_n hx hb dX5_trend_20 rfl (lv_at hl 1 rfl) ?_
  refine tl_aald hx hb hKK.2.1 hB 2 p (by decide) (by decide) (by have e_ : n 2 = P := (by simp [tl_gc, tl_gn, hs_sg, upd, n1, n2, n3, n4, n5, n6, n7]); omega) (by omega) dX5_trend_21 ?_
  refine lv_iload_n hx hb dX5_trend_22 rfl (lv_at hl 0 rfl) ?_
  refine tl_iald hx hb hKK.1 hB 2 p (by decide) (by decide) (by have e_ : n 2 = P := (by simp [tl_gc, tl_gn, hs_sg, upd, n1, n2, n3, n4, n5, n6, n7]); omega) (i := nI j) (vp_in_nI (show j < tl_wd 12 from hj) (by decide)) dX5_trend_23 ?_
  rw [show (nI j : Int32).toNatClampNeg = j from nI_clamp (by omega)]
  rw [show (hs_sg (hs_sg c 0 0 2 (nI (k + 1))) 0 0 2 (nI (k + 1 + 1))) 12 p j = σ 6 p j from (hpp p hp).1 j hj]
  refine lv_istore_n (lv' := [(3, .int (σ 6 p j)), (2, .int (nI j)), (1, .int (nI p)), (0, .ref a0)]) hx hb dX5_trend_24 rfl hl (by decide) rfl (fun ls hl => ?_)
  refine lv_aload_n hx hb dX5_trend_25 rfl (lv_at hl 3 rfl) ?_
  refine tl_get hx hb hts (by decide +kernel) hown hKK.1 hB 4 (by decide) (hts (.fieldLink RX5 22 "WaxrowLaw$Told" "trends" "[[I") (by decide +kernel)) rfl (v := .ref (L 2 0)) rfl dX5_trend_26 ?_
  refine lv_iload_n hx hb dX5_trend_29 rfl (lv_at hl 2 rfl) ?_
  refine tl_aald hx hb hKK.2.1 hB 2 p (by decide) (by decide) (by have e_ : n 2 = P := (by simp [tl_gc, tl_gn, hs_sg, upd, n1, n2, n3, n4, n5, n6, n7]); omega) (by omega) dX5_trend_30 ?_
  refine lv_iload_n hx hb dX5_trend_31 rfl (lv_at hl 1 rfl) ?_
  refine lv_aload_n hx hb dX5_trend_32 rfl (lv_at hl 3 rfl) ?_
  refine lv_bipush (v := 81) hx hb dX5_trend_33 (by decide) ?_
  refine tl_draw (k := (k + 1 + 1)) ⟨hx, hb, hml, hown, hts⟩ (cwV 1 hts gX5_trend_X5_draw rfl rfl rfl (by decide +kernel) ⟨Nat.le_of_ble_eq_true rfl, Nat.le_of_ble_eq_true rfl⟩) rfl (by omega) hN31 (by decide) hKK hH hB hS rfl hl.1 (Nat.le_of_ble_eq_true rfl) dX5_trend_35 ⟨Nat.le_of_ble_eq_true rfl, Nat.le_of_ble_eq_true rfl⟩ rfl (fun H locs hB hz hqq hS => ?_)
  have hB : tl_B D d a0 w b cB Lh Ah A L n (hs_sg (hs_sg (hs_sg c 0 0 2 (nI (k + 1))) 0 0 2 (nI (k + 1 + 1))) 0 0 2 (nI (k + 1 + 1 + 1))) σ H := hB
  refine lv_bipush (v := 40) hx hb dX5_trend_38 (by decide) ?_
  refine lv_isub hx hb dX5_trend_40 ?_
  refine tl_iast hx hb hKK.1 hB hS 2 p (by decide) (by decide) (by have e_ : n 2 = P := (by simp [tl_gc, tl_gn, hs_sg, upd, n1, n2, n3, n4, n5, n6, n7]); omega) (i := nI j) (x := (tl_v xs N (k + 1 + 1) 81) - 40) (vp_in_nI (show j < tl_wd 12 from hj) (by decide)) dX5_trend_41 (fun H locs hB hS hz => ?_)
  rw [show (nI j : Int32).toNatClampNeg = j from nI_clamp (by omega)] at hB
  have hB : tl_B D d a0 w b cB Lh Ah A L n (hs_sg (hs_sg (hs_sg (hs_sg c 0 0 2 (nI (k + 1))) 0 0 2 (nI (k + 1 + 1))) 0 0 2 (nI (k + 1 + 1 + 1))) 12 p j ((tl_v xs N (k + 1 + 1) 81) - 40)) σ H := hB
  refine lv_aload_n hx hb dX5_trend_42 rfl (lv_at hl 3 rfl) ?_
  refine tl_get hx hb hts (by decide +kernel) hown hKK.1 hB 0 (by decide) (hts (.fieldLink RX5 10 "WaxrowLaw$Told" "m" "LWaxrow;") (by decide +kernel)) rfl (v := .ref w) rfl dX5_trend_43 ?_
  refine lv_iload_n hx hb dX5_trend_46 rfl (lv_at hl 2 rfl) ?_
  refine lv_iload_n hx hb dX5_trend_47 rfl (lv_at hl 1 rfl) ?_
  refine lv_aload_n hx hb dX5_trend_48 rfl (lv_at hl 3 rfl) ?_
  refine tl_get hx hb hts (by decide +kernel) hown hKK.1 hB 4 (by decide) (hts (.fieldLink RX5 22 "WaxrowLaw$Told" "trends" "[[I") (by decide +kernel)) rfl (v := .ref (L 2 0)) rfl dX5_trend_49 ?_
  refine lv_iload_n hx hb dX5_trend_52 rfl (lv_at hl 2 rfl) ?_
  refine tl_aald hx hb hKK.2.1 hB 2 p (by decide) (by decide) (by have e_ : n 2 = P := (by simp [tl_gc, tl_gn, hs_sg, upd, n1, n2, n3, n4, n5, n6, n7]); omega) (by omega) dX5_trend_53 ?_
  refine lv_iload_n hx hb dX5_trend_54 rfl (lv_at hl 1 rfl) ?_
  refine tl_iald hx hb hKK.1 hB 2 p (by decide) (by decide) (by have e_ : n 2 = P := (by simp [tl_gc, tl_gn, hs_sg, upd, n1, n2, n3, n4, n5, n6, n7]); omega) (i := nI j) (vp_in_nI (show j < tl_wd 12 from hj) (by decide)) dX5_trend_55 ?_
  rw [show (nI j : Int32).toNatClampNeg = j from nI_clamp (by omega)]
  rw [show (hs_sg (hs_sg (hs_sg (hs_sg c 0 0 2 (nI (k + 1))) 0 0 2 (nI (k + 1 + 1))) 0 0 2 (nI (k + 1 + 1 + 1))) 12 p j ((tl_v xs N (k + 1 + 1) 81) - 40)) 12 p j = tl_v xs N (k + 2) 81 - 40 from by simp [hs_sg]]
  refine tl_waxi (As := [.int (nI p), .int (nI j), .int (tl_v xs N (k + 2) 81 - 40)]) ⟨hx, hb, hml, hown, hts⟩ (kX4_trend l D d Lh σ Ah w L2 (fun z => hH.2.2.1 (hH.2.1 w z)) P F R hok p hp j hj _ (tl_b40 xs N (k + 2)).1 (tl_b40 xs N (k + 2)).2) (cwV 3 hts gX5_trend_X4_trend rfl rfl rfl (by decide +kernel) ⟨Nat.le_of_ble_eq_true rfl, Nat.le_of_ble_eq_true rfl⟩) hKK hH hB hS rfl hl.1 (Nat.le_of_ble_eq_true rfl) dX5_trend_56 ⟨Nat.le_of_ble_eq_true rfl, Nat.le_of_ble_eq_true rfl⟩ rfl (fun r_ τ_ H locs hp_ hB hz hS => ?_)
  obtain ⟨rfl, rfl⟩ := hp_
  have hB : tl_B D d a0 w b cB Lh Ah A L n (hs_sg (hs_sg (hs_sg (hs_sg c 0 0 2 (nI (k + 1))) 0 0 2 (nI (k + 1 + 1))) 0 0 2 (nI (k + 1 + 1 + 1))) 12 p j ((tl_v xs N (k + 1 + 1) 81) - 40)) (hs_sg σ 6 p j (tl_v xs N (k + 2) 81 - 40)) H := hB
  refine lv_iload_n hx hb dX5_trend_59 rfl (lv_at hl 0 rfl) ?_
  refine lv_icmp_ne (tgt := 67) hx hb dX5_trend_60 (by decide) (fun c_60 => ?_) (fun c_60 => ?_)
  · exact absurd rfl c_60
  · refine lv_iconst (v := 1) hx hb dX5_trend_63 (by decide) ?_
    refine lv_goto (tgt := 68) hx hb dX5_trend_64 (by decide) ?_
    exact W.zret (v := 1) (ty := .boolean) hx hb hr rfl (fun U9 ht hW9 => ⟨⟨1, (L, n, hs_sg (hs_sg (hs_sg (hs_sg c 0 0 2 (nI (k + 1))) 0 0 2 (nI (k + 1 + 1))) 0 0 2 (nI (k + 1 + 1 + 1))) 12 p j ((tl_v xs N (k + 1 + 1) 81) - 40), hs_sg σ 6 p j (tl_v xs N (k + 2) 81 - 40)), rfl, ⟨rfl, by simp only [nI_clamp (show p < 2 ^ 31 by omega), nI_clamp (show j < 2 ^ 31 by omega)], tg_trend G p j hp hj _ rfl rfl (fun a i e_ h1 h2 => by simp only [hs_sg]; repeat rw [if_neg (by omega)]) (by simp [hs_sg])⟩, by show tl_Bx D d a0 w b cB Lh Ah A _ U9.heap; rw [ht]; exact hB⟩, hS.F ht⟩) hS.2.2 dX5_trend_68
set_option maxHeartbeats 4000000 in
set_option maxRecDepth 100000 in
/-- Told: consent 0 -/
theorem kX5_consent_0 (l : Launch) (D : va_G) (d : hs_Dm) (a0 w b : Nat) (cB : ClassId) (Lh L2 : hs_Lo) (Ah A : Nat → Prop) (N : Nat) (xs : Nat → Int32) (L : hs_Lo) (n : Nat → Nat) (c σ : hs_St) (sz : Nat) (hH : tl_H w b Ah A sz) (hN31 : N < 2 ^ 31) (P R k dy : Nat) (G : tg P 0 R n c σ k dy) (hP9 : P ≤ 7) (hR4 : R ≤ 4) (hk20 : k < 2 ^ 20) (q : Nat) (hq : q < P) : tl_Mi l yX5_consent wsX5_consent ({ frames := 3, cells := 0, slots := 0, locals := 90 }) D d a0 w b cB Lh L2 Ah A N xs L n c σ sz [.ref a0, .int (nI q), .int 0] (fun r X => r = 1 ∧ X.2.2.2 = hs_sg σ 4 q 5 0 ∧ tg P 0 R X.2.1 X.2.2.1 X.2.2.2 k dy) 0 0 := by
  refine Met.ofW (cc := cX5_consent) (maxL := 8) (ret := (some .boolean)) (by decide) rfl ?_
  intro p e s m args below meth c0 s₁ B hml hv
  obtain ⟨rfl, hsz, hB, hKK⟩ := hv
  have hx := B.exec
  have hb := B.bytes
  have hr := B.returns
  have hts := atoms_spec (ws := wsX5_consent) B.pre
  have hown : s.vm.findClass RX5 = some m.cls := findClass_of_methodNamed B.named
  have hlocks := B.notSynchronized
  have hS : va_S A s.heap s.heap [] := va_S.rf
  have hH : tl_H w b Ah A s.heap.size := by rw [hsz]; exact hH
  have hl := lv_entry ([.ref a0, .int (nI q), .int 0]) (n := 8) (Nat.le_of_ble_eq_true rfl)
  rw [lg_entry_eq]
  generalize (lg_sl ([.ref a0, .int (nI q), .int 0]) ++ List.replicate (8 - (lg_sl ([.ref a0, .int (nI q), .int 0])).length) Slot.unset).toArray = ls at hl ⊢
  have hl : lv_has ls 8 [(0, .ref a0), (1, .int (nI q)), (2, .int 0)] := hl
  obtain ⟨hok, hpd, ⟨n1, n2, n3, n4, n5, n6, n7⟩, hk2, hd10, hd6, hpp, hff⟩ := id G
  refine lv_aload_n hx hb dX5_consent_0 rfl (lv_at hl 0 rfl) ?_
  refine tl_get hx hb hts (by decide +kernel) hown hKK.1 hB 5 (by decide) (hts (.fieldLink RX5 25 "WaxrowLaw$Told" "rest" "[[I") (by decide +kernel)) rfl (v := .ref (L 3 0)) rfl dX5_consent_1 ?_
  refine lv_iload_n hx hb dX5_consent_4 rfl (lv_at hl 1 rfl) ?_
  refine tl_aald hx hb hKK.2.1 hB 3 q (by decide) (by decide) (by rw [n3]; exact hq) (by omega) dX5_consent_5 ?_
  refine lv_iconst (v := 0) hx hb dX5_consent_6 (by decide) ?_
  refine lv_iload_n hx hb dX5_consent_7 rfl (lv_at hl 2 rfl) ?_
  refine lv_if_eq (tgt := 15) hx hb dX5_consent_8 (by decide) (fun c_8 => ?_) (fun c_8 => ?_)
  · refine lv_iconst (v := 0) hx hb dX5_consent_15 (by decide) ?_
    refine tl_iast hx hb hKK.1 hB hS 3 q (by decide) (by decide) (by rw [n3]; exact hq) (i := 0) (x := 0) (by unfold vp_in; decide) dX5_consent_16 (fun H locs hB hS hz => ?_)
    rw [show (0 : Int32).toNatClampNeg = 0 from by decide] at hB
    have hB : tl_B D d a0 w b cB Lh Ah A L n (hs_sg c 13 q 0 (0 : Int32)) σ H := hB
    refine lv_iconst (v := 0) hx hb dX5_consent_17 (by decide) ?_
    refine lv_istore_n (lv' := [(3, .int 0), (0, .ref a0), (1, .int (nI q)), (2, .int 0)]) hx hb dX5_consent_18 rfl hl (by decide) rfl (fun ls hl => ?_)
    refine lv_aload_n hx hb dX5_consent_19 rfl (lv_at hl 1 rfl) ?_
    refine tl_get hx hb hts (by decide +kernel) hown hKK.1 hB 8 (by decide) (hts (.fieldLink RX5 34 "WaxrowLaw$Told" "figures" "[[I") (by decide +kernel)) rfl (v := .ref (L 6 0)) rfl dX5_consent_20 ?_
    refine lv_astore (lv' := [(4, .ref (L 6 0)), (3, .int 0), (0, .ref a0), (1, .int (nI q)), (2, .int 0)]) hx hb dX5_consent_23 hl (by decide) rfl (fun ls hl => ?_)
    refine lv_aload hx hb dX5_consent_25 (lv_at hl 0 rfl) ?_
    refine tl_len hx hb hKK.2.1 hB 6 (by decide) (by decide) dX5_consent_27 ?_
    rw [show n 6 = 0 from n6]
    refine lv_istore (lv' := [(5, .int (nI 0)), (4, .ref (L 6 0)), (3, .int 0), (0, .ref a0), (1, .int (nI q)), (2, .int 0)]) hx hb dX5_consent_28 hl (by decide) rfl (fun ls hl => ?_)
    refine lv_iconst (v := 0) hx hb dX5_consent_30 (by decide) ?_
    refine lv_istore (lv' := [(6, .int 0), (5, .int (nI 0)), (4, .ref (L 6 0)), (3, .int 0), (0, .ref a0), (1, .int (nI q)), (2, .int 0)]) hx hb dX5_consent_31 hl (by decide) rfl (fun ls hl => ?_)
    refine lv_iload hx hb dX5_consent_33 (lv_at hl 0 rfl) ?_
    refine lv_iload hx hb dX5_consent_35 (lv_at hl 1 rfl) ?_
    refine lv_icmp_ge (tgt := 86) hx hb dX5_consent_37 (by decide) (fun c_37 => ?_) (fun c_37 => ?_)
    · refine lv_aload_n hx hb dX5_consent_86 rfl (lv_at hl 4 rfl) ?_
      refine tl_get hx hb hts (by decide +kernel) hown hKK.1 hB 0 (by decide) (hts (.fieldLink RX5 10 "WaxrowLaw$Told" "m" "LWaxrow;") (by decide +kernel)) rfl (v := .ref w) rfl dX5_consent_87 ?_
      refine lv_iload_n hx hb dX5_consent_90 rfl (lv_at hl 5 rfl) ?_
      refine lv_iload_n hx hb dX5_consent_91 rfl (lv_at hl 6 rfl) ?_
      refine tl_waxi (As := [.int (nI q), .int 0]) ⟨hx, hb, hml, hown, hts⟩ (kX4_consent_0 l D d Lh σ Ah w L2 (fun z => hH.2.2.1 (hH.2.1 w z)) P 0 R hok q hq) (cwV 2 hts gX5_consent_X4_consent rfl rfl rfl (by decide +kernel) ⟨Nat.le_of_ble_eq_true rfl, Nat.le_of_ble_eq_true rfl⟩) hKK hH hB hS rfl hl.1 (Nat.le_of_ble_eq_true rfl) dX5_consent_92 ⟨Nat.le_of_ble_eq_true rfl, Nat.le_of_ble_eq_true rfl⟩ rfl (fun r_ τ_ H locs hp hB hz hS => ?_)
      have h1_ : r_ = 0 := hp.1.symm
      have h2_ : τ_ = hs_sg σ 4 q 5 0 := hp.2.symm
      subst h1_
      subst h2_
      have hB : tl_B D d a0 w b cB Lh Ah A L n (hs_sg c 13 q 0 (0 : Int32)) (hs_sg σ 4 q 5 0) H := hB
      refine lv_iload_n hx hb dX5_consent_95 rfl (lv_at hl 3 rfl) ?_
      refine lv_icmp_ne (tgt := 103) hx hb dX5_consent_96 (by decide) (fun c_96 => ?_) (fun c_96 => ?_)
      · exact absurd rfl c_96
      · refine lv_iconst (v := 1) hx hb dX5_consent_99 (by decide) ?_
        refine lv_goto (tgt := 104) hx hb dX5_consent_100 (by decide) ?_
        exact W.zret (v := 1) (ty := .boolean) hx hb hr rfl (fun U9 ht hW9 => ⟨⟨1, (L, n, hs_sg c 13 q 0 (0 : Int32), hs_sg σ 4 q 5 0), rfl, ⟨rfl, rfl, tg_consent G q hq _ (fun a i e_ h1 => by simp only [hs_sg]; repeat rw [if_neg (by omega)])⟩, by show tl_Bx D d a0 w b cB Lh Ah A _ U9.heap; rw [ht]; exact hB⟩, hS.F ht⟩) hS.2.2 dX5_consent_104
    · exact absurd (by decide +kernel) c_37
  · exact absurd (by decide +kernel) c_8
set_option maxHeartbeats 4000000 in
set_option maxRecDepth 100000 in
/-- Told: consent 1 -/
theorem kX5_consent_1 (l : Launch) (D : va_G) (d : hs_Dm) (a0 w b : Nat) (cB : ClassId) (Lh L2 : hs_Lo) (Ah A : Nat → Prop) (N : Nat) (xs : Nat → Int32) (L : hs_Lo) (n : Nat → Nat) (c σ : hs_St) (sz : Nat) (hH : tl_H w b Ah A sz) (hN31 : N < 2 ^ 31) (P R k dy : Nat) (G : tg P 0 R n c σ k dy) (hP9 : P ≤ 7) (hR4 : R ≤ 4) (hk20 : k < 2 ^ 20) (q : Nat) (hq : q < P) : tl_Mi l yX5_consent wsX5_consent ({ frames := 3, cells := 0, slots := 0, locals := 90 }) D d a0 w b cB Lh L2 Ah A N xs L n c σ sz [.ref a0, .int (nI q), .int 1] (fun r X => r = 1 ∧ X.2.2.2 = hs_sg σ 4 q 5 1 ∧ tg P 0 R X.2.1 X.2.2.1 X.2.2.2 k dy) 0 0 := by
  refine Met.ofW (cc := cX5_consent) (maxL := 8) (ret := (some .boolean)) (by decide) rfl ?_
  intro p e s m args below meth c0 s₁ B hml hv
  obtain ⟨rfl, hsz, hB, hKK⟩ := hv
  have hx := B.exec
  have hb := B.bytes
  have hr := B.returns
  have hts := atoms_spec (ws := wsX5_consent) B.pre
  have hown : s.vm.findClass RX5 = some m.cls := findClass_of_methodNamed B.named
  have hlocks := B.notSynchronized
  have hS : va_S A s.heap s.heap [] := va_S.rf
  have hH : tl_H w b Ah A s.heap.size := by rw [hsz]; exact hH
  have hl := lv_entry ([.ref a0, .int (nI q), .int 1]) (n := 8) (Nat.le_of_ble_eq_true rfl)
  rw [lg_entry_eq]
  generalize (lg_sl ([.ref a0, .int (nI q), .int 1]) ++ List.replicate (8 - (lg_sl ([.ref a0, .int (nI q), .int 1])).length) Slot.unset).toArray = ls at hl ⊢
  have hl : lv_has ls 8 [(0, .ref a0), (1, .int (nI q)), (2, .int 1)] := hl
  obtain ⟨hok, hpd, ⟨n1, n2, n3, n4, n5, n6, n7⟩, hk2, hd10, hd6, hpp, hff⟩ := id G
  refine lv_aload_n hx hb dX5_consent_0 rfl (lv_at hl 0 rfl) ?_
  refine tl_get hx hb hts (by decide +kernel) hown hKK.1 hB 5 (by decide) (hts (.fieldLink RX5 25 "WaxrowLaw$Told" "rest" "[[I") (by decide +kernel)) rfl (v := .ref (L 3 0)) rfl dX5_consent_1 ?_
  refine lv_iload_n hx hb dX5_consent_4 rfl (lv_at hl 1 rfl) ?_
  refine tl_aald hx hb hKK.2.1 hB 3 q (by decide) (by decide) (by rw [n3]; exact hq) (by omega) dX5_consent_5 ?_
  refine lv_iconst (v := 0) hx hb dX5_consent_6 (by decide) ?_
  refine lv_iload_n hx hb dX5_consent_7 rfl (lv_at hl 2 rfl) ?_
  refine lv_if_eq (tgt := 15) hx hb dX5_consent_8 (by decide) (fun c_8 => ?_) (fun c_8 => ?_)
  · exact absurd c_8 (by decide +kernel)
  · refine lv_iconst (v := 1) hx hb dX5_consent_11 (by decide) ?_
    refine lv_goto (tgt := 16) hx hb dX5_consent_12 (by decide) ?_
    refine tl_iast hx hb hKK.1 hB hS 3 q (by decide) (by decide) (by rw [n3]; exact hq) (i := 0) (x := 1) (by unfold vp_in; decide) dX5_consent_16 (fun H locs hB hS hz => ?_)
    rw [show (0 : Int32).toNatClampNeg = 0 from by decide] at hB
    have hB : tl_B D d a0 w b cB Lh Ah A L n (hs_sg c 13 q 0 (1 : Int32)) σ H := hB
    refine lv_iconst (v := 0) hx hb dX5_consent_17 (by decide) ?_
    refine lv_istore_n (lv' := [(3, .int 0), (0, .ref a0), (1, .int (nI q)), (2, .int 1)]) hx hb dX5_consent_18 rfl hl (by decide) rfl (fun ls hl => ?_)
    refine lv_aload_n hx hb dX5_consent_19 rfl (lv_at hl 1 rfl) ?_
    refine tl_get hx hb hts (by decide +kernel) hown hKK.1 hB 8 (by decide) (hts (.fieldLink RX5 34 "WaxrowLaw$Told" "figures" "[[I") (by decide +kernel)) rfl (v := .ref (L 6 0)) rfl dX5_consent_20 ?_
    refine lv_astore (lv' := [(4, .ref (L 6 0)), (3, .int 0), (0, .ref a0), (1, .int (nI q)), (2, .int 1)]) hx hb dX5_consent_23 hl (by decide) rfl (fun ls hl => ?_)
    refine lv_aload hx hb dX5_consent_25 (lv_at hl 0 rfl) ?_
    refine tl_len hx hb hKK.2.1 hB 6 (by decide) (by decide) dX5_consent_27 ?_
    rw [show n 6 = 0 from n6]
    refine lv_istore (lv' := [(5, .int (nI 0)), (4, .ref (L 6 0)), (3, .int 0), (0, .ref a0), (1, .int (nI q)), (2, .int 1)]) hx hb dX5_consent_28 hl (by decide) rfl (fun ls hl => ?_)
    refine lv_iconst (v := 0) hx hb dX5_consent_30 (by decide) ?_
    refine lv_istore (lv' := [(6, .int 0), (5, .int (nI 0)), (4, .ref (L 6 0)), (3, .int 0), (0, .ref a0), (1, .int (nI q)), (2, .int 1)]) hx hb dX5_consent_31 hl (by decide) rfl (fun ls hl => ?_)
    refine lv_iload hx hb dX5_consent_33 (lv_at hl 0 rfl) ?_
    refine lv_iload hx hb dX5_consent_35 (lv_at hl 1 rfl) ?_
    refine lv_icmp_ge (tgt := 86) hx hb dX5_consent_37 (by decide) (fun c_37 => ?_) (fun c_37 => ?_)
    · refine lv_aload_n hx hb dX5_consent_86 rfl (lv_at hl 4 rfl) ?_
      refine tl_get hx hb hts (by decide +kernel) hown hKK.1 hB 0 (by decide) (hts (.fieldLink RX5 10 "WaxrowLaw$Told" "m" "LWaxrow;") (by decide +kernel)) rfl (v := .ref w) rfl dX5_consent_87 ?_
      refine lv_iload_n hx hb dX5_consent_90 rfl (lv_at hl 5 rfl) ?_
      refine lv_iload_n hx hb dX5_consent_91 rfl (lv_at hl 6 rfl) ?_
      refine tl_waxi (As := [.int (nI q), .int 1]) ⟨hx, hb, hml, hown, hts⟩ (kX4_consent_1 l D d Lh σ Ah w L2 (fun z => hH.2.2.1 (hH.2.1 w z)) P 0 R hok q hq) (cwV 2 hts gX5_consent_X4_consent rfl rfl rfl (by decide +kernel) ⟨Nat.le_of_ble_eq_true rfl, Nat.le_of_ble_eq_true rfl⟩) hKK hH hB hS rfl hl.1 (Nat.le_of_ble_eq_true rfl) dX5_consent_92 ⟨Nat.le_of_ble_eq_true rfl, Nat.le_of_ble_eq_true rfl⟩ rfl (fun r_ τ_ H locs hp hB hz hS => ?_)
      have h1_ : r_ = 0 := hp.1.symm
      have h2_ : τ_ = hs_sg σ 4 q 5 1 := hp.2.symm
      subst h1_
      subst h2_
      have hB : tl_B D d a0 w b cB Lh Ah A L n (hs_sg c 13 q 0 (1 : Int32)) (hs_sg σ 4 q 5 1) H := hB
      refine lv_iload_n hx hb dX5_consent_95 rfl (lv_at hl 3 rfl) ?_
      refine lv_icmp_ne (tgt := 103) hx hb dX5_consent_96 (by decide) (fun c_96 => ?_) (fun c_96 => ?_)
      · exact absurd rfl c_96
      · refine lv_iconst (v := 1) hx hb dX5_consent_99 (by decide) ?_
        refine lv_goto (tgt := 104) hx hb dX5_consent_100 (by decide) ?_
        exact W.zret (v := 1) (ty := .boolean) hx hb hr rfl (fun U9 ht hW9 => ⟨⟨1, (L, n, hs_sg c 13 q 0 (1 : Int32), hs_sg σ 4 q 5 1), rfl, ⟨rfl, rfl, tg_consent G q hq _ (fun a i e_ h1 => by simp only [hs_sg]; repeat rw [if_neg (by omega)])⟩, by show tl_Bx D d a0 w b cB Lh Ah A _ U9.heap; rw [ht]; exact hB⟩, hS.F ht⟩) hS.2.2 dX5_consent_104
    · exact absurd (by decide +kernel) c_37
set_option maxHeartbeats 4000000 in
set_option maxRecDepth 100000 in
/-- held -/
theorem kX5_held (l : Launch) (k n : Int32) : Met l yX5_held wsX5_held ({ frames := 0, cells := 0, slots := 0, locals := 0 }) (va_Pc [.int k, .int n] (fun _ => True)) (va_Qi (fun r (_ : Unit) => r = tl_held k n) (fun _ _ => True) (fun _ => False)) 0 0 (fun _ => False) := by
  refine Met.ofW (cc := cX5_held) (maxL := 2) (ret := (some .int)) (by decide) rfl ?_
  intro p e s m args below meth c s₁ B hml hv
  obtain ⟨rfl, -⟩ := hv
  have hx := B.exec
  have hb := B.bytes
  have hr := B.returns
  have hts := atoms_spec (ws := wsX5_held) B.pre
  have hlocks := B.notSynchronized
  have hS : va_S (fun _ => False) s.heap s.heap [] := va_S.rf
  have hl := lv_entry ([.int k, .int n]) (n := 2) (Nat.le_of_ble_eq_true rfl)
  rw [lg_entry_eq]
  generalize (lg_sl ([.int k, .int n]) ++ List.replicate (2 - (lg_sl ([.int k, .int n])).length) Slot.unset).toArray = ls at hl ⊢
  have hl : lv_has ls 2 [(0, .int k), (1, .int n)] := hl
  refine lv_iload_n hx hb dX5_held_0 rfl (lv_at hl 0 rfl) ?_
  refine lv_if_ge (tgt := 8) hx hb dX5_held_1 (by decide) (fun c_1 => ?_) (fun c_1 => ?_)
  · have k0 : ¬ k < 0 := fun z => by
      rw [Int32.lt_iff_toInt_lt] at z
      rw [Int32.le_iff_toInt_le] at c_1
      omega
    refine lv_iload_n hx hb dX5_held_8 rfl (lv_at hl 0 rfl) ?_
    refine lv_iload_n hx hb dX5_held_9 rfl (lv_at hl 1 rfl) ?_
    refine lv_icmp_le (tgt := 17) hx hb dX5_held_10 (by decide) (fun c_10 => ?_) (fun c_10 => ?_)
    · refine lv_iload_n hx hb dX5_held_17 rfl (lv_at hl 0 rfl) ?_
      exact W.iret (v := k) hx hb hr (fun t ht hW9 => ⟨⟨k, (), rfl, by unfold tl_held; rw [if_neg k0, if_neg (fun z => by rw [Int32.lt_iff_toInt_lt] at z; rw [Int32.le_iff_toInt_le] at c_10; omega)], trivial⟩, hS.F ht⟩) hS.2.2 dX5_held_18
    · refine lv_iload_n hx hb dX5_held_13 rfl (lv_at hl 1 rfl) ?_
      refine lv_goto (tgt := 18) hx hb dX5_held_14 (by decide) ?_
      exact W.iret (v := n) hx hb hr (fun t ht hW9 => ⟨⟨n, (), rfl, by unfold tl_held; rw [if_neg k0, if_pos (by rw [Int32.le_iff_toInt_le] at c_10; rw [Int32.lt_iff_toInt_lt]; omega)], trivial⟩, hS.F ht⟩) hS.2.2 dX5_held_18
  · refine lv_iconst (v := 0) hx hb dX5_held_4 (by decide) ?_
    refine lv_goto (tgt := 18) hx hb dX5_held_5 (by decide) ?_
    exact W.iret (v := 0) hx hb hr (fun t ht hW9 => ⟨⟨0, (), rfl, by unfold tl_held; rw [if_pos (by rw [Int32.le_iff_toInt_le] at c_1; rw [Int32.lt_iff_toInt_lt]; omega)], trivial⟩, hS.F ht⟩) hS.2.2 dX5_held_18
set_option maxHeartbeats 4000000 in
set_option maxRecDepth 100000 in
/-- Told: figure -/
theorem kX5_figure (l : Launch) (D : va_G) (d : hs_Dm) (a0 w b : Nat) (cB : ClassId) (Lh L2 : hs_Lo) (Ah A : Nat → Prop) (N : Nat) (xs : Nat → Int32) (L : hs_Lo) (n : Nat → Nat) (c σ : hs_St) (sz : Nat) (hH : tl_H w b Ah A sz) (hN31 : N < 2 ^ 31) (P F R k dy : Nat) (G : tg P F R n c σ k dy) (hP9 : P ≤ 7) (hF7 : F ≤ 7) (hR4 : R ≤ 4) (hk20 : k < 2 ^ 20) (q : Nat) (hq : q < P) : tl_Mi l yX5_figure wsX5_figure ({ frames := 4, cells := 2, slots := 18, locals := 110 }) D d a0 w b cB Lh L2 Ah A N xs L n c σ sz [.ref a0, .int (nI q)] (fun r X => r = 1 ∧ X.2.2.2 = sp_newF σ F q ∧ tg P (F + 1) R X.2.1 X.2.2.1 X.2.2.2 k dy) 2 18 := by
  refine Met.ofW (cc := cX5_figure) (maxL := 2) (ret := (some .boolean)) (by decide) rfl ?_
  intro p e s m args below meth c0 s₁ B hml hv
  obtain ⟨rfl, hsz, hB, hKK⟩ := hv
  have hx := B.exec
  have hb := B.bytes
  have hr := B.returns
  have hts := atoms_spec (ws := wsX5_figure) B.pre
  have hown : s.vm.findClass RX5 = some m.cls := findClass_of_methodNamed B.named
  have hlocks := B.notSynchronized
  have hS : va_S A s.heap s.heap [] := va_S.rf
  have hH : tl_H w b Ah A s.heap.size := by rw [hsz]; exact hH
  have hl := lv_entry ([.ref a0, .int (nI q)]) (n := 2) (Nat.le_of_ble_eq_true rfl)
  rw [lg_entry_eq]
  generalize (lg_sl ([.ref a0, .int (nI q)]) ++ List.replicate (2 - (lg_sl ([.ref a0, .int (nI q)])).length) Slot.unset).toArray = ls at hl ⊢
  have hl : lv_has ls 2 [(0, .ref a0), (1, .int (nI q))] := hl
  obtain ⟨hok, hpd, ⟨n1, n2, n3, n4, n5, n6, n7⟩, hk2, hd10, hd6, hpp, hff⟩ := id G
  refine lv_aload_n hx hb dX5_figure_0 rfl (lv_at hl 0 rfl) ?_
  refine lv_aload_n hx hb dX5_figure_1 rfl (lv_at hl 0 rfl) ?_
  refine tl_get hx hb hts (by decide +kernel) hown hKK.1 hB 8 (by decide) (hts (.fieldLink RX5 34 "WaxrowLaw$Told" "figures" "[[I") (by decide +kernel)) rfl (v := .ref (L 6 0)) rfl dX5_figure_2 ?_
  refine lv_bipush (v := 10) hx hb dX5_figure_5 (by decide) ?_
  refine tl_newa hx hb (hts (.arrayClass .int) (by decide +kernel)) hKK.1 hH.1 hB hS (by decide) (N' := 10) rfl (by decide) (Nat.le_of_ble_eq_true rfl) (Nat.le_of_ble_eq_true rfl) dX5_figure_7 (fun H v1 hB nv1 hAv1 hv1 hz hS => ?_)
  refine lv_dup hx hb dX5_figure_9 rfl ?_
  refine lv_iconst (v := 0) hx hb dX5_figure_10 (by decide) ?_
  refine lv_iload_n hx hb dX5_figure_11 rfl (lv_at hl 1 rfl) ?_
  refine tl_niast hx hb hKK.1 hB hS hv1 nv1 hAv1 (i := 0) (x := nI q) (by unfold vp_in; decide) dX5_figure_12 (fun H locs hB hv1 hz hS => ?_)
  rw [show (0 : Int32).toNatClampNeg = 0 from by decide] at hv1
  refine lv_dup hx hb dX5_figure_13 rfl ?_
  refine lv_iconst (v := 1) hx hb dX5_figure_14 (by decide) ?_
  refine lv_iload_n hx hb dX5_figure_15 rfl (lv_at hl 1 rfl) ?_
  refine tl_niast hx hb hKK.1 hB hS hv1 nv1 hAv1 (i := 1) (x := nI q) (by unfold vp_in; decide) dX5_figure_16 (fun H locs hB hv1 hz hS => ?_)
  rw [show (1 : Int32).toNatClampNeg = 1 from by decide] at hv1
  refine lv_dup hx hb dX5_figure_17 rfl ?_
  refine lv_iconst (v := 2) hx hb dX5_figure_18 (by decide) ?_
  refine lv_iconst (v := 0) hx hb dX5_figure_19 (by decide) ?_
  refine tl_niast hx hb hKK.1 hB hS hv1 nv1 hAv1 (i := 2) (x := 0) (by unfold vp_in; decide) dX5_figure_20 (fun H locs hB hv1 hz hS => ?_)
  rw [show (2 : Int32).toNatClampNeg = 2 from by decide] at hv1
  refine lv_dup hx hb dX5_figure_21 rfl ?_
  refine lv_iconst (v := 3) hx hb dX5_figure_22 (by decide) ?_
  refine lv_iconst (v := 0) hx hb dX5_figure_23 (by decide) ?_
  refine tl_niast hx hb hKK.1 hB hS hv1 nv1 hAv1 (i := 3) (x := 0) (by unfold vp_in; decide) dX5_figure_24 (fun H locs hB hv1 hz hS => ?_)
  rw [show (3 : Int32).toNatClampNeg = 3 from by decide] at hv1
  refine lv_dup hx hb dX5_figure_25 rfl ?_
  refine lv_iconst (v := 4) hx hb dX5_figure_26 (by decide) ?_
  refine lv_iconst (v := 0) hx hb dX5_figure_27 (by decide) ?_
  refine tl_niast hx hb hKK.1 hB hS hv1 nv1 hAv1 (i := 4) (x := 0) (by unfold vp_in; decide) dX5_figure_28 (fun H locs hB hv1 hz hS => ?_)
  rw [show (4 : Int32).toNatClampNeg = 4 from by decide] at hv1
  refine lv_dup hx hb dX5_figure_29 rfl ?_
  refine lv_iconst (v := 5) hx hb dX5_figure_30 (by decide) ?_
  refine lv_iconst (v := 0) hx hb dX5_figure_31 (by decide) ?_
  refine tl_niast hx hb hKK.1 hB hS hv1 nv1 hAv1 (i := 5) (x := 0) (by unfold vp_in; decide) dX5_figure_32 (fun H locs hB hv1 hz hS => ?_)
  rw [show (5 : Int32).toNatClampNeg = 5 from by decide] at hv1
  refine lv_dup hx hb dX5_figure_33 rfl ?_
  refine lv_bipush (v := 6) hx hb dX5_figure_34 (by decide) ?_
  refine lv_iconst (v := 5) hx hb dX5_figure_36 (by decide) ?_
  refine tl_niast hx hb hKK.1 hB hS hv1 nv1 hAv1 (i := 6) (x := 5) (by unfold vp_in; decide) dX5_figure_37 (fun H locs hB hv1 hz hS => ?_)
  rw [show (6 : Int32).toNatClampNeg = 6 from by decide] at hv1
  refine lv_dup hx hb dX5_figure_38 rfl ?_
  refine lv_bipush (v := 7) hx hb dX5_figure_39 (by decide) ?_
  refine lv_iconst (v := 0) hx hb dX5_figure_41 (by decide) ?_
  refine tl_niast hx hb hKK.1 hB hS hv1 nv1 hAv1 (i := 7) (x := 0) (by unfold vp_in; decide) dX5_figure_42 (fun H locs hB hv1 hz hS => ?_)
  rw [show (7 : Int32).toNatClampNeg = 7 from by decide] at hv1
  refine lv_dup hx hb dX5_figure_43 rfl ?_
  refine lv_bipush (v := 8) hx hb dX5_figure_44 (by decide) ?_
  refine lv_iconst (v := 0) hx hb dX5_figure_46 (by decide) ?_
  refine tl_niast hx hb hKK.1 hB hS hv1 nv1 hAv1 (i := 8) (x := 0) (by unfold vp_in; decide) dX5_figure_47 (fun H locs hB hv1 hz hS => ?_)
  rw [show (8 : Int32).toNatClampNeg = 8 from by decide] at hv1
  refine lv_dup hx hb dX5_figure_48 rfl ?_
  refine lv_bipush (v := 9) hx hb dX5_figure_49 (by decide) ?_
  refine lv_iconst (v := 0) hx hb dX5_figure_51 (by decide) ?_
  refine tl_niast hx hb hKK.1 hB hS hv1 nv1 hAv1 (i := 9) (x := 0) (by unfold vp_in; decide) dX5_figure_52 (fun H locs hB hv1 hz hS => ?_)
  rw [show (9 : Int32).toNatClampNeg = 9 from by decide] at hv1
  have hBo := hB
  have hSo := hS
  have hvo := hv1
  refine tl_callp (k := 6) (v := v1) ⟨hx, hb, hml, hown, hts⟩ (va_cwS 2 hts gX5_figure_X5_plus rfl rfl rfl (by decide +kernel) ⟨Nat.le_of_ble_eq_true rfl, Nat.le_of_ble_eq_true rfl⟩) (by have e_ : n 6 = F := (by simp [tl_gc, tl_gn, hs_sg, upd, n1, n2, n3, n4, n5, n6, n7]); omega) (by decide) (by decide) hKK hH hB hv1 hS rfl hl.1 (Nat.le_of_ble_eq_true rfl) dX5_figure_53 ⟨Nat.le_of_ble_eq_true rfl, Nat.le_of_ble_eq_true rfl⟩ rfl (fun q2 H locs hq0 hq2 hv1 hB hz hS => ?_)
  have nq2 := hBo.nw hq0
  have hneq2 : v1 ≠ q2 := Nat.ne_of_lt (Nat.lt_of_lt_of_le hvo.lt hq0)
  have hAq2 : A q2 := hH.1 _ (Nat.le_trans hSo.1 hq0)
  refine tl_grow hx hb hts (by decide +kernel) hown hKK.1 hB hS 6 q2 v1 (by decide) (by decide) (hts (.fieldLink RX5 34 "WaxrowLaw$Told" "figures" "[[I") (by decide +kernel)) rfl rfl (by decide +kernel) hv1 hq2 nv1 nq2 hneq2 hAv1 hAq2 rfl dX5_figure_56 (fun H locs hB hS hz => ?_)
  have hB : tl_B D d a0 w b cB Lh Ah A (tl_gL L 6 (n 6) q2 v1) (tl_gn n 6) (tl_gc c 6 (n 6) (upd (upd (upd (upd (upd (upd (upd (upd (upd (upd (fun _ => 0) 0 (nI q)) 1 (nI q)) 2 (0 : Int32)) 3 (0 : Int32)) 4 (0 : Int32)) 5 (0 : Int32)) 6 (5 : Int32)) 7 (0 : Int32)) 8 (0 : Int32)) 9 (0 : Int32))) σ H := hB
  refine lv_aload_n hx hb dX5_figure_59 rfl (lv_at hl 0 rfl) ?_
  refine tl_get hx hb hts (by decide +kernel) hown hKK.1 hB 0 (by decide) (hts (.fieldLink RX5 10 "WaxrowLaw$Told" "m" "LWaxrow;") (by decide +kernel)) rfl (v := .ref w) rfl dX5_figure_60 ?_
  refine lv_iload_n hx hb dX5_figure_63 rfl (lv_at hl 1 rfl) ?_
  refine tl_waxi (As := [.int (nI q)]) ⟨hx, hb, hml, hown, hts⟩ (kX4_figure l D d Lh σ Ah w L2 (fun z => hH.2.2.1 (hH.2.1 w z)) P F R hok (by omega) q hq) (cwV 1 hts gX5_figure_X4_figure rfl rfl rfl (by decide +kernel) ⟨Nat.le_of_ble_eq_true rfl, Nat.le_of_ble_eq_true rfl⟩) hKK hH hB hS rfl hl.1 (Nat.le_of_ble_eq_true rfl) dX5_figure_64 ⟨Nat.le_of_ble_eq_true rfl, Nat.le_of_ble_eq_true rfl⟩ rfl (fun r_ τ_ H locs hp hB hz hS => ?_)
  obtain ⟨rfl, rfl⟩ := hp
  have hB : tl_B D d a0 w b cB Lh Ah A (tl_gL L 6 (n 6) q2 v1) (tl_gn n 6) (tl_gc c 6 (n 6) (upd (upd (upd (upd (upd (upd (upd (upd (upd (upd (fun _ => 0) 0 (nI q)) 1 (nI q)) 2 (0 : Int32)) 3 (0 : Int32)) 4 (0 : Int32)) 5 (0 : Int32)) 6 (5 : Int32)) 7 (0 : Int32)) 8 (0 : Int32)) 9 (0 : Int32))) (sp_newF σ F q) H := hB
  refine lv_aload_n hx hb dX5_figure_67 rfl (lv_at hl 0 rfl) ?_
  refine tl_get hx hb hts (by decide +kernel) hown hKK.1 hB 8 (by decide) (hts (.fieldLink RX5 34 "WaxrowLaw$Told" "figures" "[[I") (by decide +kernel)) rfl (v := .ref ((tl_gL L 6 (n 6) q2 v1) 6 0)) rfl dX5_figure_68 ?_
  refine tl_len hx hb hKK.2.1 hB 6 (by decide) (by decide) dX5_figure_71 ?_
  rw [show (tl_gn n 6) 6 = F + 1 from (by simp [tl_gc, tl_gn, hs_sg, upd, n1, n2, n3, n4, n5, n6, n7])]
  refine lv_iconst (v := 1) hx hb dX5_figure_72 (by decide) ?_
  refine lv_isub hx hb dX5_figure_73 ?_
  rw [nI_pred]
  refine lv_icmp_ne (tgt := 81) hx hb dX5_figure_74 (by decide) (fun c_74 => ?_) (fun c_74 => ?_)
  · exact absurd rfl c_74
  · refine lv_iconst (v := 1) hx hb dX5_figure_77 (by decide) ?_
    refine lv_goto (tgt := 82) hx hb dX5_figure_78 (by decide) ?_
    refine W.widen (k := 2) (n := 18) (Nat.le_of_ble_eq_true rfl) (Nat.le_of_ble_eq_true rfl) ?_
    exact W.zret (v := 1) (ty := .boolean) hx hb hr rfl (fun U9 ht hW9 => ⟨⟨1, (tl_gL L 6 (n 6) q2 v1, tl_gn n 6, tl_gc c 6 (n 6) (upd (upd (upd (upd (upd (upd (upd (upd (upd (upd (fun _ => 0) 0 (nI q)) 1 (nI q)) 2 (0 : Int32)) 3 (0 : Int32)) 4 (0 : Int32)) 5 (0 : Int32)) 6 (5 : Int32)) 7 (0 : Int32)) 8 (0 : Int32)) 9 (0 : Int32)), sp_newF σ F q), rfl, ⟨rfl, rfl, tg_figure G (by omega) q hq ⟨by simp [tl_gn, n1], by simp [tl_gn, n2], by simp [tl_gn, n3], by simp [tl_gn, n4], by simp [tl_gn, n5], by simp [tl_gn, n6], by simp [tl_gn, n7]⟩ (fun a i e_ h1 => by simp [tl_gc, n6]; omega) (by simp [tl_gc, tl_gn, hs_sg, upd, n1, n2, n3, n4, n5, n6, n7]) (by simp [tl_gc, tl_gn, hs_sg, upd, n1, n2, n3, n4, n5, n6, n7]) (by simp [tl_gc, tl_gn, hs_sg, upd, n1, n2, n3, n4, n5, n6, n7]) (by simp [tl_gc, tl_gn, hs_sg, upd, n1, n2, n3, n4, n5, n6, n7])⟩, by show tl_Bx D d a0 w b cB Lh Ah A _ U9.heap; rw [ht]; exact hB⟩, hS.F ht⟩) hS.2.2 dX5_figure_82
set_option maxHeartbeats 4000000 in
set_option maxRecDepth 100000 in
/-- Told: room -/
theorem kX5_room (l : Launch) (D : va_G) (d : hs_Dm) (a0 w b : Nat) (cB : ClassId) (Lh L2 : hs_Lo) (Ah A : Nat → Prop) (N : Nat) (xs : Nat → Int32) (L : hs_Lo) (n : Nat → Nat) (c σ : hs_St) (sz : Nat) (hH : tl_H w b Ah A sz) (hN31 : N < 2 ^ 31) (P F R k dy : Nat) (G : tg P F R n c σ k dy) (hP9 : P ≤ 7) (hF7 : F ≤ 7) (hR4 : R ≤ 4) (hk20 : k < 2 ^ 20) (x y : Int32) (hx0 : ¬ x < 0) (hx9 : x ≤ 9) (hy0 : ¬ y < 1) (hy9 : y ≤ 4) : tl_Mi l yX5_room wsX5_room ({ frames := 4, cells := 2, slots := 10, locals := 110 }) D d a0 w b cB Lh L2 Ah A N xs L n c σ sz [.ref a0, .int x, .int y] (fun r X => r = 1 ∧ X.2.2.2 = sp_newR σ R x y ∧ tg P F (R + 1) X.2.1 X.2.2.1 X.2.2.2 k dy) 2 10 := by
  refine Met.ofW (cc := cX5_room) (maxL := 3) (ret := (some .boolean)) (by decide) rfl ?_
  intro p e s m args below meth c0 s₁ B hml hv
  obtain ⟨rfl, hsz, hB, hKK⟩ := hv
  have hx := B.exec
  have hb := B.bytes
  have hr := B.returns
  have hts := atoms_spec (ws := wsX5_room) B.pre
  have hown : s.vm.findClass RX5 = some m.cls := findClass_of_methodNamed B.named
  have hlocks := B.notSynchronized
  have hS : va_S A s.heap s.heap [] := va_S.rf
  have hH : tl_H w b Ah A s.heap.size := by rw [hsz]; exact hH
  have hl := lv_entry ([.ref a0, .int x, .int y]) (n := 3) (Nat.le_of_ble_eq_true rfl)
  rw [lg_entry_eq]
  generalize (lg_sl ([.ref a0, .int x, .int y]) ++ List.replicate (3 - (lg_sl ([.ref a0, .int x, .int y])).length) Slot.unset).toArray = ls at hl ⊢
  have hl : lv_has ls 3 [(0, .ref a0), (1, .int x), (2, .int y)] := hl
  obtain ⟨hok, hpd, ⟨n1, n2, n3, n4, n5, n6, n7⟩, hk2, hd10, hd6, hpp, hff⟩ := id G
  refine lv_aload_n hx hb dX5_room_0 rfl (lv_at hl 0 rfl) ?_
  refine lv_aload_n hx hb dX5_room_1 rfl (lv_at hl 0 rfl) ?_
  refine tl_get hx hb hts (by decide +kernel) hown hKK.1 hB 9 (by decide) (hts (.fieldLink RX5 37 "WaxrowLaw$Told" "rooms" "[[I") (by decide +kernel)) rfl (v := .ref (L 7 0)) rfl dX5_room_2 ?_
  refine lv_iconst (v := 2) hx hb dX5_room_5 (by decide) ?_
  refine tl_newa hx hb (hts (.arrayClass .int) (by decide +kernel)) hKK.1 hH.1 hB hS (by decide) (N' := 2) rfl (by decide) (Nat.le_of_ble_eq_true rfl) (Nat.le_of_ble_eq_true rfl) dX5_room_6 (fun H v1 hB nv1 hAv1 hv1 hz hS => ?_)
  refine lv_dup hx hb dX5_room_8 rfl ?_
  refine lv_iconst (v := 0) hx hb dX5_room_9 (by decide) ?_
  refine lv_iload_n hx hb dX5_room_10 rfl (lv_at hl 1 rfl) ?_
  refine tl_niast hx hb hKK.1 hB hS hv1 nv1 hAv1 (i := 0) (x := x) (by unfold vp_in; decide) dX5_room_11 (fun H locs hB hv1 hz hS => ?_)
  rw [show (0 : Int32).toNatClampNeg = 0 from by decide] at hv1
  refine lv_dup hx hb dX5_room_12 rfl ?_
  refine lv_iconst (v := 1) hx hb dX5_room_13 (by decide) ?_
  refine lv_iload_n hx hb dX5_room_14 rfl (lv_at hl 2 rfl) ?_
  refine tl_niast hx hb hKK.1 hB hS hv1 nv1 hAv1 (i := 1) (x := y) (by unfold vp_in; decide) dX5_room_15 (fun H locs hB hv1 hz hS => ?_)
  rw [show (1 : Int32).toNatClampNeg = 1 from by decide] at hv1
  have hBo := hB
  have hSo := hS
  have hvo := hv1
  refine tl_callp (k := 7) (v := v1) ⟨hx, hb, hml, hown, hts⟩ (va_cwS 2 hts gX5_room_X5_plus rfl rfl rfl (by decide +kernel) ⟨Nat.le_of_ble_eq_true rfl, Nat.le_of_ble_eq_true rfl⟩) (by have e_ : n 7 = R := (by simp [tl_gc, tl_gn, hs_sg, upd, n1, n2, n3, n4, n5, n6, n7]); omega) (by decide) (by decide) hKK hH hB hv1 hS rfl hl.1 (Nat.le_of_ble_eq_true rfl) dX5_room_16 ⟨Nat.le_of_ble_eq_true rfl, Nat.le_of_ble_eq_true rfl⟩ rfl (fun q2 H locs hq0 hq2 hv1 hB hz hS => ?_)
  have nq2 := hBo.nw hq0
  have hneq2 : v1 ≠ q2 := Nat.ne_of_lt (Nat.lt_of_lt_of_le hvo.lt hq0)
  have hAq2 : A q2 := hH.1 _ (Nat.le_trans hSo.1 hq0)
  refine tl_grow hx hb hts (by decide +kernel) hown hKK.1 hB hS 7 q2 v1 (by decide) (by decide) (hts (.fieldLink RX5 37 "WaxrowLaw$Told" "rooms" "[[I") (by decide +kernel)) rfl rfl (by decide +kernel) hv1 hq2 nv1 nq2 hneq2 hAv1 hAq2 rfl dX5_room_19 (fun H locs hB hS hz => ?_)
  have hB : tl_B D d a0 w b cB Lh Ah A (tl_gL L 7 (n 7) q2 v1) (tl_gn n 7) (tl_gc c 7 (n 7) (upd (upd (fun _ => 0) 0 x) 1 y)) σ H := hB
  refine lv_aload_n hx hb dX5_room_22 rfl (lv_at hl 0 rfl) ?_
  refine tl_get hx hb hts (by decide +kernel) hown hKK.1 hB 0 (by decide) (hts (.fieldLink RX5 10 "WaxrowLaw$Told" "m" "LWaxrow;") (by decide +kernel)) rfl (v := .ref w) rfl dX5_room_23 ?_
  refine lv_iload_n hx hb dX5_room_26 rfl (lv_at hl 1 rfl) ?_
  refine lv_iload_n hx hb dX5_room_27 rfl (lv_at hl 2 rfl) ?_
  refine tl_waxi (As := [.int x, .int y]) ⟨hx, hb, hml, hown, hts⟩ (kX4_room l D d Lh σ Ah w L2 (fun z => hH.2.2.1 (hH.2.1 w z)) P F R hok (by omega) x y hx0 hx9 hy0 hy9) (cwV 2 hts gX5_room_X4_room rfl rfl rfl (by decide +kernel) ⟨Nat.le_of_ble_eq_true rfl, Nat.le_of_ble_eq_true rfl⟩) hKK hH hB hS rfl hl.1 (Nat.le_of_ble_eq_true rfl) dX5_room_28 ⟨Nat.le_of_ble_eq_true rfl, Nat.le_of_ble_eq_true rfl⟩ rfl (fun r_ τ_ H locs hp hB hz hS => ?_)
  obtain ⟨rfl, rfl⟩ := hp
  have hB : tl_B D d a0 w b cB Lh Ah A (tl_gL L 7 (n 7) q2 v1) (tl_gn n 7) (tl_gc c 7 (n 7) (upd (upd (fun _ => 0) 0 x) 1 y)) (sp_newR σ R x y) H := hB
  refine lv_aload_n hx hb dX5_room_31 rfl (lv_at hl 0 rfl) ?_
  refine tl_get hx hb hts (by decide +kernel) hown hKK.1 hB 9 (by decide) (hts (.fieldLink RX5 37 "WaxrowLaw$Told" "rooms" "[[I") (by decide +kernel)) rfl (v := .ref ((tl_gL L 7 (n 7) q2 v1) 7 0)) rfl dX5_room_32 ?_
  refine tl_len hx hb hKK.2.1 hB 7 (by decide) (by decide) dX5_room_35 ?_
  rw [show (tl_gn n 7) 7 = R + 1 from (by simp [tl_gc, tl_gn, hs_sg, upd, n1, n2, n3, n4, n5, n6, n7])]
  refine lv_iconst (v := 1) hx hb dX5_room_36 (by decide) ?_
  refine lv_isub hx hb dX5_room_37 ?_
  rw [nI_pred]
  refine lv_icmp_ne (tgt := 45) hx hb dX5_room_38 (by decide) (fun c_38 => ?_) (fun c_38 => ?_)
  · exact absurd rfl c_38
  · refine lv_iconst (v := 1) hx hb dX5_room_41 (by decide) ?_
    refine lv_goto (tgt := 46) hx hb dX5_room_42 (by decide) ?_
    refine W.widen (k := 2) (n := 10) (Nat.le_of_ble_eq_true rfl) (Nat.le_of_ble_eq_true rfl) ?_
    exact W.zret (v := 1) (ty := .boolean) hx hb hr rfl (fun U9 ht hW9 => ⟨⟨1, (tl_gL L 7 (n 7) q2 v1, tl_gn n 7, tl_gc c 7 (n 7) (upd (upd (fun _ => 0) 0 x) 1 y), sp_newR σ R x y), rfl, ⟨rfl, rfl, tg_room G (by omega) x y ⟨by simp [tl_gn, n1], by simp [tl_gn, n2], by simp [tl_gn, n3], by simp [tl_gn, n4], by simp [tl_gn, n5], by simp [tl_gn, n6], by simp [tl_gn, n7]⟩ (fun a i e_ h1 => by simp [tl_gc]; omega)⟩, by show tl_Bx D d a0 w b cB Lh Ah A _ U9.heap; rw [ht]; exact hB⟩, hS.F ht⟩) hS.2.2 dX5_room_46
