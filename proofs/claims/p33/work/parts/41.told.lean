/-! TOLD'S METHODS: measure, hands, work, what is read -/
theorem tl_ms_at {σ : hs_St} {q j : Nat} {x y : Int32} (b3 : 0 ≤ σ 7 q j) (b4 : σ 8 q j ≤ 99) (hx0 : ¬ x < 0) (hx9 : x ≤ 99) (hy0 : ¬ y < 0) (hy9 : y ≤ 20) : tl_ms σ q j x y 7 q j = (if (if σ 7 q j < x - y then x - y else σ 7 q j) ≤ (if x + y < σ 8 q j then x + y else σ 8 q j) then (if σ 7 q j < x - y then x - y else σ 7 q j) else (if x - y < 0 then 0 else x - y)) ∧ tl_ms σ q j x y 8 q j = (if (if σ 7 q j < x - y then x - y else σ 7 q j) ≤ (if x + y < σ 8 q j then x + y else σ 8 q j) then (if x + y < σ 8 q j then x + y else σ 8 q j) else (if 99 < x + y then 99 else x + y)) := by
  obtain ⟨s1, s2, s3, s4⟩ := sp_learn_at σ q j (if x - y < 0 then 0 else x - y) (if 99 < x + y then 99 else x + y)
  rw [tl_lo b3 hx0 hx9 hy0 hy9, tl_hi b4] at s3 s4
  exact ⟨s3, s4⟩
set_option maxHeartbeats 4000000 in
set_option maxRecDepth 100000 in
/-- Told: measure -/
theorem kX5_measure (l : Launch) (D : va_G) (d : hs_Dm) (a0 w b : Nat) (cB : ClassId) (Lh L2 : hs_Lo) (Ah A : Nat → Prop) (N : Nat) (xs : Nat → Int32) (L : hs_Lo) (n : Nat → Nat) (c σ : hs_St) (sz : Nat) (hH : tl_H w b Ah A sz) (hN31 : N < 2 ^ 31) (P F R k dy : Nat) (G : tg P F R n c σ k dy) (hP9 : P ≤ 7) (hF7 : F ≤ 7) (hR4 : R ≤ 4) (hk20 : k < 2 ^ 20) (q j : Nat) (hq : q < P) (hj : j < 6) (x y : Int32) (hx0 : ¬ x < 0) (hx9 : x ≤ 99) (hy0 : ¬ y < 0) (hy9 : y ≤ 20) : tl_Mi l yX5_measure wsX5_measure ({ frames := 3, cells := 0, slots := 0, locals := 90 }) D d a0 w b cB Lh L2 Ah A N xs L n c σ sz [.ref a0, .int (nI q), .int (nI j), .int x, .int y] (fun r X => r = 1 ∧ X.2.2.2 = tl_ms σ q j x y ∧ tg P F R X.2.1 X.2.2.1 X.2.2.2 k dy) 0 0 := by
  refine Met.ofW (cc := cX5_measure) (maxL := 7) (ret := (some .boolean)) (by decide) rfl ?_
  intro p e s m args below meth c0 s₁ B hml hv
  obtain ⟨rfl, hsz, hB, hKK⟩ := hv
  have hx := B.exec
  have hb := B.bytes
  have hr := B.returns
  have hts := atoms_spec (ws := wsX5_measure) B.pre
  have hown : s.vm.findClass RX5 = some m.cls := findClass_of_methodNamed B.named
  have hlocks := B.notSynchronized
  have hS : va_S A s.heap s.heap [] := va_S.rf
  have hH : tl_H w b Ah A s.heap.size := by rw [hsz]; exact hH
  have hl := lv_entry ([.ref a0, .int (nI q), .int (nI j), .int x, .int y]) (n := 7) (Nat.le_of_ble_eq_true rfl)
  rw [lg_entry_eq]
  generalize (lg_sl ([.ref a0, .int (nI q), .int (nI j), .int x, .int y]) ++ List.replicate (7 - (lg_sl ([.ref a0, .int (nI q), .int (nI j), .int x, .int y])).length) Slot.unset).toArray = ls at hl ⊢
  have hl : lv_has ls 7 [(0, .ref a0), (1, .int (nI q)), (2, .int (nI j)), (3, .int x), (4, .int y)] := hl
  obtain ⟨hok, hpd, ⟨n1, n2, n3, n4, n5, n6, n7⟩, hk2, hd10, hd6, hpp, hff⟩ := id G
  obtain ⟨b1, b2, b3, b4⟩ := (hpp q hq).2 j hj
  have hms := tl_ms_at b3 b4 hx0 hx9 hy0 hy9
  have hhl := tl_hl hx0 hx9 hy0 hy9
  refine lv_aload_n hx hb dX5_measure_0 rfl (lv_at hl 0 rfl) ?_
  refine tl_get hx hb hts (by decide +kernel) hown hKK.1 hB 6 (by decide) (hts (.fieldLink RX5 28 "WaxrowLaw$Told" "low" "[[I") (by decide +kernel)) rfl (v := .ref (L 4 0)) rfl dX5_measure_1 ?_
  refine lv_iload_n hx hb dX5_measure_4 rfl (lv_at hl 1 rfl) ?_
  refine tl_aald hx hb hKK.2.1 hB 4 q (by decide) (by decide) (by rw [n4]; exact hq) (by omega) dX5_measure_5 ?_
  refine lv_iload_n hx hb dX5_measure_6 rfl (lv_at hl 2 rfl) ?_
  refine tl_iald hx hb hKK.1 hB 4 q (by decide) (by decide) (by rw [n4]; exact hq) (i := nI j) (vp_in_nI (show j < tl_wd 14 from hj) (by decide)) dX5_measure_7 ?_
  rw [show (nI j : Int32).toNatClampNeg = j from nI_clamp (by omega)]
  rw [show c 14 q j = σ 7 q j from b1]
  refine lv_iload_n hx hb dX5_measure_8 rfl (lv_at hl 3 rfl) ?_
  refine lv_iload hx hb dX5_measure_9 (lv_at hl 4 rfl) ?_
  refine lv_isub hx hb dX5_measure_11 ?_
  refine va_mmax hx hb (by rw [hml]; exact hl.1.symm) hown (hts (.methodLink RX5 97 Lib.Math.max.name) (by decide +kernel)) (hts (.static Lib.Math.max.name) (by decide +kernel)) (hts (.initialized "java/lang/Math") (by decide +kernel)) (hts (.code Lib.Math.max.name Lib.Math.max.code 2 (some .int)) (by decide +kernel)) (Nat.le_of_ble_eq_true rfl) (Nat.le_of_ble_eq_true rfl) (Nat.zero_le _) (Nat.zero_le _) dX5_measure_12 ?_
  refine lv_istore (lv' := [(5, .int (if σ 7 q j < x - y then x - y else σ 7 q j)), (0, .ref a0), (1, .int (nI q)), (2, .int (nI j)), (3, .int x), (4, .int y)]) hx hb dX5_measure_15 hl (by decide) rfl (fun ls hl => ?_)
  refine lv_aload_n hx hb dX5_measure_17 rfl (lv_at hl 1 rfl) ?_
  refine tl_get hx hb hts (by decide +kernel) hown hKK.1 hB 7 (by decide) (hts (.fieldLink RX5 31 "WaxrowLaw$Told" "high" "[[I") (by decide +kernel)) rfl (v := .ref (L 5 0)) rfl dX5_measure_18 ?_
  refine lv_iload_n hx hb dX5_measure_21 rfl (lv_at hl 2 rfl) ?_
  refine tl_aald hx hb hKK.2.1 hB 5 q (by decide) (by decide) (by rw [n5]; exact hq) (by omega) dX5_measure_22 ?_
  refine lv_iload_n hx hb dX5_measure_23 rfl (lv_at hl 3 rfl) ?_
  refine tl_iald hx hb hKK.1 hB 5 q (by decide) (by decide) (by rw [n5]; exact hq) (i := nI j) (vp_in_nI (show j < tl_wd 15 from hj) (by decide)) dX5_measure_24 ?_
  rw [show (nI j : Int32).toNatClampNeg = j from nI_clamp (by omega)]
  rw [show c 15 q j = σ 8 q j from b2]
  refine lv_iload_n hx hb dX5_measure_25 rfl (lv_at hl 4 rfl) ?_
  refine lv_iload hx hb dX5_measure_26 (lv_at hl 5 rfl) ?_
  refine lv_iadd hx hb dX5_measure_28 ?_
  refine va_mmin hx hb (by rw [hml]; exact hl.1.symm) hown (hts (.methodLink RX5 102 Lib.Math.min.name) (by decide +kernel)) (hts (.static Lib.Math.min.name) (by decide +kernel)) (hts (.initialized "java/lang/Math") (by decide +kernel)) (hts (.code Lib.Math.min.name Lib.Math.min.code 2 (some .int)) (by decide +kernel)) (Nat.le_of_ble_eq_true rfl) (Nat.le_of_ble_eq_true rfl) (Nat.zero_le _) (Nat.zero_le _) dX5_measure_29 ?_
  refine lv_istore (lv' := [(6, .int (if x + y < σ 8 q j then x + y else σ 8 q j)), (5, .int (if σ 7 q j < x - y then x - y else σ 7 q j)), (0, .ref a0), (1, .int (nI q)), (2, .int (nI j)), (3, .int x), (4, .int y)]) hx hb dX5_measure_32 hl (by decide) rfl (fun ls hl => ?_)
  refine lv_iload hx hb dX5_measure_34 (lv_at hl 1 rfl) ?_
  refine lv_iload hx hb dX5_measure_36 (lv_at hl 0 rfl) ?_
  refine lv_icmp_le (tgt := 75) hx hb dX5_measure_38 (by decide) (fun c_38 => ?_) (fun c_38 => ?_)
  · refine lv_aload_n hx hb dX5_measure_75 rfl (lv_at hl 2 rfl) ?_
    refine tl_get hx hb hts (by decide +kernel) hown hKK.1 hB 6 (by decide) (hts (.fieldLink RX5 28 "WaxrowLaw$Told" "low" "[[I") (by decide +kernel)) rfl (v := .ref (L 4 0)) rfl dX5_measure_76 ?_
    refine lv_iload_n hx hb dX5_measure_79 rfl (lv_at hl 3 rfl) ?_
    refine tl_aald hx hb hKK.2.1 hB 4 q (by decide) (by decide) (by rw [n4]; exact hq) (by omega) dX5_measure_80 ?_
    refine lv_iload_n hx hb dX5_measure_81 rfl (lv_at hl 4 rfl) ?_
    refine lv_iload hx hb dX5_measure_82 (lv_at hl 1 rfl) ?_
    refine tl_iast hx hb hKK.1 hB hS 4 q (by decide) (by decide) (by rw [n4]; exact hq) (i := nI j) (x := if σ 7 q j < x - y then x - y else σ 7 q j) (vp_in_nI (show j < tl_wd 14 from hj) (by decide)) dX5_measure_84 (fun H locs hB hS hz => ?_)
    rw [show (nI j : Int32).toNatClampNeg = j from nI_clamp (by omega)] at hB
    have hB : tl_B D d a0 w b cB Lh Ah A L n (hs_sg c 14 q j (if σ 7 q j < x - y then x - y else σ 7 q j)) σ H := hB
    refine lv_aload_n hx hb dX5_measure_85 rfl (lv_at hl 2 rfl) ?_
    refine tl_get hx hb hts (by decide +kernel) hown hKK.1 hB 7 (by decide) (hts (.fieldLink RX5 31 "WaxrowLaw$Told" "high" "[[I") (by decide +kernel)) rfl (v := .ref (L 5 0)) rfl dX5_measure_86 ?_
    refine lv_iload_n hx hb dX5_measure_89 rfl (lv_at hl 3 rfl) ?_
    refine tl_aald hx hb hKK.2.1 hB 5 q (by decide) (by decide) (by rw [n5]; exact hq) (by omega) dX5_measure_90 ?_
    refine lv_iload_n hx hb dX5_measure_91 rfl (lv_at hl 4 rfl) ?_
    refine lv_iload hx hb dX5_measure_92 (lv_at hl 0 rfl) ?_
    refine tl_iast hx hb hKK.1 hB hS 5 q (by decide) (by decide) (by rw [n5]; exact hq) (i := nI j) (x := if x + y < σ 8 q j then x + y else σ 8 q j) (vp_in_nI (show j < tl_wd 15 from hj) (by decide)) dX5_measure_94 (fun H locs hB hS hz => ?_)
    rw [show (nI j : Int32).toNatClampNeg = j from nI_clamp (by omega)] at hB
    have hB : tl_B D d a0 w b cB Lh Ah A L n (hs_sg (hs_sg c 14 q j (if σ 7 q j < x - y then x - y else σ 7 q j)) 15 q j (if x + y < σ 8 q j then x + y else σ 8 q j)) σ H := hB
    refine lv_aload_n hx hb dX5_measure_95 rfl (lv_at hl 2 rfl) ?_
    refine tl_get hx hb hts (by decide +kernel) hown hKK.1 hB 0 (by decide) (hts (.fieldLink RX5 10 "WaxrowLaw$Told" "m" "LWaxrow;") (by decide +kernel)) rfl (v := .ref w) rfl dX5_measure_96 ?_
    refine lv_iload_n hx hb dX5_measure_99 rfl (lv_at hl 3 rfl) ?_
    refine lv_iload_n hx hb dX5_measure_100 rfl (lv_at hl 4 rfl) ?_
    refine lv_iload_n hx hb dX5_measure_101 rfl (lv_at hl 5 rfl) ?_
    refine lv_iload hx hb dX5_measure_102 (lv_at hl 6 rfl) ?_
    refine tl_waxi (As := [.int (nI q), .int (nI j), .int x, .int y]) ⟨hx, hb, hml, hown, hts⟩ (kX4_measure l D d Lh σ Ah w L2 (fun z => hH.2.2.1 (hH.2.1 w z)) P F R hok q hq j hj x y hx0 hx9 hy0 hy9) (cwV 4 hts gX5_measure_X4_measure rfl rfl rfl (by decide +kernel) ⟨Nat.le_of_ble_eq_true rfl, Nat.le_of_ble_eq_true rfl⟩) hKK hH hB hS rfl hl.1 (Nat.le_of_ble_eq_true rfl) dX5_measure_104 ⟨Nat.le_of_ble_eq_true rfl, Nat.le_of_ble_eq_true rfl⟩ rfl (fun r_ τ_ H locs hp hB hz hS => ?_)
    obtain ⟨h1_, h2_⟩ := hp
    subst h1_
    have hB : tl_B D d a0 w b cB Lh Ah A L n (hs_sg (hs_sg c 14 q j (if σ 7 q j < x - y then x - y else σ 7 q j)) 15 q j (if x + y < σ 8 q j then x + y else σ 8 q j)) (tl_ms σ q j x y) H := hB
    refine lv_iload hx hb dX5_measure_107 (lv_at hl 0 rfl) ?_
    refine lv_iload hx hb dX5_measure_109 (lv_at hl 1 rfl) ?_
    refine lv_isub hx hb dX5_measure_111 ?_
    refine lv_icmp_ne (tgt := 119) hx hb dX5_measure_112 (by decide) (fun c_112 => ?_) (fun c_112 => ?_)
    · exact absurd (h2_.symm.trans (by show tl_ms σ q j x y 8 q j - tl_ms σ q j x y 7 q j = _; rw [hms.1, hms.2, if_pos c_38, if_pos c_38])) c_112
    · refine lv_iconst (v := 1) hx hb dX5_measure_115 (by decide) ?_
      refine lv_goto (tgt := 120) hx hb dX5_measure_116 (by decide) ?_
      exact W.zret (v := 1) (ty := .boolean) hx hb hr rfl (fun U9 ht hW9 => ⟨⟨1, (L, n, hs_sg (hs_sg c 14 q j (if σ 7 q j < x - y then x - y else σ 7 q j)) 15 q j (if x + y < σ 8 q j then x + y else σ 8 q j), tl_ms σ q j x y), rfl, ⟨rfl, rfl, tg_measure G q j hq hj hx0 hx9 hy0 hy9 (fun a i e_ h1 h2 => by simp only [hs_sg]; repeat rw [if_neg (by omega)]) (by rw [hms.1, if_pos c_38]; simp [hs_sg]) (by rw [hms.2, if_pos c_38]; simp [hs_sg])⟩, by show tl_Bx D d a0 w b cB Lh Ah A _ U9.heap; rw [ht]; exact hB⟩, hS.F ht⟩) hS.2.2 dX5_measure_120
  · refine lv_iload_n hx hb dX5_measure_41 rfl (lv_at hl 5 rfl) ?_
    refine lv_iload hx hb dX5_measure_42 (lv_at hl 6 rfl) ?_
    refine lv_isub hx hb dX5_measure_44 ?_
    refine lv_bipush (v := 99) hx hb dX5_measure_45 (by decide) ?_
    refine tl_purei (As := [.int (x - y), .int 99]) ⟨hx, hb, hml, hown, hts⟩ (kX5_held l (x - y) 99) (va_cwS 2 hts gX5_measure_X5_held rfl rfl rfl (by decide +kernel) ⟨Nat.le_of_ble_eq_true rfl, Nat.le_of_ble_eq_true rfl⟩) hB hS rfl hl.1 (Nat.le_of_ble_eq_true rfl) dX5_measure_47 ⟨Nat.le_of_ble_eq_true rfl, Nat.le_of_ble_eq_true rfl⟩ rfl (fun r_ H locs hp hB hz hqq hS => ?_)
    subst hp
    have hB : tl_B D d a0 w b cB Lh Ah A L n c σ H := hB
    rw [hhl.1]
    refine lv_istore (lv' := [(5, .int (if x - y < 0 then 0 else x - y)), (6, .int (if x + y < σ 8 q j then x + y else σ 8 q j)), (0, .ref a0), (1, .int (nI q)), (2, .int (nI j)), (3, .int x), (4, .int y)]) hx hb dX5_measure_50 hl (by decide) rfl (fun ls hl => ?_)
    refine lv_iload_n hx hb dX5_measure_52 rfl (lv_at hl 5 rfl) ?_
    refine lv_iload hx hb dX5_measure_53 (lv_at hl 6 rfl) ?_
    refine lv_iadd hx hb dX5_measure_55 ?_
    refine lv_bipush (v := 99) hx hb dX5_measure_56 (by decide) ?_
    refine tl_purei (As := [.int (x + y), .int 99]) ⟨hx, hb, hml, hown, hts⟩ (kX5_held l (x + y) 99) (va_cwS 2 hts gX5_measure_X5_held rfl rfl rfl (by decide +kernel) ⟨Nat.le_of_ble_eq_true rfl, Nat.le_of_ble_eq_true rfl⟩) hB hS rfl hl.1 (Nat.le_of_ble_eq_true rfl) dX5_measure_58 ⟨Nat.le_of_ble_eq_true rfl, Nat.le_of_ble_eq_true rfl⟩ rfl (fun r_ H locs hp hB hz hqq hS => ?_)
    subst hp
    have hB : tl_B D d a0 w b cB Lh Ah A L n c σ H := hB
    rw [hhl.2]
    refine lv_istore (lv' := [(6, .int (if 99 < x + y then 99 else x + y)), (5, .int (if x - y < 0 then 0 else x - y)), (0, .ref a0), (1, .int (nI q)), (2, .int (nI j)), (3, .int x), (4, .int y)]) hx hb dX5_measure_61 hl (by decide) rfl (fun ls hl => ?_)
    refine lv_aload_n hx hb dX5_measure_63 rfl (lv_at hl 2 rfl) ?_
    refine tl_get hx hb hts (by decide +kernel) hown hKK.1 hB 5 (by decide) (hts (.fieldLink RX5 25 "WaxrowLaw$Told" "rest" "[[I") (by decide +kernel)) rfl (v := .ref (L 3 0)) rfl dX5_measure_64 ?_
    refine lv_iload_n hx hb dX5_measure_67 rfl (lv_at hl 3 rfl) ?_
    refine tl_aald hx hb hKK.2.1 hB 3 q (by decide) (by decide) (by rw [n3]; exact hq) (by omega) dX5_measure_68 ?_
    refine lv_iconst (v := 2) hx hb dX5_measure_69 (by decide) ?_
    refine lv_dup2_11 hx hb dX5_measure_70 rfl rfl ?_
    refine tl_iald hx hb hKK.1 hB 3 q (by decide) (by decide) (by rw [n3]; exact hq) (i := 2) (by unfold vp_in; decide) dX5_measure_71 ?_
    rw [show (2 : Int32).toNatClampNeg = 2 from by decide]
    refine lv_iconst (v := 1) hx hb dX5_measure_72 (by decide) ?_
    refine lv_iadd hx hb dX5_measure_73 ?_
    refine tl_iast hx hb hKK.1 hB hS 3 q (by decide) (by decide) (by rw [n3]; exact hq) (i := 2) (x := (c 13 q 2) + 1) (by unfold vp_in; decide) dX5_measure_74 (fun H locs hB hS hz => ?_)
    rw [show (2 : Int32).toNatClampNeg = 2 from by decide] at hB
    have hB : tl_B D d a0 w b cB Lh Ah A L n (hs_sg c 13 q 2 ((c 13 q 2) + 1)) σ H := hB
    refine lv_aload_n hx hb dX5_measure_75 rfl (lv_at hl 2 rfl) ?_
    refine tl_get hx hb hts (by decide +kernel) hown hKK.1 hB 6 (by decide) (hts (.fieldLink RX5 28 "WaxrowLaw$Told" "low" "[[I") (by decide +kernel)) rfl (v := .ref (L 4 0)) rfl dX5_measure_76 ?_
    refine lv_iload_n hx hb dX5_measure_79 rfl (lv_at hl 3 rfl) ?_
    refine tl_aald hx hb hKK.2.1 hB 4 q (by decide) (by decide) (by rw [n4]; exact hq) (by omega) dX5_measure_80 ?_
    refine lv_iload_n hx hb dX5_measure_81 rfl (lv_at hl 4 rfl) ?_
    refine lv_iload hx hb dX5_measure_82 (lv_at hl 1 rfl) ?_
    refine tl_iast hx hb hKK.1 hB hS 4 q (by decide) (by decide) (by rw [n4]; exact hq) (i := nI j) (x := if x - y < 0 then 0 else x - y) (vp_in_nI (show j < tl_wd 14 from hj) (by decide)) dX5_measure_84 (fun H locs hB hS hz => ?_)
    rw [show (nI j : Int32).toNatClampNeg = j from nI_clamp (by omega)] at hB
    have hB : tl_B D d a0 w b cB Lh Ah A L n (hs_sg (hs_sg c 13 q 2 ((c 13 q 2) + 1)) 14 q j (if x - y < 0 then 0 else x - y)) σ H := hB
    refine lv_aload_n hx hb dX5_measure_85 rfl (lv_at hl 2 rfl) ?_
    refine tl_get hx hb hts (by decide +kernel) hown hKK.1 hB 7 (by decide) (hts (.fieldLink RX5 31 "WaxrowLaw$Told" "high" "[[I") (by decide +kernel)) rfl (v := .ref (L 5 0)) rfl dX5_measure_86 ?_
    refine lv_iload_n hx hb dX5_measure_89 rfl (lv_at hl 3 rfl) ?_
    refine tl_aald hx hb hKK.2.1 hB 5 q (by decide) (by decide) (by rw [n5]; exact hq) (by omega) dX5_measure_90 ?_
    refine lv_iload_n hx hb dX5_measure_91 rfl (lv_at hl 4 rfl) ?_
    refine lv_iload hx hb dX5_measure_92 (lv_at hl 0 rfl) ?_
    refine tl_iast hx hb hKK.1 hB hS 5 q (by decide) (by decide) (by rw [n5]; exact hq) (i := nI j) (x := if 99 < x + y then 99 else x + y) (vp_in_nI (show j < tl_wd 15 from hj) (by decide)) dX5_measure_94 (fun H locs hB hS hz => ?_)
    rw [show (nI j : Int32).toNatClampNeg = j from nI_clamp (by omega)] at hB
    have hB : tl_B D d a0 w b cB Lh Ah A L n (hs_sg (hs_sg (hs_sg c 13 q 2 ((c 13 q 2) + 1)) 14 q j (if x - y < 0 then 0 else x - y)) 15 q j (if 99 < x + y then 99 else x + y)) σ H := hB
    refine lv_aload_n hx hb dX5_measure_95 rfl (lv_at hl 2 rfl) ?_
    refine tl_get hx hb hts (by decide +kernel) hown hKK.1 hB 0 (by decide) (hts (.fieldLink RX5 10 "WaxrowLaw$Told" "m" "LWaxrow;") (by decide +kernel)) rfl (v := .ref w) rfl dX5_measure_96 ?_
    refine lv_iload_n hx hb dX5_measure_99 rfl (lv_at hl 3 rfl) ?_
    refine lv_iload_n hx hb dX5_measure_100 rfl (lv_at hl 4 rfl) ?_
    refine lv_iload_n hx hb dX5_measure_101 rfl (lv_at hl 5 rfl) ?_
    refine lv_iload hx hb dX5_measure_102 (lv_at hl 6 rfl) ?_
    refine tl_waxi (As := [.int (nI q), .int (nI j), .int x, .int y]) ⟨hx, hb, hml, hown, hts⟩ (kX4_measure l D d Lh σ Ah w L2 (fun z => hH.2.2.1 (hH.2.1 w z)) P F R hok q hq j hj x y hx0 hx9 hy0 hy9) (cwV 4 hts gX5_measure_X4_measure rfl rfl rfl (by decide +kernel) ⟨Nat.le_of_ble_eq_true rfl, Nat.le_of_ble_eq_true rfl⟩) hKK hH hB hS rfl hl.1 (Nat.le_of_ble_eq_true rfl) dX5_measure_104 ⟨Nat.le_of_ble_eq_true rfl, Nat.le_of_ble_eq_true rfl⟩ rfl (fun r_ τ_ H locs hp hB hz hS => ?_)
    obtain ⟨h1_, h2_⟩ := hp
    subst h1_
    have hB : tl_B D d a0 w b cB Lh Ah A L n (hs_sg (hs_sg (hs_sg c 13 q 2 ((c 13 q 2) + 1)) 14 q j (if x - y < 0 then 0 else x - y)) 15 q j (if 99 < x + y then 99 else x + y)) (tl_ms σ q j x y) H := hB
    refine lv_iload hx hb dX5_measure_107 (lv_at hl 0 rfl) ?_
    refine lv_iload hx hb dX5_measure_109 (lv_at hl 1 rfl) ?_
    refine lv_isub hx hb dX5_measure_111 ?_
    refine lv_icmp_ne (tgt := 119) hx hb dX5_measure_112 (by decide) (fun c_112 => ?_) (fun c_112 => ?_)
    · exact absurd (h2_.symm.trans (by show tl_ms σ q j x y 8 q j - tl_ms σ q j x y 7 q j = _; rw [hms.1, hms.2, if_neg c_38, if_neg c_38])) c_112
    · refine lv_iconst (v := 1) hx hb dX5_measure_115 (by decide) ?_
      refine lv_goto (tgt := 120) hx hb dX5_measure_116 (by decide) ?_
      exact W.zret (v := 1) (ty := .boolean) hx hb hr rfl (fun U9 ht hW9 => ⟨⟨1, (L, n, hs_sg (hs_sg (hs_sg c 13 q 2 ((c 13 q 2) + 1)) 14 q j (if x - y < 0 then 0 else x - y)) 15 q j (if 99 < x + y then 99 else x + y), tl_ms σ q j x y), rfl, ⟨rfl, rfl, tg_measure G q j hq hj hx0 hx9 hy0 hy9 (fun a i e_ h1 h2 => by simp only [hs_sg]; repeat rw [if_neg (by omega)]) (by rw [hms.1, if_neg c_38]; simp [hs_sg]) (by rw [hms.2, if_neg c_38]; simp [hs_sg])⟩, by show tl_Bx D d a0 w b cB Lh Ah A _ U9.heap; rw [ht]; exact hB⟩, hS.F ht⟩) hS.2.2 dX5_measure_120
def tl_hands (c : hs_St) : Nat → Int32
  | 0 => 0
  | n + 1 => tl_hands c n + c 16 n 3
theorem tl_hands_of {c σ : hs_St} : ∀ F, (∀ f, f < F → c 16 f 3 = σ 9 f 4) → tl_hands c F = sp_hands σ F
  | 0, _ => rfl
  | n + 1, h => by
    show tl_hands c n + c 16 n 3 = sp_hands σ n + σ 9 n 4
    rw [tl_hands_of n (fun f hf => h f (by omega)), h n (by omega)]
theorem sp_hands_lo (σ : hs_St) (f : Nat) (x : Int32) : ∀ n, n ≤ f → sp_hands (hs_sg σ 9 f 4 x) n = sp_hands σ n
  | 0, _ => rfl
  | n + 1, h => by
    show sp_hands (hs_sg σ 9 f 4 x) n + hs_sg σ 9 f 4 x 9 n 4 = sp_hands σ n + σ 9 n 4
    rw [sp_hands_lo σ f x n (by omega), pc_sg, if_neg (by omega)]
theorem sp_hands_sg (σ : hs_St) (f : Nat) (x : Int32) : ∀ n, f < n → sp_hands (hs_sg σ 9 f 4 x) n = sp_hands σ n - σ 9 f 4 + x
  | 0, h => absurd h (Nat.not_lt_zero _)
  | n + 1, h => by
    show sp_hands (hs_sg σ 9 f 4 x) n + hs_sg σ 9 f 4 x 9 n 4 = sp_hands σ n + σ 9 n 4 - σ 9 f 4 + x
    by_cases e : f = n
    · subst e
      rw [sp_hands_lo σ f x f (Nat.le_refl _), pc_sg, if_pos ⟨rfl, rfl, rfl⟩]
      rw [Int32.sub_eq_add_neg, Int32.add_assoc (sp_hands σ f), Int32.add_right_neg, Int32.add_zero]
    · rw [sp_hands_sg σ f x n (by omega), pc_sg, if_neg (by omega)]
      rw [Int32.sub_eq_add_neg, Int32.sub_eq_add_neg]
      ac_rfl
set_option maxHeartbeats 4000000 in
set_option maxRecDepth 100000 in
/-- Told: hands: the loop at 13 -/
theorem lkX5_hands (l : Launch) (D : va_G) (d : hs_Dm) (a0 w b : Nat) (cB : ClassId) (Lh L2 : hs_Lo) (Ah A : Nat → Prop) (N : Nat) (xs : Nat → Int32) (L : hs_Lo) (n : Nat → Nat) (c σ : hs_St)  (hN31 : N < 2 ^ 31) {p : Program} {e : Env} {s : State} {m : MethodId} {args : Array Value} {below : List Frame} {meth : Method} {c0 : Code} (F : Nat) (n6 : n 6 = F) (hF8 : F ≤ 8) (hx : p.tables.exec = Jvm.exec) (hb : c0.code = cX5_hands) (hr : meth.sig.returnType = (some .int)) (hts : ∀ w ∈ wsX5_hands, w.before args s = true) (hown : s.vm.findClass RX5 = some m.cls) (hlocks : meth.locks = false) (hml : c0.maxLocals = 6) (hKK : tl_K D d w b cB Lh L2 A N xs s s.heap) (hH : tl_H w b Ah A s.heap.size) : ∀ (kk u : Nat), u + kk = F → ∀ (sum : Int32) (hsum : sum = tl_hands c u) (H : Heap) (locs : List Loc), tl_B D d a0 w b cB Lh Ah A L n c σ H → va_S A s.heap H locs → ∀ ls : Array Slot, lv_has ls 6 [(1, .int sum), (2, .ref (L 6 0)), (3, .int (nI F)), (4, .int (nI u)), (0, .ref a0)] → W p l e ({ frames := 0, cells := 0, slots := 0, locals := 0 } : Room) s m args below meth c0 H locs 0 0 (MQ below (va_Qi (fun r X => r = tl_hands c F ∧ X = (L, n, c, σ)) (fun X t => tl_Bx D d a0 w b cB Lh Ah A X t.heap) A) args s 0 0 A) (F0 m 13 ls []) := by
  intro kk
  induction kk with
  | zero =>
    intro u hu sum hsum H locs hB hS ls hl
    have huN : u = F := by omega
    refine lv_iload hx hb dX5_hands_13 (lv_at hl 3 rfl) ?_
    refine lv_iload_n hx hb dX5_hands_15 rfl (lv_at hl 2 rfl) ?_
    refine lv_icmp_ge (tgt := 38) hx hb dX5_hands_16 (by decide) (fun c_16 => ?_) (fun c_16 => ?_)
    · refine lv_iload_n hx hb dX5_hands_38 rfl (lv_at hl 0 rfl) ?_
      exact W.iret (v := sum) hx hb hr (fun U9 ht hW9 => ⟨⟨sum, (L, n, c, σ), rfl, ⟨by rw [hsum, huN], rfl⟩, by show tl_Bx D d a0 w b cB Lh Ah A _ U9.heap; rw [ht]; exact hB⟩, hS.F ht⟩) hS.2.2 dX5_hands_39
    · exact absurd (by rw [huN]; exact nI_le (Nat.le_refl _) (by omega)) c_16
  | succ kk ih =>
    intro u hu sum hsum H locs hB hS ls hl
    have huN : u < F := by omega
    refine lv_iload hx hb dX5_hands_13 (lv_at hl 3 rfl) ?_
    refine lv_iload_n hx hb dX5_hands_15 rfl (lv_at hl 2 rfl) ?_
    refine lv_icmp_ge (tgt := 38) hx hb dX5_hands_16 (by decide) (fun c_16 => ?_) (fun c_16 => ?_)
    · exact absurd c_16 (nI_ge huN (by omega))
    · refine lv_aload_n hx hb dX5_hands_19 rfl (lv_at hl 1 rfl) ?_
      refine lv_iload hx hb dX5_hands_20 (lv_at hl 3 rfl) ?_
      refine tl_aald hx hb hKK.2.1 hB 6 u (by decide) (by decide) (by rw [n6]; exact huN) (by omega) dX5_hands_22 ?_
      refine lv_astore (lv' := [(5, .ref (L 16 u)), (1, .int sum), (2, .ref (L 6 0)), (3, .int (nI F)), (4, .int (nI u)), (0, .ref a0)]) hx hb dX5_hands_23 hl (by decide) rfl (fun ls hl => ?_)
      refine lv_iload_n hx hb dX5_hands_25 rfl (lv_at hl 1 rfl) ?_
      refine lv_aload hx hb dX5_hands_26 (lv_at hl 0 rfl) ?_
      refine lv_iconst (v := 3) hx hb dX5_hands_28 (by decide) ?_
      refine tl_iald hx hb hKK.1 hB 6 u (by decide) (by decide) (by rw [n6]; exact huN) (i := 3) (by unfold vp_in; decide) dX5_hands_29 ?_
      rw [show (3 : Int32).toNatClampNeg = 3 from by decide]
      refine lv_iadd hx hb dX5_hands_30 ?_
      refine lv_istore_n (lv' := [(1, .int (sum + (c 16 u 3))), (5, .ref (L 16 u)), (2, .ref (L 6 0)), (3, .int (nI F)), (4, .int (nI u)), (0, .ref a0)]) hx hb dX5_hands_31 rfl hl (by decide) rfl (fun ls hl => ?_)
      refine lv_iinc (v := nI (u + 1)) (lv' := [(4, .int (nI (u + 1))), (1, .int (sum + (c 16 u 3))), (5, .ref (L 16 u)), (2, .ref (L 6 0)), (3, .int (nI F)), (0, .ref a0)]) hx hb dX5_hands_32 hl (k := 4) rfl (nI_succ _).symm (by decide) rfl (fun ls hl => ?_)
      refine lv_goto (tgt := 13) hx hb dX5_hands_35 (by decide) ?_
      exact ih (u + 1) (by omega) _ (by rw [hsum]; rfl) H locs hB hS ls (lv_sub hl [1, 3, 4, 0, 5] rfl)
set_option maxHeartbeats 4000000 in
set_option maxRecDepth 100000 in
/-- Told: hands -/
theorem kX5_hands (l : Launch) (D : va_G) (d : hs_Dm) (a0 w b : Nat) (cB : ClassId) (Lh L2 : hs_Lo) (Ah A : Nat → Prop) (N : Nat) (xs : Nat → Int32) (L : hs_Lo) (n : Nat → Nat) (c σ : hs_St) (sz : Nat) (hH : tl_H w b Ah A sz) (hN31 : N < 2 ^ 31) (F : Nat) (n6 : n 6 = F) (hF8 : F ≤ 8) : tl_Mi l yX5_hands wsX5_hands ({ frames := 0, cells := 0, slots := 0, locals := 0 }) D d a0 w b cB Lh L2 Ah A N xs L n c σ sz [.ref a0] (fun r X => r = tl_hands c F ∧ X = (L, n, c, σ)) 0 0 := by
  refine Met.ofW (cc := cX5_hands) (maxL := 6) (ret := (some .int)) (by decide) rfl ?_
  intro p e s m args below meth c0 s₁ B hml hv
  obtain ⟨rfl, hsz, hB, hKK⟩ := hv
  have hx := B.exec
  have hb := B.bytes
  have hr := B.returns
  have hts := atoms_spec (ws := wsX5_hands) B.pre
  have hown : s.vm.findClass RX5 = some m.cls := findClass_of_methodNamed B.named
  have hlocks := B.notSynchronized
  have hS : va_S A s.heap s.heap [] := va_S.rf
  have hH : tl_H w b Ah A s.heap.size := by rw [hsz]; exact hH
  have hl := lv_entry ([.ref a0]) (n := 6) (Nat.le_of_ble_eq_true rfl)
  rw [lg_entry_eq]
  generalize (lg_sl ([.ref a0]) ++ List.replicate (6 - (lg_sl ([.ref a0])).length) Slot.unset).toArray = ls at hl ⊢
  have hl : lv_has ls 6 [(0, .ref a0)] := hl
  refine lv_iconst (v := 0) hx hb dX5_hands_0 (by decide) ?_
  refine lv_istore_n (lv' := [(1, .int 0), (0, .ref a0)]) hx hb dX5_hands_1 rfl hl (by decide) rfl (fun ls hl => ?_)
  refine lv_aload_n hx hb dX5_hands_2 rfl (lv_at hl 1 rfl) ?_
  refine tl_get hx hb hts (by decide +kernel) hown hKK.1 hB 8 (by decide) (hts (.fieldLink RX5 34 "WaxrowLaw$Told" "figures" "[[I") (by decide +kernel)) rfl (v := .ref (L 6 0)) rfl dX5_hands_3 ?_
  refine lv_astore_n (lv' := [(2, .ref (L 6 0)), (1, .int 0), (0, .ref a0)]) hx hb dX5_hands_6 rfl hl (by decide) rfl (fun ls hl => ?_)
  refine lv_aload_n hx hb dX5_hands_7 rfl (lv_at hl 0 rfl) ?_
  refine tl_len hx hb hKK.2.1 hB 6 (by decide) (by decide) dX5_hands_8 ?_
  rw [show n 6 = F from n6]
  refine lv_istore_n (lv' := [(3, .int (nI F)), (2, .ref (L 6 0)), (1, .int 0), (0, .ref a0)]) hx hb dX5_hands_9 rfl hl (by decide) rfl (fun ls hl => ?_)
  refine lv_iconst (v := 0) hx hb dX5_hands_10 (by decide) ?_
  refine lv_istore (lv' := [(4, .int 0), (3, .int (nI F)), (2, .ref (L 6 0)), (1, .int 0), (0, .ref a0)]) hx hb dX5_hands_11 hl (by decide) rfl (fun ls hl => ?_)
  exact lkX5_hands l D d a0 w b cB Lh L2 Ah A N xs L n c σ hN31 F n6 hF8 hx hb hr hts hown hlocks hml hKK hH F 0 (by omega) 0 rfl _ _ hB hS ls (lv_sub hl [3, 2, 1, 0, 4] rfl)
set_option maxHeartbeats 4000000 in
set_option maxRecDepth 100000 in
/-- Told: work -/
theorem kX5_work (l : Launch) (D : va_G) (d : hs_Dm) (a0 w b : Nat) (cB : ClassId) (Lh L2 : hs_Lo) (Ah A : Nat → Prop) (N : Nat) (xs : Nat → Int32) (L : hs_Lo) (n : Nat → Nat) (c σ : hs_St) (sz : Nat) (hH : tl_H w b Ah A sz) (hN31 : N < 2 ^ 31) (P F R k dy : Nat) (G : tg P F R n c σ k dy) (hP9 : P ≤ 7) (hF7 : F ≤ 7) (hR4 : R ≤ 4) (hk20 : k < 2 ^ 20) (f x : Nat) (hf : f < F) (hx9 : x ≤ 9) (hs6 : ¬ σ 9 f 2 = nI 6) (ha : ¬ 12 < sp_hands σ F - σ 9 f 4 + nI x) : tl_Mi l yX5_work wsX5_work ({ frames := 3, cells := 0, slots := 0, locals := 90 }) D d a0 w b cB Lh L2 Ah A N xs L n c σ sz [.ref a0, .int (nI f), .int (nI x)] (fun r X => r = 1 ∧ X.2.2.2 = hs_sg σ 9 f 4 (nI x) ∧ tg P F R X.2.1 X.2.2.1 X.2.2.2 k dy) 0 0 := by
  refine Met.ofW (cc := cX5_work) (maxL := 3) (ret := (some .boolean)) (by decide) rfl ?_
  intro p e s m args below meth c0 s₁ B hml hv
  obtain ⟨rfl, hsz, hB, hKK⟩ := hv
  have hx := B.exec
  have hb := B.bytes
  have hr := B.returns
  have hts := atoms_spec (ws := wsX5_work) B.pre
  have hown : s.vm.findClass RX5 = some m.cls := findClass_of_methodNamed B.named
  have hlocks := B.notSynchronized
  have hS : va_S A s.heap s.heap [] := va_S.rf
  have hH : tl_H w b Ah A s.heap.size := by rw [hsz]; exact hH
  have hl := lv_entry ([.ref a0, .int (nI f), .int (nI x)]) (n := 3) (Nat.le_of_ble_eq_true rfl)
  rw [lg_entry_eq]
  generalize (lg_sl ([.ref a0, .int (nI f), .int (nI x)]) ++ List.replicate (3 - (lg_sl ([.ref a0, .int (nI f), .int (nI x)])).length) Slot.unset).toArray = ls at hl ⊢
  have hl : lv_has ls 3 [(0, .ref a0), (1, .int (nI f)), (2, .int (nI x))] := hl
  obtain ⟨hok, hpd, ⟨n1, n2, n3, n4, n5, n6, n7⟩, hk2, hd10, hd6, hpp, hff⟩ := id G
  obtain ⟨a1, a2, -, a7⟩ := hff f hf
  have hlt6 : ¬ 6 ≤ σ 9 f 2 := by
    rcases a7 with ⟨j, w_, h, ⟨b1, -⟩, b3, -⟩ | ⟨b1, -⟩
    · rw [b1, sp_six]; exact nI_ge b3 (by decide)
    · exact absurd b1 hs6
  have hm7 : ¬ σ 9 f 7 = 7 := by rw [a2]; decide
  refine lv_aload_n hx hb dX5_work_0 rfl (lv_at hl 0 rfl) ?_
  refine tl_get hx hb hts (by decide +kernel) hown hKK.1 hB 8 (by decide) (hts (.fieldLink RX5 34 "WaxrowLaw$Told" "figures" "[[I") (by decide +kernel)) rfl (v := .ref (L 6 0)) rfl dX5_work_1 ?_
  refine lv_iload_n hx hb dX5_work_4 rfl (lv_at hl 1 rfl) ?_
  refine tl_aald hx hb hKK.2.1 hB 6 f (by decide) (by decide) (by rw [n6]; exact hf) (by omega) dX5_work_5 ?_
  refine lv_iconst (v := 3) hx hb dX5_work_6 (by decide) ?_
  refine lv_iload_n hx hb dX5_work_7 rfl (lv_at hl 2 rfl) ?_
  refine tl_iast hx hb hKK.1 hB hS 6 f (by decide) (by decide) (by rw [n6]; exact hf) (i := 3) (x := nI x) (by unfold vp_in; decide) dX5_work_8 (fun H locs hB hS hz => ?_)
  rw [show (3 : Int32).toNatClampNeg = 3 from by decide] at hB
  have hB : tl_B D d a0 w b cB Lh Ah A L n (hs_sg c 16 f 3 (nI x)) σ H := hB
  refine lv_aload_n hx hb dX5_work_9 rfl (lv_at hl 0 rfl) ?_
  refine tl_get hx hb hts (by decide +kernel) hown hKK.1 hB 0 (by decide) (hts (.fieldLink RX5 10 "WaxrowLaw$Told" "m" "LWaxrow;") (by decide +kernel)) rfl (v := .ref w) rfl dX5_work_10 ?_
  refine lv_iload_n hx hb dX5_work_13 rfl (lv_at hl 1 rfl) ?_
  refine lv_iload_n hx hb dX5_work_14 rfl (lv_at hl 2 rfl) ?_
  refine tl_waxi (As := [.int (nI f), .int (nI x)]) ⟨hx, hb, hml, hown, hts⟩ (kX4_work l D d Lh σ Ah w L2 (fun z => hH.2.2.1 (hH.2.1 w z)) P F R hok f hf (nI x) (nI_pos (by omega)) (nI_le (b := 9) hx9 (by decide)) hlt6 hm7 ha) (cwV 2 hts gX5_work_X4_work rfl rfl rfl (by decide +kernel) ⟨Nat.le_of_ble_eq_true rfl, Nat.le_of_ble_eq_true rfl⟩) hKK hH hB hS rfl hl.1 (Nat.le_of_ble_eq_true rfl) dX5_work_15 ⟨Nat.le_of_ble_eq_true rfl, Nat.le_of_ble_eq_true rfl⟩ rfl (fun r_ τ_ H locs hp hB hz hS => ?_)
  obtain ⟨h1_, rfl⟩ := hp
  have hB : tl_B D d a0 w b cB Lh Ah A L n (hs_sg c 16 f 3 (nI x)) (hs_sg σ 9 f 4 (nI x)) H := hB
  refine lv_aload_n hx hb dX5_work_18 rfl (lv_at hl 0 rfl) ?_
  refine tl_calli (As := []) ⟨hx, hb, hml, hown, hts⟩ (kX5_hands l D d a0 w b cB Lh L2 Ah A N xs L n (hs_sg c 16 f 3 (nI x)) (hs_sg σ 9 f 4 (nI x)) H.size (hH.up hS.1) hN31 F n6 (by omega)) (cwV 0 hts gX5_work_X5_hands rfl rfl rfl (by decide +kernel) ⟨Nat.le_of_ble_eq_true rfl, Nat.le_of_ble_eq_true rfl⟩) hKK hH hB hS rfl hl.1 (Nat.le_of_ble_eq_true rfl) dX5_work_19 ⟨Nat.le_of_ble_eq_true rfl, Nat.le_of_ble_eq_true rfl⟩ rfl (fun r2_ X_ H locs hp hB hz hS => ?_)
  obtain ⟨h2_, rfl⟩ := hp
  have hB : tl_B D d a0 w b cB Lh Ah A L n (hs_sg c 16 f 3 (nI x)) (hs_sg σ 9 f 4 (nI x)) H := hB
  refine lv_icmp_ne (tgt := 29) hx hb dX5_work_22 (by decide) (fun c_22 => ?_) (fun c_22 => ?_)
  · exact absurd (h1_.symm.trans (Eq.trans (sp_hands_sg σ f (nI x) F hf).symm ((tl_hands_of F (fun g hg => by
      obtain ⟨-, -, -, z⟩ := hff g hg
      by_cases e_ : g = f
      · subst e_; simp [hs_sg]
      · simp only [hs_sg]; rw [if_neg (by omega), if_neg (by omega)]; rcases z with ⟨_, _, _, _, _, _, _, z1, z2, _⟩ | ⟨_, z1, z2, _⟩ <;> rw [z1, z2])).symm.trans h2_.symm))) c_22
  · refine lv_iconst (v := 1) hx hb dX5_work_25 (by decide) ?_
    refine lv_goto (tgt := 30) hx hb dX5_work_26 (by decide) ?_
    exact W.zret (v := 1) (ty := .boolean) hx hb hr rfl (fun U9 ht hW9 => ⟨⟨1, (L, n, hs_sg c 16 f 3 (nI x), hs_sg σ 9 f 4 (nI x)), rfl, ⟨rfl, rfl, tg_work G f hf x hx9 hs6 (fun a i e_ h1 => by simp only [hs_sg]; rw [if_neg (by omega)]) (by simp [hs_sg])⟩, by show tl_Bx D d a0 w b cB Lh Ah A _ U9.heap; rw [ht]; exact hB⟩, hS.F ht⟩) hS.2.2 dX5_work_30
set_option maxHeartbeats 4000000 in
set_option maxRecDepth 100000 in
/-- Told: doubt: the loop at 4 -/
theorem lkX5_doubt (l : Launch) (D : va_G) (d : hs_Dm) (a0 w b : Nat) (cB : ClassId) (Lh L2 : hs_Lo) (Ah A : Nat → Prop) (N : Nat) (xs : Nat → Int32) (L : hs_Lo) (n : Nat → Nat) (c σ : hs_St)  (hN31 : N < 2 ^ 31) {p : Program} {e : Env} {s : State} {m : MethodId} {args : Array Value} {below : List Frame} {meth : Method} {c0 : Code} (q : Nat) (hq : q < n 4 ∧ q < n 5) (hq31 : q < 2 ^ 31) (hx : p.tables.exec = Jvm.exec) (hb : c0.code = cX5_doubt) (hr : meth.sig.returnType = (some .int)) (hts : ∀ w ∈ wsX5_doubt, w.before args s = true) (hown : s.vm.findClass RX5 = some m.cls) (hlocks : meth.locks = false) (hml : c0.maxLocals = 4) (hKK : tl_K D d w b cB Lh L2 A N xs s s.heap) (hH : tl_H w b Ah A s.heap.size) : ∀ (kk u : Nat), u + kk = 6 → ∀ (sum : Int32) (H : Heap) (locs : List Loc), tl_B D d a0 w b cB Lh Ah A L n c σ H → va_S A s.heap H locs → ∀ ls : Array Slot, lv_has ls 4 [(3, .int (nI u)), (2, .int sum), (1, .int (nI q)), (0, .ref a0)] → W p l e ({ frames := 0, cells := 0, slots := 0, locals := 0 } : Room) s m args below meth c0 H locs 0 0 (MQ below (va_Qi (fun _ X => X = (L, n, c, σ)) (fun X t => tl_Bx D d a0 w b cB Lh Ah A X t.heap) A) args s 0 0 A) (F0 m 4 ls []) := by
  intro kk
  induction kk with
  | zero =>
    intro u hu sum H locs hB hS ls hl
    have huN : u = 6 := by omega
    refine lv_iload_n hx hb dX5_doubt_4 rfl (lv_at hl 0 rfl) ?_
    refine lv_bipush (v := 6) hx hb dX5_doubt_5 (by decide) ?_
    refine lv_icmp_ge (tgt := 36) hx hb dX5_doubt_7 (by decide) (fun c_7 => ?_) (fun c_7 => ?_)
    · refine lv_iload_n hx hb dX5_doubt_36 rfl (lv_at hl 1 rfl) ?_
      refine lv_bipush (v := 6) hx hb dX5_doubt_37 (by decide) ?_
      refine lv_idiv hx hb dX5_doubt_39 (by decide) ?_
      exact W.iret (v := sum / 6) hx hb hr (fun U9 ht hW9 => ⟨⟨sum / 6, (L, n, c, σ), rfl, rfl, by show tl_Bx D d a0 w b cB Lh Ah A _ U9.heap; rw [ht]; exact hB⟩, hS.F ht⟩) hS.2.2 dX5_doubt_40
    · exact absurd (by rw [sp_six, huN]; exact nI_le (Nat.le_refl _) (by omega)) c_7
  | succ kk ih =>
    intro u hu sum H locs hB hS ls hl
    have huN : u < 6 := by omega
    refine lv_iload_n hx hb dX5_doubt_4 rfl (lv_at hl 0 rfl) ?_
    refine lv_bipush (v := 6) hx hb dX5_doubt_5 (by decide) ?_
    refine lv_icmp_ge (tgt := 36) hx hb dX5_doubt_7 (by decide) (fun c_7 => ?_) (fun c_7 => ?_)
    · exact absurd (by rw [sp_six] at c_7; exact c_7) (nI_ge huN (by omega))
    · refine lv_iload_n hx hb dX5_doubt_10 rfl (lv_at hl 1 rfl) ?_
      refine lv_aload_n hx hb dX5_doubt_11 rfl (lv_at hl 3 rfl) ?_
      refine tl_get hx hb hts (by decide +kernel) hown hKK.1 hB 7 (by decide) (hts (.fieldLink RX5 31 "WaxrowLaw$Told" "high" "[[I") (by decide +kernel)) rfl (v := .ref (L 5 0)) rfl dX5_doubt_12 ?_
      refine lv_iload_n hx hb dX5_doubt_15 rfl (lv_at hl 2 rfl) ?_
      refine tl_aald hx hb hKK.2.1 hB 5 q (by decide) (by decide) hq.2 hq31 dX5_doubt_16 ?_
      refine lv_iload_n hx hb dX5_doubt_17 rfl (lv_at hl 0 rfl) ?_
      refine tl_iald hx hb hKK.1 hB 5 q (by decide) (by decide) hq.2 (i := nI u) (vp_in_nI (show u < tl_wd 15 from huN) (by decide)) dX5_doubt_18 ?_
      rw [show (nI u : Int32).toNatClampNeg = u from nI_clamp (by omega)]
      refine lv_aload_n hx hb dX5_doubt_19 rfl (lv_at hl 3 rfl) ?_
      refine tl_get hx hb hts (by decide +kernel) hown hKK.1 hB 6 (by decide) (hts (.fieldLink RX5 28 "WaxrowLaw$Told" "low" "[[I") (by decide +kernel)) rfl (v := .ref (L 4 0)) rfl dX5_doubt_20 ?_
      refine lv_iload_n hx hb dX5_doubt_23 rfl (lv_at hl 2 rfl) ?_
      refine tl_aald hx hb hKK.2.1 hB 4 q (by decide) (by decide) hq.1 hq31 dX5_doubt_24 ?_
      refine lv_iload_n hx hb dX5_doubt_25 rfl (lv_at hl 0 rfl) ?_
      refine tl_iald hx hb hKK.1 hB 4 q (by decide) (by decide) hq.1 (i := nI u) (vp_in_nI (show u < tl_wd 14 from huN) (by decide)) dX5_doubt_26 ?_
      rw [show (nI u : Int32).toNatClampNeg = u from nI_clamp (by omega)]
      refine lv_isub hx hb dX5_doubt_27 ?_
      refine lv_iadd hx hb dX5_doubt_28 ?_
      refine lv_istore_n (lv' := [(2, .int (sum + ((c 15 q u) - (c 14 q u)))), (3, .int (nI u)), (1, .int (nI q)), (0, .ref a0)]) hx hb dX5_doubt_29 rfl hl (by decide) rfl (fun ls hl => ?_)
      refine lv_iinc (v := nI (u + 1)) (lv' := [(3, .int (nI (u + 1))), (2, .int (sum + ((c 15 q u) - (c 14 q u)))), (1, .int (nI q)), (0, .ref a0)]) hx hb dX5_doubt_30 hl (k := 1) rfl (nI_succ _).symm (by decide) rfl (fun ls hl => ?_)
      refine lv_goto (tgt := 4) hx hb dX5_doubt_33 (by decide) ?_
      exact ih (u + 1) (by omega) _ H locs hB hS ls (lv_sub hl [0, 1, 2, 3] rfl)
set_option maxHeartbeats 4000000 in
set_option maxRecDepth 100000 in
/-- Told: doubt -/
theorem kX5_doubt (l : Launch) (D : va_G) (d : hs_Dm) (a0 w b : Nat) (cB : ClassId) (Lh L2 : hs_Lo) (Ah A : Nat → Prop) (N : Nat) (xs : Nat → Int32) (L : hs_Lo) (n : Nat → Nat) (c σ : hs_St) (sz : Nat) (hH : tl_H w b Ah A sz) (hN31 : N < 2 ^ 31) (q : Nat) (hq : q < n 4 ∧ q < n 5) (hq31 : q < 2 ^ 31) : tl_Mi l yX5_doubt wsX5_doubt ({ frames := 0, cells := 0, slots := 0, locals := 0 }) D d a0 w b cB Lh L2 Ah A N xs L n c σ sz [.ref a0, .int (nI q)] (fun _ X => X = (L, n, c, σ)) 0 0 := by
  refine Met.ofW (cc := cX5_doubt) (maxL := 4) (ret := (some .int)) (by decide) rfl ?_
  intro p e s m args below meth c0 s₁ B hml hv
  obtain ⟨rfl, hsz, hB, hKK⟩ := hv
  have hx := B.exec
  have hb := B.bytes
  have hr := B.returns
  have hts := atoms_spec (ws := wsX5_doubt) B.pre
  have hown : s.vm.findClass RX5 = some m.cls := findClass_of_methodNamed B.named
  have hlocks := B.notSynchronized
  have hS : va_S A s.heap s.heap [] := va_S.rf
  have hH : tl_H w b Ah A s.heap.size := by rw [hsz]; exact hH
  have hl := lv_entry ([.ref a0, .int (nI q)]) (n := 4) (Nat.le_of_ble_eq_true rfl)
  rw [lg_entry_eq]
  generalize (lg_sl ([.ref a0, .int (nI q)]) ++ List.replicate (4 - (lg_sl ([.ref a0, .int (nI q)])).length) Slot.unset).toArray = ls at hl ⊢
  have hl : lv_has ls 4 [(0, .ref a0), (1, .int (nI q))] := hl
  refine lv_iconst (v := 0) hx hb dX5_doubt_0 (by decide) ?_
  refine lv_istore_n (lv' := [(2, .int 0), (0, .ref a0), (1, .int (nI q))]) hx hb dX5_doubt_1 rfl hl (by decide) rfl (fun ls hl => ?_)
  refine lv_iconst (v := 0) hx hb dX5_doubt_2 (by decide) ?_
  refine lv_istore_n (lv' := [(3, .int 0), (2, .int 0), (0, .ref a0), (1, .int (nI q))]) hx hb dX5_doubt_3 rfl hl (by decide) rfl (fun ls hl => ?_)
  exact lkX5_doubt l D d a0 w b cB Lh L2 Ah A N xs L n c σ hN31 q hq hq31 hx hb hr hts hown hlocks hml hKK hH 6 0 rfl 0 _ _ hB hS ls (lv_sub hl [0, 1, 3, 2] rfl)
set_option maxHeartbeats 4000000 in
set_option maxRecDepth 100000 in
/-- Told: draws of one in store -/
theorem kX5_draws (l : Launch) (D : va_G) (d : hs_Dm) (a0 w b : Nat) (cB : ClassId) (Lh L2 : hs_Lo) (Ah A : Nat → Prop) (N : Nat) (xs : Nat → Int32) (L : hs_Lo) (n : Nat → Nat) (c σ : hs_St) (sz : Nat) (hH : tl_H w b Ah A sz) (hN31 : N < 2 ^ 31) (f : Nat) (hf : f < n 6) (hf31 : f < 2 ^ 31) (h5 : c 16 f 6 = 5) : tl_Mi l yX5_draws wsX5_draws ({ frames := 0, cells := 0, slots := 0, locals := 0 }) D d a0 w b cB Lh L2 Ah A N xs L n c σ sz [.ref a0, .int (nI f)] (fun r X => r = 0 ∧ X = (L, n, c, σ)) 0 0 := by
  refine Met.ofW (cc := cX5_draws) (maxL := 2) (ret := (some .int)) (by decide) rfl ?_
  intro p e s m args below meth c0 s₁ B hml hv
  obtain ⟨rfl, hsz, hB, hKK⟩ := hv
  have hx := B.exec
  have hb := B.bytes
  have hr := B.returns
  have hts := atoms_spec (ws := wsX5_draws) B.pre
  have hown : s.vm.findClass RX5 = some m.cls := findClass_of_methodNamed B.named
  have hlocks := B.notSynchronized
  have hS : va_S A s.heap s.heap [] := va_S.rf
  have hH : tl_H w b Ah A s.heap.size := by rw [hsz]; exact hH
  have hl := lv_entry ([.ref a0, .int (nI f)]) (n := 2) (Nat.le_of_ble_eq_true rfl)
  rw [lg_entry_eq]
  generalize (lg_sl ([.ref a0, .int (nI f)]) ++ List.replicate (2 - (lg_sl ([.ref a0, .int (nI f)])).length) Slot.unset).toArray = ls at hl ⊢
  have hl : lv_has ls 2 [(0, .ref a0), (1, .int (nI f))] := hl
  refine lv_aload_n hx hb dX5_draws_0 rfl (lv_at hl 0 rfl) ?_
  refine tl_get hx hb hts (by decide +kernel) hown hKK.1 hB 8 (by decide) (hts (.fieldLink RX5 34 "WaxrowLaw$Told" "figures" "[[I") (by decide +kernel)) rfl (v := .ref (L 6 0)) rfl dX5_draws_1 ?_
  refine lv_iload_n hx hb dX5_draws_4 rfl (lv_at hl 1 rfl) ?_
  refine tl_aald hx hb hKK.2.1 hB 6 f (by decide) (by decide) hf hf31 dX5_draws_5 ?_
  refine lv_bipush (v := 6) hx hb dX5_draws_6 (by decide) ?_
  refine tl_iald hx hb hKK.1 hB 6 f (by decide) (by decide) hf (i := 6) (by unfold vp_in; decide) dX5_draws_8 ?_
  rw [show (6 : Int32).toNatClampNeg = 6 from by decide]
  rw [h5]
  refine lv_iconst (v := 4) hx hb dX5_draws_9 (by decide) ?_
  refine lv_icmp_le (tgt := 17) hx hb dX5_draws_10 (by decide) (fun c_10 => ?_) (fun c_10 => ?_)
  · exact absurd c_10 (by decide +kernel)
  · refine lv_iconst (v := 0) hx hb dX5_draws_13 (by decide) ?_
    refine lv_goto (tgt := 41) hx hb dX5_draws_14 (by decide) ?_
    exact W.iret (v := 0) hx hb hr (fun U9 ht hW9 => ⟨⟨0, (L, n, c, σ), rfl, ⟨rfl, rfl⟩, by show tl_Bx D d a0 w b cB Lh Ah A _ U9.heap; rw [ht]; exact hB⟩, hS.F ht⟩) hS.2.2 dX5_draws_41
set_option maxHeartbeats 4000000 in
set_option maxRecDepth 100000 in
/-- Told: allDraws: the loop at 4 -/
theorem lkX5_allDraws (l : Launch) (D : va_G) (d : hs_Dm) (a0 w b : Nat) (cB : ClassId) (Lh L2 : hs_Lo) (Ah A : Nat → Prop) (N : Nat) (xs : Nat → Int32) (L : hs_Lo) (n : Nat → Nat) (c σ : hs_St)  (hN31 : N < 2 ^ 31) {p : Program} {e : Env} {s : State} {m : MethodId} {args : Array Value} {below : List Frame} {meth : Method} {c0 : Code} (F : Nat) (n6 : n 6 = F) (hF8 : F ≤ 8) (h5 : ∀ f, f < F → c 16 f 6 = 5) (hx : p.tables.exec = Jvm.exec) (hb : c0.code = cX5_allDraws) (hr : meth.sig.returnType = (some .int)) (hts : ∀ w ∈ wsX5_allDraws, w.before args s = true) (hown : s.vm.findClass RX5 = some m.cls) (hlocks : meth.locks = false) (hml : c0.maxLocals = 4) (hKK : tl_K D d w b cB Lh L2 A N xs s s.heap) (hH : tl_H w b Ah A s.heap.size) : ∀ (kk u : Nat), u + kk = F → ∀ (sum : Int32) (hsum : sum = 0) (H : Heap) (locs : List Loc), tl_B D d a0 w b cB Lh Ah A L n c σ H → va_S A s.heap H locs → ∀ ls : Array Slot, lv_has ls 4 [(3, .int (nI u)), (2, .int sum), (1, .int (-1)), (0, .ref a0)] → W p l e ({ frames := 1, cells := 0, slots := 0, locals := 30 } : Room) s m args below meth c0 H locs 0 0 (MQ below (va_Qi (fun r X => r = 0 ∧ X = (L, n, c, σ)) (fun X t => tl_Bx D d a0 w b cB Lh Ah A X t.heap) A) args s 0 0 A) (F0 m 4 ls []) := by
  intro kk
  induction kk with
  | zero =>
    intro u hu sum hsum H locs hB hS ls hl
    have huN : u = F := by omega
    refine lv_iload_n hx hb dX5_allDraws_4 rfl (lv_at hl 0 rfl) ?_
    refine lv_aload_n hx hb dX5_allDraws_5 rfl (lv_at hl 3 rfl) ?_
    refine tl_get hx hb hts (by decide +kernel) hown hKK.1 hB 8 (by decide) (hts (.fieldLink RX5 34 "WaxrowLaw$Told" "figures" "[[I") (by decide +kernel)) rfl (v := .ref (L 6 0)) rfl dX5_allDraws_6 ?_
    refine tl_len hx hb hKK.2.1 hB 6 (by decide) (by decide) dX5_allDraws_9 ?_
    rw [show n 6 = F from n6]
    refine lv_icmp_ge (tgt := 48) hx hb dX5_allDraws_10 (by decide) (fun c_10 => ?_) (fun c_10 => ?_)
    · refine lv_iload_n hx hb dX5_allDraws_48 rfl (lv_at hl 1 rfl) ?_
      exact W.iret (v := sum) hx hb hr (fun U9 ht hW9 => ⟨⟨sum, (L, n, c, σ), rfl, ⟨hsum, rfl⟩, by show tl_Bx D d a0 w b cB Lh Ah A _ U9.heap; rw [ht]; exact hB⟩, hS.F ht⟩) hS.2.2 dX5_allDraws_49
    · exact absurd (by rw [huN]; exact nI_le (Nat.le_refl _) (by omega)) c_10
  | succ kk ih =>
    intro u hu sum hsum H locs hB hS ls hl
    have huN : u < F := by omega
    refine lv_iload_n hx hb dX5_allDraws_4 rfl (lv_at hl 0 rfl) ?_
    refine lv_aload_n hx hb dX5_allDraws_5 rfl (lv_at hl 3 rfl) ?_
    refine tl_get hx hb hts (by decide +kernel) hown hKK.1 hB 8 (by decide) (hts (.fieldLink RX5 34 "WaxrowLaw$Told" "figures" "[[I") (by decide +kernel)) rfl (v := .ref (L 6 0)) rfl dX5_allDraws_6 ?_
    refine tl_len hx hb hKK.2.1 hB 6 (by decide) (by decide) dX5_allDraws_9 ?_
    rw [show n 6 = F from n6]
    refine lv_icmp_ge (tgt := 48) hx hb dX5_allDraws_10 (by decide) (fun c_10 => ?_) (fun c_10 => ?_)
    · exact absurd c_10 (nI_ge huN (by omega))
    · refine lv_iload_n hx hb dX5_allDraws_13 rfl (lv_at hl 1 rfl) ?_
      refine lv_iload_n hx hb dX5_allDraws_14 rfl (lv_at hl 2 rfl) ?_
      refine lv_if_lt (tgt := 31) hx hb dX5_allDraws_15 (by decide) (fun c_15 => ?_) (fun c_15 => ?_)
      · refine lv_aload_n hx hb dX5_allDraws_31 rfl (lv_at hl 3 rfl) ?_
        refine lv_iload_n hx hb dX5_allDraws_32 rfl (lv_at hl 0 rfl) ?_
        refine tl_calli (As := [.int (nI u)]) ⟨hx, hb, hml, hown, hts⟩ (kX5_draws l D d a0 w b cB Lh L2 Ah A N xs L n c σ H.size (hH.up hS.1) hN31 u (by rw [n6]; exact huN) (by omega) (h5 u huN)) (cwV 1 hts gX5_allDraws_X5_draws rfl rfl rfl (by decide +kernel) ⟨Nat.le_of_ble_eq_true rfl, Nat.le_of_ble_eq_true rfl⟩) hKK hH hB hS rfl hl.1 (Nat.le_of_ble_eq_true rfl) dX5_allDraws_33 ⟨Nat.le_of_ble_eq_true rfl, Nat.le_of_ble_eq_true rfl⟩ rfl (fun r_ X_ H locs hp hB hz hS => ?_)
        obtain ⟨rfl, rfl⟩ := hp
        have hB : tl_B D d a0 w b cB Lh Ah A L n c σ H := hB
        refine lv_goto (tgt := 40) hx hb dX5_allDraws_36 (by decide) ?_
        refine lv_iadd hx hb dX5_allDraws_40 ?_
        refine lv_istore_n (lv' := [(2, .int (sum + 0)), (3, .int (nI u)), (1, .int (-1)), (0, .ref a0)]) hx hb dX5_allDraws_41 rfl hl (by decide) rfl (fun ls hl => ?_)
        refine lv_iinc (v := nI (u + 1)) (lv' := [(3, .int (nI (u + 1))), (2, .int (sum + 0)), (1, .int (-1)), (0, .ref a0)]) hx hb dX5_allDraws_42 hl (k := 1) rfl (nI_succ _).symm (by decide) rfl (fun ls hl => ?_)
        refine lv_goto (tgt := 4) hx hb dX5_allDraws_45 (by decide) ?_
        exact ih (u + 1) (by omega) _ (by rw [hsum]; decide) H locs hB hS ls (lv_sub hl [0, 1, 2, 3] rfl)
      · exact absurd (by decide +kernel) c_15
set_option maxHeartbeats 4000000 in
set_option maxRecDepth 100000 in
/-- Told: allDraws, nothing shown -/
theorem kX5_allDraws (l : Launch) (D : va_G) (d : hs_Dm) (a0 w b : Nat) (cB : ClassId) (Lh L2 : hs_Lo) (Ah A : Nat → Prop) (N : Nat) (xs : Nat → Int32) (L : hs_Lo) (n : Nat → Nat) (c σ : hs_St) (sz : Nat) (hH : tl_H w b Ah A sz) (hN31 : N < 2 ^ 31) (F : Nat) (n6 : n 6 = F) (hF8 : F ≤ 8) (h5 : ∀ f, f < F → c 16 f 6 = 5) : tl_Mi l yX5_allDraws wsX5_allDraws ({ frames := 1, cells := 0, slots := 0, locals := 30 }) D d a0 w b cB Lh L2 Ah A N xs L n c σ sz [.ref a0, .int (-1)] (fun r X => r = 0 ∧ X = (L, n, c, σ)) 0 0 := by
  refine Met.ofW (cc := cX5_allDraws) (maxL := 4) (ret := (some .int)) (by decide) rfl ?_
  intro p e s m args below meth c0 s₁ B hml hv
  obtain ⟨rfl, hsz, hB, hKK⟩ := hv
  have hx := B.exec
  have hb := B.bytes
  have hr := B.returns
  have hts := atoms_spec (ws := wsX5_allDraws) B.pre
  have hown : s.vm.findClass RX5 = some m.cls := findClass_of_methodNamed B.named
  have hlocks := B.notSynchronized
  have hS : va_S A s.heap s.heap [] := va_S.rf
  have hH : tl_H w b Ah A s.heap.size := by rw [hsz]; exact hH
  have hl := lv_entry ([.ref a0, .int (-1)]) (n := 4) (Nat.le_of_ble_eq_true rfl)
  rw [lg_entry_eq]
  generalize (lg_sl ([.ref a0, .int (-1)]) ++ List.replicate (4 - (lg_sl ([.ref a0, .int (-1)])).length) Slot.unset).toArray = ls at hl ⊢
  have hl : lv_has ls 4 [(0, .ref a0), (1, .int (-1))] := hl
  refine lv_iconst (v := 0) hx hb dX5_allDraws_0 (by decide) ?_
  refine lv_istore_n (lv' := [(2, .int 0), (0, .ref a0), (1, .int (-1))]) hx hb dX5_allDraws_1 rfl hl (by decide) rfl (fun ls hl => ?_)
  refine lv_iconst (v := 0) hx hb dX5_allDraws_2 (by decide) ?_
  refine lv_istore_n (lv' := [(3, .int 0), (2, .int 0), (0, .ref a0), (1, .int (-1))]) hx hb dX5_allDraws_3 rfl hl (by decide) rfl (fun ls hl => ?_)
  exact lkX5_allDraws l D d a0 w b cB Lh L2 Ah A N xs L n c σ hN31 F n6 hF8 h5 hx hb hr hts hown hlocks hml hKK hH F 0 (by omega) 0 rfl _ _ hB hS ls (lv_sub hl [0, 1, 3, 2] rfl)
