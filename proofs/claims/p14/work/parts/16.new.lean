/-! NEW ONES, AND WHAT IS LEARNT -/
def sp_learn (σ : hs_St) (q j : Nat) (x y : Int32) : hs_St :=
  let u := if σ 7 q j < x then x else σ 7 q j
  let v := if y < σ 8 q j then y else σ 8 q j
  if u ≤ v then hs_sg (hs_sg (hs_sg σ 7 q j u) 8 q j v) 4 q 7 (σ 4 q 7 + 0) else hs_sg (hs_sg (hs_sg σ 7 q j x) 8 q j y) 4 q 7 (σ 4 q 7 + 1)
def sp_newP (σ : hs_St) (P : Nat) (x y z : Int32) : hs_St := hs_sg (hs_sg (hs_sg (hs_sg σ 0 0 3 (nI P + 1)) 5 P 0 x) 5 P 1 y) 5 P 2 z
def sp_newF (σ : hs_St) (F q : Nat) : hs_St := hs_sg (hs_sg (hs_sg σ 0 0 4 (nI F + 1)) 9 F 0 (nI q)) 9 F 1 (nI q)
def sp_newR (σ : hs_St) (R : Nat) (x y : Int32) : hs_St := hs_sg (hs_sg (hs_sg σ 0 0 5 (nI R + 1)) 10 R 0 x) 10 R 1 y
set_option maxHeartbeats 4000000 in
set_option maxRecDepth 100000 in
/-- learn -/
theorem kX2_learn (l : Launch) (D : va_G) (d : hs_Dm) (L : hs_Lo) (σ : hs_St) (A : Nat → Prop) (q : Nat) (hq : q < 10) (j : Nat) (hj : j < 6) (x y : Int32) : hs_Mv l yX2_learn wsX2_learn ({ frames := 1, cells := 0, slots := 0, locals := 20 }) D d L σ A [.ref (L 4 q), .int (nI j), .int x, .int y] (fun τ => sp_learn σ q j x y = τ) := by
  refine Met.ofW (cc := cX2_learn) (maxL := 7) (ret := none) (by decide) rfl ?_
  intro p e s m args below meth c s₁ B hml hv
  obtain ⟨rfl, ⟨hW, hK⟩, hE⟩ := hv
  have hx := B.exec
  have hb := B.bytes
  have hr := B.returns
  have hts := atoms_spec (ws := wsX2_learn) B.pre
  have hown : s.vm.findClass RX2 = some m.cls := findClass_of_methodNamed B.named
  have hlocks := B.notSynchronized
  have hS : va_S A s.heap s.heap [] := va_S.rf
  have hW : hs_W D d L σ A s.heap := hW
  have hl := lv_entry ([.ref (L 4 q), .int (nI j), .int x, .int y]) (n := 7) (Nat.le_of_ble_eq_true rfl)
  rw [lg_entry_eq]
  generalize (lg_sl ([.ref (L 4 q), .int (nI j), .int x, .int y]) ++ List.replicate (7 - (lg_sl ([.ref (L 4 q), .int (nI j), .int x, .int y])).length) Slot.unset).toArray = ls at hl ⊢
  have hl : lv_has ls 7 [(0, .ref (L 4 q)), (1, .int (nI j)), (2, .int x), (3, .int y)] := hl
  refine lv_aload_n hx hb dX2_learn_0 rfl (lv_at hl 0 rfl) ?_
  refine va_get (D := D) (ci := cPe) (C := RX2) (T := TX2) (N := 8) (ws := [(L 4 q, hs_ct d L σ 4 q)]) (v := .ref (L 7 q)) hx hb hts (by decide +kernel) hown hK (hW.one (hs_ix4 hq)) 0 rfl rfl 3 (by decide) (hts (.fieldLink RX2 22 "Waxrow$Person" "low" "[I") (by decide +kernel)) (fun _ h9 => h9) rfl dX2_learn_1 ?_
  refine lv_iload_n hx hb dX2_learn_4 rfl (lv_at hl 1 rfl) ?_
  refine hs_iald (n := 6) (f := σ 7 q) hx hb hK hW 7 q (hs_ix7 hq) rfl (vp_in_nI (show j < 6 by omega) (by decide)) dX2_learn_5 ?_
  rw [show σ 7 q (nI j : Int32).toNatClampNeg = σ 7 q j from by simp [hs_sg, nI_clamp (show j < 2 ^ 31 by omega)]]
  refine lv_iload_n hx hb dX2_learn_6 rfl (lv_at hl 2 rfl) ?_
  refine va_mmax hx hb (hml.trans hl.1.symm) hown (hts (.methodLink RX2 45 Lib.Math.max.name) (by decide +kernel)) (hts (.static Lib.Math.max.name) (by decide +kernel)) (hts (.initialized "java/lang/Math") (by decide +kernel)) (hts (.code Lib.Math.max.name Lib.Math.max.code 2 (some .int)) (by decide +kernel)) (Nat.le_of_ble_eq_true rfl) (Nat.le_of_ble_eq_true rfl) (Nat.zero_le _) (Nat.zero_le _) dX2_learn_7 ?_
  refine lv_istore (lv' := [(4, .int (if (σ 7 q j) < x then x else (σ 7 q j))), (0, .ref (L 4 q)), (1, .int (nI j)), (2, .int x), (3, .int y)]) hx hb dX2_learn_10 hl (by decide) rfl (fun ls hl => ?_)
  refine lv_aload_n hx hb dX2_learn_12 rfl (lv_at hl 1 rfl) ?_
  refine va_get (D := D) (ci := cPe) (C := RX2) (T := TX2) (N := 8) (ws := [(L 4 q, hs_ct d L σ 4 q)]) (v := .ref (L 8 q)) hx hb hts (by decide +kernel) hown hK (hW.one (hs_ix4 hq)) 0 rfl rfl 4 (by decide) (hts (.fieldLink RX2 25 "Waxrow$Person" "high" "[I") (by decide +kernel)) (fun _ h9 => h9) rfl dX2_learn_13 ?_
  refine lv_iload_n hx hb dX2_learn_16 rfl (lv_at hl 2 rfl) ?_
  refine hs_iald (n := 6) (f := σ 8 q) hx hb hK hW 8 q (hs_ix8 hq) rfl (vp_in_nI (show j < 6 by omega) (by decide)) dX2_learn_17 ?_
  rw [show σ 8 q (nI j : Int32).toNatClampNeg = σ 8 q j from by simp [hs_sg, nI_clamp (show j < 2 ^ 31 by omega)]]
  refine lv_iload_n hx hb dX2_learn_18 rfl (lv_at hl 4 rfl) ?_
  refine va_mmin hx hb (hml.trans hl.1.symm) hown (hts (.methodLink RX2 51 Lib.Math.min.name) (by decide +kernel)) (hts (.static Lib.Math.min.name) (by decide +kernel)) (hts (.initialized "java/lang/Math") (by decide +kernel)) (hts (.code Lib.Math.min.name Lib.Math.min.code 2 (some .int)) (by decide +kernel)) (Nat.le_of_ble_eq_true rfl) (Nat.le_of_ble_eq_true rfl) (Nat.zero_le _) (Nat.zero_le _) dX2_learn_19 ?_
  refine lv_istore (lv' := [(5, .int (if y < (σ 8 q j) then y else (σ 8 q j))), (4, .int (if (σ 7 q j) < x then x else (σ 7 q j))), (0, .ref (L 4 q)), (1, .int (nI j)), (2, .int x), (3, .int y)]) hx hb dX2_learn_22 hl (by decide) rfl (fun ls hl => ?_)
  refine lv_iload hx hb dX2_learn_24 (lv_at hl 1 rfl) ?_
  refine lv_iload hx hb dX2_learn_26 (lv_at hl 0 rfl) ?_
  refine lv_icmp_le (tgt := 35) hx hb dX2_learn_28 (by decide) (fun c_28 => ?_) (fun c_28 => ?_)
  · refine lv_iconst (v := 0) hx hb dX2_learn_35 (by decide) ?_
    refine lv_istore (lv' := [(6, .int 0), (5, .int (if y < (σ 8 q j) then y else (σ 8 q j))), (4, .int (if (σ 7 q j) < x then x else (σ 7 q j))), (0, .ref (L 4 q)), (1, .int (nI j)), (2, .int x), (3, .int y)]) hx hb dX2_learn_36 hl (by decide) rfl (fun ls hl => ?_)
    refine lv_aload_n hx hb dX2_learn_38 rfl (lv_at hl 3 rfl) ?_
    refine va_get (D := D) (ci := cPe) (C := RX2) (T := TX2) (N := 8) (ws := [(L 4 q, hs_ct d L σ 4 q)]) (v := .ref (L 7 q)) hx hb hts (by decide +kernel) hown hK (hW.one (hs_ix4 hq)) 0 rfl rfl 3 (by decide) (hts (.fieldLink RX2 22 "Waxrow$Person" "low" "[I") (by decide +kernel)) (fun _ h9 => h9) rfl dX2_learn_39 ?_
    refine lv_iload_n hx hb dX2_learn_42 rfl (lv_at hl 4 rfl) ?_
    refine lv_iload hx hb dX2_learn_43 (lv_at hl 0 rfl) ?_
    refine lv_if_eq (tgt := 52) hx hb dX2_learn_45 (by decide) (fun c_45 => ?_) (fun c_45 => ?_)
    · refine lv_iload hx hb dX2_learn_52 (lv_at hl 2 rfl) ?_
      refine hs_iast (n := 6) (f := σ 7 q) hx hb hK hW hS 7 q (hs_ix7 hq) rfl (vp_in_nI (show j < 6 by omega) (by decide)) (hs_sg σ 7 q j (if (σ 7 q j) < x then x else (σ 7 q j))) (by simp only [hs_ct, hs_arr, nI_clamp (show j < 2 ^ 31 by omega)]) (hs_off _ _ _ _ _) dX2_learn_54 (fun H locs hW hS => ?_)
      refine lv_aload_n hx hb dX2_learn_55 rfl (lv_at hl 3 rfl) ?_
      refine va_get (D := D) (ci := cPe) (C := RX2) (T := TX2) (N := 8) (ws := [(L 4 q, hs_ct d L (hs_sg σ 7 q j (if (σ 7 q j) < x then x else (σ 7 q j))) 4 q)]) (v := .ref (L 8 q)) hx hb hts (by decide +kernel) hown hK (hW.one (hs_ix4 hq)) 0 rfl rfl 4 (by decide) (hts (.fieldLink RX2 25 "Waxrow$Person" "high" "[I") (by decide +kernel)) (fun _ h9 => h9) rfl dX2_learn_56 ?_
      refine lv_iload_n hx hb dX2_learn_59 rfl (lv_at hl 4 rfl) ?_
      refine lv_iload hx hb dX2_learn_60 (lv_at hl 0 rfl) ?_
      refine lv_if_eq (tgt := 69) hx hb dX2_learn_62 (by decide) (fun c_62 => ?_) (fun c_62 => ?_)
      · refine lv_iload hx hb dX2_learn_69 (lv_at hl 1 rfl) ?_
        refine hs_iast (n := 6) (f := (hs_sg σ 7 q j (if (σ 7 q j) < x then x else (σ 7 q j))) 8 q) hx hb hK hW hS 8 q (hs_ix8 hq) rfl (vp_in_nI (show j < 6 by omega) (by decide)) (hs_sg (hs_sg σ 7 q j (if (σ 7 q j) < x then x else (σ 7 q j))) 8 q j (if y < (σ 8 q j) then y else (σ 8 q j))) (by simp only [hs_ct, hs_arr, nI_clamp (show j < 2 ^ 31 by omega)]) (hs_off _ _ _ _ _) dX2_learn_71 (fun H locs hW hS => ?_)
        refine lv_aload_n hx hb dX2_learn_72 rfl (lv_at hl 3 rfl) ?_
        refine lv_dup hx hb dX2_learn_73 rfl ?_
        refine va_get (D := D) (ci := cPe) (C := RX2) (T := TX2) (N := 8) (ws := [(L 4 q, hs_ct d L (hs_sg (hs_sg σ 7 q j (if (σ 7 q j) < x then x else (σ 7 q j))) 8 q j (if y < (σ 8 q j) then y else (σ 8 q j))) 4 q)]) (v := .int (σ 4 q 7)) hx hb hts (by decide +kernel) hown hK (hW.one (hs_ix4 hq)) 0 rfl rfl 7 (by decide) (hts (.fieldLink RX2 35 "Waxrow$Person" "clashes" "I") (by decide +kernel)) (fun _ h9 => h9) (by simp [hs_sg]) dX2_learn_74 ?_
        refine lv_iload hx hb dX2_learn_77 (lv_at hl 0 rfl) ?_
        refine lv_if_eq (tgt := 86) hx hb dX2_learn_79 (by decide) (fun c_79 => ?_) (fun c_79 => ?_)
        · refine lv_iconst (v := 0) hx hb dX2_learn_86 (by decide) ?_
          refine lv_iadd hx hb dX2_learn_87 ?_
          refine hs_put (ci := cPe) (C := RX2) (T := TX2) (N := 8) (ty := .int) hx hb hts (by decide +kernel) tyX2 tyX2_ok nmX2 hown hK hW hS 4 q (hs_ix4 hq) rfl rfl 7 (by decide) (hts (.fieldLink RX2 35 "Waxrow$Person" "clashes" "I") (by decide +kernel)) (fun _ h9 => h9) rfl (by decide +kernel) rfl rfl (Nat.le_of_ble_eq_true rfl) (hs_sg (hs_sg (hs_sg σ 7 q j (if (σ 7 q j) < x then x else (σ 7 q j))) 8 q j (if y < (σ 8 q j) then y else (σ 8 q j))) 4 q 7 ((σ 4 q 7) + 0)) (by simp [hs_ct, hs_sg]) (hs_off _ _ _ _ _) dX2_learn_88 (fun H locs hW hS => ?_)
          exact W.vret hx hb hr (fun t ht hW9 => ⟨⟨(hs_sg (hs_sg (hs_sg σ 7 q j (if (σ 7 q j) < x then x else (σ 7 q j))) 8 q j (if y < (σ 8 q j) then y else (σ 8 q j))) 4 q 7 ((σ 4 q 7) + 0)), rfl, (by simp only [sp_learn, c_28, ↓reduceIte]), ⟨by rw [ht]; exact hW, va_K.moved hW9.alike hK⟩⟩, hS.F ht⟩) hS.2.2 dX2_learn_91
        · exact absurd (by decide +kernel) c_79
      · exact absurd (by decide +kernel) c_62
    · exact absurd (by decide +kernel) c_45
  · refine lv_iconst (v := 1) hx hb dX2_learn_31 (by decide) ?_
    refine lv_goto (tgt := 36) hx hb dX2_learn_32 (by decide) ?_
    refine lv_istore (lv' := [(6, .int 1), (5, .int (if y < (σ 8 q j) then y else (σ 8 q j))), (4, .int (if (σ 7 q j) < x then x else (σ 7 q j))), (0, .ref (L 4 q)), (1, .int (nI j)), (2, .int x), (3, .int y)]) hx hb dX2_learn_36 hl (by decide) rfl (fun ls hl => ?_)
    refine lv_aload_n hx hb dX2_learn_38 rfl (lv_at hl 3 rfl) ?_
    refine va_get (D := D) (ci := cPe) (C := RX2) (T := TX2) (N := 8) (ws := [(L 4 q, hs_ct d L σ 4 q)]) (v := .ref (L 7 q)) hx hb hts (by decide +kernel) hown hK (hW.one (hs_ix4 hq)) 0 rfl rfl 3 (by decide) (hts (.fieldLink RX2 22 "Waxrow$Person" "low" "[I") (by decide +kernel)) (fun _ h9 => h9) rfl dX2_learn_39 ?_
    refine lv_iload_n hx hb dX2_learn_42 rfl (lv_at hl 4 rfl) ?_
    refine lv_iload hx hb dX2_learn_43 (lv_at hl 0 rfl) ?_
    refine lv_if_eq (tgt := 52) hx hb dX2_learn_45 (by decide) (fun c_45 => ?_) (fun c_45 => ?_)
    · exact absurd c_45 (by decide +kernel)
    · refine lv_iload_n hx hb dX2_learn_48 rfl (lv_at hl 5 rfl) ?_
      refine lv_goto (tgt := 54) hx hb dX2_learn_49 (by decide) ?_
      refine hs_iast (n := 6) (f := σ 7 q) hx hb hK hW hS 7 q (hs_ix7 hq) rfl (vp_in_nI (show j < 6 by omega) (by decide)) (hs_sg σ 7 q j x) (by simp only [hs_ct, hs_arr, nI_clamp (show j < 2 ^ 31 by omega)]) (hs_off _ _ _ _ _) dX2_learn_54 (fun H locs hW hS => ?_)
      refine lv_aload_n hx hb dX2_learn_55 rfl (lv_at hl 3 rfl) ?_
      refine va_get (D := D) (ci := cPe) (C := RX2) (T := TX2) (N := 8) (ws := [(L 4 q, hs_ct d L (hs_sg σ 7 q j x) 4 q)]) (v := .ref (L 8 q)) hx hb hts (by decide +kernel) hown hK (hW.one (hs_ix4 hq)) 0 rfl rfl 4 (by decide) (hts (.fieldLink RX2 25 "Waxrow$Person" "high" "[I") (by decide +kernel)) (fun _ h9 => h9) rfl dX2_learn_56 ?_
      refine lv_iload_n hx hb dX2_learn_59 rfl (lv_at hl 4 rfl) ?_
      refine lv_iload hx hb dX2_learn_60 (lv_at hl 0 rfl) ?_
      refine lv_if_eq (tgt := 69) hx hb dX2_learn_62 (by decide) (fun c_62 => ?_) (fun c_62 => ?_)
      · exact absurd c_62 (by decide +kernel)
      · refine lv_iload_n hx hb dX2_learn_65 rfl (lv_at hl 6 rfl) ?_
        refine lv_goto (tgt := 71) hx hb dX2_learn_66 (by decide) ?_
        refine hs_iast (n := 6) (f := (hs_sg σ 7 q j x) 8 q) hx hb hK hW hS 8 q (hs_ix8 hq) rfl (vp_in_nI (show j < 6 by omega) (by decide)) (hs_sg (hs_sg σ 7 q j x) 8 q j y) (by simp only [hs_ct, hs_arr, nI_clamp (show j < 2 ^ 31 by omega)]) (hs_off _ _ _ _ _) dX2_learn_71 (fun H locs hW hS => ?_)
        refine lv_aload_n hx hb dX2_learn_72 rfl (lv_at hl 3 rfl) ?_
        refine lv_dup hx hb dX2_learn_73 rfl ?_
        refine va_get (D := D) (ci := cPe) (C := RX2) (T := TX2) (N := 8) (ws := [(L 4 q, hs_ct d L (hs_sg (hs_sg σ 7 q j x) 8 q j y) 4 q)]) (v := .int (σ 4 q 7)) hx hb hts (by decide +kernel) hown hK (hW.one (hs_ix4 hq)) 0 rfl rfl 7 (by decide) (hts (.fieldLink RX2 35 "Waxrow$Person" "clashes" "I") (by decide +kernel)) (fun _ h9 => h9) (by simp [hs_sg]) dX2_learn_74 ?_
        refine lv_iload hx hb dX2_learn_77 (lv_at hl 0 rfl) ?_
        refine lv_if_eq (tgt := 86) hx hb dX2_learn_79 (by decide) (fun c_79 => ?_) (fun c_79 => ?_)
        · exact absurd c_79 (by decide +kernel)
        · refine lv_iconst (v := 1) hx hb dX2_learn_82 (by decide) ?_
          refine lv_goto (tgt := 87) hx hb dX2_learn_83 (by decide) ?_
          refine lv_iadd hx hb dX2_learn_87 ?_
          refine hs_put (ci := cPe) (C := RX2) (T := TX2) (N := 8) (ty := .int) hx hb hts (by decide +kernel) tyX2 tyX2_ok nmX2 hown hK hW hS 4 q (hs_ix4 hq) rfl rfl 7 (by decide) (hts (.fieldLink RX2 35 "Waxrow$Person" "clashes" "I") (by decide +kernel)) (fun _ h9 => h9) rfl (by decide +kernel) rfl rfl (Nat.le_of_ble_eq_true rfl) (hs_sg (hs_sg (hs_sg σ 7 q j x) 8 q j y) 4 q 7 ((σ 4 q 7) + 1)) (by simp [hs_ct, hs_sg]) (hs_off _ _ _ _ _) dX2_learn_88 (fun H locs hW hS => ?_)
          exact W.vret hx hb hr (fun t ht hW9 => ⟨⟨(hs_sg (hs_sg (hs_sg σ 7 q j x) 8 q j y) 4 q 7 ((σ 4 q 7) + 1)), rfl, (by simp only [sp_learn, c_28, ↓reduceIte]), ⟨by rw [ht]; exact hW, va_K.moved hW9.alike hK⟩⟩, hS.F ht⟩) hS.2.2 dX2_learn_91
set_option maxHeartbeats 4000000 in
set_option maxRecDepth 100000 in
/-- addPerson -/
theorem kX1_addPerson (l : Launch) (D : va_G) (d : hs_Dm) (L : hs_Lo) (σ : hs_St) (A : Nat → Prop) (P : Nat) (hP : σ 0 0 3 = nI P) (hP9 : P < 10) (x y z : Int32) : hs_Mi l yX1_addPerson wsX1_addPerson ({ frames := 2, cells := 0, slots := 0, locals := 42 }) D d L σ A [.ref (L 0 0), .int x, .int y, .int z] (fun r τ => nI P = r ∧ sp_newP σ P x y z = τ) := by
  refine Met.ofW (cc := cX1_addPerson) (maxL := 6) (ret := (some .int)) (by decide) rfl ?_
  intro p e s m args below meth c s₁ B hml hv
  obtain ⟨rfl, ⟨hW, hK⟩, hE⟩ := hv
  have hx := B.exec
  have hb := B.bytes
  have hr := B.returns
  have hts := atoms_spec (ws := wsX1_addPerson) B.pre
  have hown : s.vm.findClass RX1 = some m.cls := findClass_of_methodNamed B.named
  have hlocks := B.notSynchronized
  have hS : va_S A s.heap s.heap [] := va_S.rf
  have hW : hs_W D d L σ A s.heap := hW
  have hl := lv_entry ([.ref (L 0 0), .int x, .int y, .int z]) (n := 6) (Nat.le_of_ble_eq_true rfl)
  rw [lg_entry_eq]
  generalize (lg_sl ([.ref (L 0 0), .int x, .int y, .int z]) ++ List.replicate (6 - (lg_sl ([.ref (L 0 0), .int x, .int y, .int z])).length) Slot.unset).toArray = ls at hl ⊢
  have hl : lv_has ls 6 [(0, .ref (L 0 0)), (1, .int x), (2, .int y), (3, .int z)] := hl
  refine lv_aload_n hx hb dX1_addPerson_0 rfl (lv_at hl 0 rfl) ?_
  refine va_get (D := D) (ci := cHo) (C := RX1) (T := TX1) (N := 11) (ws := [(L 0 0, hs_ct d L σ 0 0)]) (v := .int (nI P)) hx hb hts (by decide +kernel) hown hK (hW.one hs_ix0) 0 rfl rfl 3 (by decide) (hts (.fieldLink RX1 46 "Waxrow$House" "personCount" "I") (by decide +kernel)) (fun _ h9 => h9) (congrArg (fun q => some (Value.int q)) hP) dX1_addPerson_1 ?_
  refine lv_istore (lv' := [(4, .int (nI P)), (0, .ref (L 0 0)), (1, .int x), (2, .int y), (3, .int z)]) hx hb dX1_addPerson_4 hl (by decide) rfl (fun ls hl => ?_)
  refine lv_aload_n hx hb dX1_addPerson_6 rfl (lv_at hl 1 rfl) ?_
  refine lv_dup hx hb dX1_addPerson_7 rfl ?_
  refine va_get (D := D) (ci := cHo) (C := RX1) (T := TX1) (N := 11) (ws := [(L 0 0, hs_ct d L σ 0 0)]) (v := .int (nI P)) hx hb hts (by decide +kernel) hown hK (hW.one hs_ix0) 0 rfl rfl 3 (by decide) (hts (.fieldLink RX1 46 "Waxrow$House" "personCount" "I") (by decide +kernel)) (fun _ h9 => h9) (congrArg (fun q => some (Value.int q)) hP) dX1_addPerson_8 ?_
  refine lv_iconst (v := 1) hx hb dX1_addPerson_11 (by decide) ?_
  refine lv_iadd hx hb dX1_addPerson_12 ?_
  refine hs_put (ci := cHo) (C := RX1) (T := TX1) (N := 11) (ty := .int) hx hb hts (by decide +kernel) tyX1 tyX1_ok nmX1 hown hK hW hS 0 0 hs_ix0 rfl rfl 3 (by decide) (hts (.fieldLink RX1 46 "Waxrow$House" "personCount" "I") (by decide +kernel)) (fun _ h9 => h9) rfl (by decide +kernel) rfl rfl (Nat.le_of_ble_eq_true rfl) (hs_sg σ 0 0 3 ((nI P) + 1)) (by simp [hs_ct, hs_sg]) (hs_off _ _ _ _ _) dX1_addPerson_13 (fun H locs hW hS => ?_)
  refine lv_aload_n hx hb dX1_addPerson_16 rfl (lv_at hl 1 rfl) ?_
  refine lv_iload hx hb dX1_addPerson_17 (lv_at hl 0 rfl) ?_
  refine hs_callr (As := [.int (nI P)]) ⟨hx, hb, hml, hown, hts⟩ (kX1_personAt l D d L (hs_sg σ 0 0 3 ((nI P) + 1)) A P (P + 1) (by simp [hs_sg]; exact nI_1 P) (by omega) (by omega)) (cwV 1 hts gX1_addPerson_X1_personAt rfl rfl rfl (by decide +kernel) ⟨Nat.le_of_ble_eq_true rfl, Nat.le_of_ble_eq_true rfl⟩) hK hE hW hS hs_ix0 (ci := cHo) (r := (RX1, TX1, 11)) rfl rfl rfl rfl hl.1 (Nat.le_of_ble_eq_true rfl) dX1_addPerson_19 ⟨Nat.zero_le _, Nat.zero_le _⟩ rfl (fun H locs hW hS => ?_)
  refine lv_astore (lv' := [(5, .ref (L 4 P)), (4, .int (nI P)), (0, .ref (L 0 0)), (1, .int x), (2, .int y), (3, .int z)]) hx hb dX1_addPerson_22 hl (by decide) rfl (fun ls hl => ?_)
  refine lv_aload hx hb dX1_addPerson_24 (lv_at hl 0 rfl) ?_
  refine va_get (D := D) (ci := cPe) (C := RX2) (T := TX2) (N := 8) (ws := [(L 4 P, hs_ct d L (hs_sg σ 0 0 3 ((nI P) + 1)) 4 P)]) (v := .ref (L 5 P)) hx hb hts (by decide +kernel) hown hK (hW.one (hs_ix4 hP9)) 0 rfl rfl 1 (by decide) (hts (.fieldLink RX1 91 "Waxrow$Person" "fame" "[I") (by decide +kernel)) (fun _ h9 => h9) rfl dX1_addPerson_26 ?_
  refine lv_iconst (v := 0) hx hb dX1_addPerson_29 (by decide) ?_
  refine lv_iload_n hx hb dX1_addPerson_30 rfl (lv_at hl 3 rfl) ?_
  refine hs_iast (n := 3) (f := (hs_sg σ 0 0 3 ((nI P) + 1)) 5 P) hx hb hK hW hS 5 P (hs_ix5 hP9) rfl (show ¬ ((0 : Int32) < 0 ∨ 3 ≤ (0 : Int32).toNatClampNeg) by decide) (hs_sg (hs_sg σ 0 0 3 ((nI P) + 1)) 5 P 0 x) (by simp only [hs_ct, hs_arr, show (0 : Int32).toNatClampNeg = 0 from rfl]) (hs_off _ _ _ _ _) dX1_addPerson_31 (fun H locs hW hS => ?_)
  refine lv_aload hx hb dX1_addPerson_32 (lv_at hl 0 rfl) ?_
  refine va_get (D := D) (ci := cPe) (C := RX2) (T := TX2) (N := 8) (ws := [(L 4 P, hs_ct d L (hs_sg (hs_sg σ 0 0 3 ((nI P) + 1)) 5 P 0 x) 4 P)]) (v := .ref (L 5 P)) hx hb hts (by decide +kernel) hown hK (hW.one (hs_ix4 hP9)) 0 rfl rfl 1 (by decide) (hts (.fieldLink RX1 91 "Waxrow$Person" "fame" "[I") (by decide +kernel)) (fun _ h9 => h9) rfl dX1_addPerson_34 ?_
  refine lv_iconst (v := 1) hx hb dX1_addPerson_37 (by decide) ?_
  refine lv_iload_n hx hb dX1_addPerson_38 rfl (lv_at hl 4 rfl) ?_
  refine hs_iast (n := 3) (f := (hs_sg (hs_sg σ 0 0 3 ((nI P) + 1)) 5 P 0 x) 5 P) hx hb hK hW hS 5 P (hs_ix5 hP9) rfl (show ¬ ((1 : Int32) < 0 ∨ 3 ≤ (1 : Int32).toNatClampNeg) by decide) (hs_sg (hs_sg (hs_sg σ 0 0 3 ((nI P) + 1)) 5 P 0 x) 5 P 1 y) (by simp only [hs_ct, hs_arr, show (1 : Int32).toNatClampNeg = 1 from rfl]) (hs_off _ _ _ _ _) dX1_addPerson_39 (fun H locs hW hS => ?_)
  refine lv_aload hx hb dX1_addPerson_40 (lv_at hl 0 rfl) ?_
  refine va_get (D := D) (ci := cPe) (C := RX2) (T := TX2) (N := 8) (ws := [(L 4 P, hs_ct d L (hs_sg (hs_sg (hs_sg σ 0 0 3 ((nI P) + 1)) 5 P 0 x) 5 P 1 y) 4 P)]) (v := .ref (L 5 P)) hx hb hts (by decide +kernel) hown hK (hW.one (hs_ix4 hP9)) 0 rfl rfl 1 (by decide) (hts (.fieldLink RX1 91 "Waxrow$Person" "fame" "[I") (by decide +kernel)) (fun _ h9 => h9) rfl dX1_addPerson_42 ?_
  refine lv_iconst (v := 2) hx hb dX1_addPerson_45 (by decide) ?_
  refine lv_iload_n hx hb dX1_addPerson_46 rfl (lv_at hl 5 rfl) ?_
  refine hs_iast (n := 3) (f := (hs_sg (hs_sg (hs_sg σ 0 0 3 ((nI P) + 1)) 5 P 0 x) 5 P 1 y) 5 P) hx hb hK hW hS 5 P (hs_ix5 hP9) rfl (show ¬ ((2 : Int32) < 0 ∨ 3 ≤ (2 : Int32).toNatClampNeg) by decide) (hs_sg (hs_sg (hs_sg (hs_sg σ 0 0 3 ((nI P) + 1)) 5 P 0 x) 5 P 1 y) 5 P 2 z) (by simp only [hs_ct, hs_arr, show (2 : Int32).toNatClampNeg = 2 from rfl]) (hs_off _ _ _ _ _) dX1_addPerson_47 (fun H locs hW hS => ?_)
  refine lv_iload hx hb dX1_addPerson_48 (lv_at hl 1 rfl) ?_
  exact W.iret (v := nI P) hx hb hr (fun t ht hW9 => ⟨⟨(nI P), (hs_sg (hs_sg (hs_sg (hs_sg σ 0 0 3 ((nI P) + 1)) 5 P 0 x) 5 P 1 y) 5 P 2 z), rfl, ⟨rfl, rfl⟩, ⟨by rw [ht]; exact hW, va_K.moved hW9.alike hK⟩⟩, hS.F ht⟩) hS.2.2 dX1_addPerson_50
set_option maxHeartbeats 4000000 in
set_option maxRecDepth 100000 in
/-- addFigure -/
theorem kX1_addFigure (l : Launch) (D : va_G) (d : hs_Dm) (L : hs_Lo) (σ : hs_St) (A : Nat → Prop) (F : Nat) (hF : σ 0 0 4 = nI F) (hF7 : F < 8) (q : Nat) (hq : q < 10) : hs_Mi l yX1_addFigure wsX1_addFigure ({ frames := 2, cells := 0, slots := 0, locals := 42 }) D d L σ A [.ref (L 0 0), .ref (L 4 q)] (fun r τ => nI F = r ∧ sp_newF σ F q = τ) := by
  refine Met.ofW (cc := cX1_addFigure) (maxL := 4) (ret := (some .int)) (by decide) rfl ?_
  intro p e s m args below meth c s₁ B hml hv
  obtain ⟨rfl, ⟨hW, hK⟩, hE⟩ := hv
  have hx := B.exec
  have hb := B.bytes
  have hr := B.returns
  have hts := atoms_spec (ws := wsX1_addFigure) B.pre
  have hown : s.vm.findClass RX1 = some m.cls := findClass_of_methodNamed B.named
  have hlocks := B.notSynchronized
  have hS : va_S A s.heap s.heap [] := va_S.rf
  have hW : hs_W D d L σ A s.heap := hW
  have hl := lv_entry ([.ref (L 0 0), .ref (L 4 q)]) (n := 4) (Nat.le_of_ble_eq_true rfl)
  rw [lg_entry_eq]
  generalize (lg_sl ([.ref (L 0 0), .ref (L 4 q)]) ++ List.replicate (4 - (lg_sl ([.ref (L 0 0), .ref (L 4 q)])).length) Slot.unset).toArray = ls at hl ⊢
  have hl : lv_has ls 4 [(0, .ref (L 0 0)), (1, .ref (L 4 q))] := hl
  refine lv_aload_n hx hb dX1_addFigure_0 rfl (lv_at hl 0 rfl) ?_
  refine va_get (D := D) (ci := cHo) (C := RX1) (T := TX1) (N := 11) (ws := [(L 0 0, hs_ct d L σ 0 0)]) (v := .int (nI F)) hx hb hts (by decide +kernel) hown hK (hW.one hs_ix0) 0 rfl rfl 4 (by decide) (hts (.fieldLink RX1 49 "Waxrow$House" "figureCount" "I") (by decide +kernel)) (fun _ h9 => h9) (congrArg (fun q => some (Value.int q)) hF) dX1_addFigure_1 ?_
  refine lv_istore_n (lv' := [(2, .int (nI F)), (0, .ref (L 0 0)), (1, .ref (L 4 q))]) hx hb dX1_addFigure_4 rfl hl (by decide) rfl (fun ls hl => ?_)
  refine lv_aload_n hx hb dX1_addFigure_5 rfl (lv_at hl 1 rfl) ?_
  refine lv_dup hx hb dX1_addFigure_6 rfl ?_
  refine va_get (D := D) (ci := cHo) (C := RX1) (T := TX1) (N := 11) (ws := [(L 0 0, hs_ct d L σ 0 0)]) (v := .int (nI F)) hx hb hts (by decide +kernel) hown hK (hW.one hs_ix0) 0 rfl rfl 4 (by decide) (hts (.fieldLink RX1 49 "Waxrow$House" "figureCount" "I") (by decide +kernel)) (fun _ h9 => h9) (congrArg (fun q => some (Value.int q)) hF) dX1_addFigure_7 ?_
  refine lv_iconst (v := 1) hx hb dX1_addFigure_10 (by decide) ?_
  refine lv_iadd hx hb dX1_addFigure_11 ?_
  refine hs_put (ci := cHo) (C := RX1) (T := TX1) (N := 11) (ty := .int) hx hb hts (by decide +kernel) tyX1 tyX1_ok nmX1 hown hK hW hS 0 0 hs_ix0 rfl rfl 4 (by decide) (hts (.fieldLink RX1 49 "Waxrow$House" "figureCount" "I") (by decide +kernel)) (fun _ h9 => h9) rfl (by decide +kernel) rfl rfl (Nat.le_of_ble_eq_true rfl) (hs_sg σ 0 0 4 ((nI F) + 1)) (by simp [hs_ct, hs_sg]) (hs_off _ _ _ _ _) dX1_addFigure_12 (fun H locs hW hS => ?_)
  refine lv_aload_n hx hb dX1_addFigure_15 rfl (lv_at hl 1 rfl) ?_
  refine lv_iload_n hx hb dX1_addFigure_16 rfl (lv_at hl 0 rfl) ?_
  refine hs_callr (As := [.int (nI F)]) ⟨hx, hb, hml, hown, hts⟩ (kX1_figureAt l D d L (hs_sg σ 0 0 4 ((nI F) + 1)) A F (F + 1) (by simp [hs_sg]; exact nI_1 F) (by omega) (by omega)) (cwV 1 hts gX1_addFigure_X1_figureAt rfl rfl rfl (by decide +kernel) ⟨Nat.le_of_ble_eq_true rfl, Nat.le_of_ble_eq_true rfl⟩) hK hE hW hS hs_ix0 (ci := cHo) (r := (RX1, TX1, 11)) rfl rfl rfl rfl hl.1 (Nat.le_of_ble_eq_true rfl) dX1_addFigure_17 ⟨Nat.zero_le _, Nat.zero_le _⟩ rfl (fun H locs hW hS => ?_)
  refine lv_astore_n (lv' := [(3, .ref (L 9 F)), (2, .int (nI F)), (0, .ref (L 0 0)), (1, .ref (L 4 q))]) hx hb dX1_addFigure_20 rfl hl (by decide) rfl (fun ls hl => ?_)
  refine lv_aload_n hx hb dX1_addFigure_21 rfl (lv_at hl 0 rfl) ?_
  refine lv_aload_n hx hb dX1_addFigure_22 rfl (lv_at hl 3 rfl) ?_
  refine hs_put (ci := cFi) (C := RX0) (T := TX0) (N := 11) (ty := (.object "Waxrow$Person")) hx hb hts (by decide +kernel) tyX0 tyX0_ok nmX0 hown hK hW hS 9 F (hs_ix9 hF7) rfl rfl 0 (by decide) (hts (.fieldLink RX1 64 "Waxrow$Figure" "head" "LWaxrow$Person;") (by decide +kernel)) (fun _ h9 => h9) rfl (by decide +kernel) rfl rfl (Nat.le_of_ble_eq_true rfl) (hs_sg (hs_sg σ 0 0 4 ((nI F) + 1)) 9 F 0 (nI q)) (by simp [hs_ct, hs_sg, nI_clamp (show q < 2 ^ 31 by omega)]) (hs_off _ _ _ _ _) dX1_addFigure_23 (fun H locs hW hS => ?_)
  refine lv_aload_n hx hb dX1_addFigure_26 rfl (lv_at hl 0 rfl) ?_
  refine lv_aload_n hx hb dX1_addFigure_27 rfl (lv_at hl 3 rfl) ?_
  refine hs_put (ci := cFi) (C := RX0) (T := TX0) (N := 11) (ty := (.object "Waxrow$Person")) hx hb hts (by decide +kernel) tyX0 tyX0_ok nmX0 hown hK hW hS 9 F (hs_ix9 hF7) rfl rfl 1 (by decide) (hts (.fieldLink RX1 75 "Waxrow$Figure" "body" "LWaxrow$Person;") (by decide +kernel)) (fun _ h9 => h9) rfl (by decide +kernel) rfl rfl (Nat.le_of_ble_eq_true rfl) (hs_sg (hs_sg (hs_sg σ 0 0 4 ((nI F) + 1)) 9 F 0 (nI q)) 9 F 1 (nI q)) (by simp [hs_ct, hs_sg, nI_clamp (show q < 2 ^ 31 by omega)]) (hs_off _ _ _ _ _) dX1_addFigure_28 (fun H locs hW hS => ?_)
  refine lv_iload_n hx hb dX1_addFigure_31 rfl (lv_at hl 1 rfl) ?_
  exact W.iret (v := nI F) hx hb hr (fun t ht hW9 => ⟨⟨(nI F), (hs_sg (hs_sg (hs_sg σ 0 0 4 ((nI F) + 1)) 9 F 0 (nI q)) 9 F 1 (nI q)), rfl, ⟨rfl, rfl⟩, ⟨by rw [ht]; exact hW, va_K.moved hW9.alike hK⟩⟩, hS.F ht⟩) hS.2.2 dX1_addFigure_32
set_option maxHeartbeats 4000000 in
set_option maxRecDepth 100000 in
/-- addRoom -/
theorem kX1_addRoom (l : Launch) (D : va_G) (d : hs_Dm) (L : hs_Lo) (σ : hs_St) (A : Nat → Prop) (R : Nat) (hR : σ 0 0 5 = nI R) (hR4 : R < 5) (x y : Int32) : hs_Mi l yX1_addRoom wsX1_addRoom ({ frames := 2, cells := 0, slots := 0, locals := 42 }) D d L σ A [.ref (L 0 0), .int x, .int y] (fun r τ => nI R = r ∧ sp_newR σ R x y = τ) := by
  refine Met.ofW (cc := cX1_addRoom) (maxL := 5) (ret := (some .int)) (by decide) rfl ?_
  intro p e s m args below meth c s₁ B hml hv
  obtain ⟨rfl, ⟨hW, hK⟩, hE⟩ := hv
  have hx := B.exec
  have hb := B.bytes
  have hr := B.returns
  have hts := atoms_spec (ws := wsX1_addRoom) B.pre
  have hown : s.vm.findClass RX1 = some m.cls := findClass_of_methodNamed B.named
  have hlocks := B.notSynchronized
  have hS : va_S A s.heap s.heap [] := va_S.rf
  have hW : hs_W D d L σ A s.heap := hW
  have hl := lv_entry ([.ref (L 0 0), .int x, .int y]) (n := 5) (Nat.le_of_ble_eq_true rfl)
  rw [lg_entry_eq]
  generalize (lg_sl ([.ref (L 0 0), .int x, .int y]) ++ List.replicate (5 - (lg_sl ([.ref (L 0 0), .int x, .int y])).length) Slot.unset).toArray = ls at hl ⊢
  have hl : lv_has ls 5 [(0, .ref (L 0 0)), (1, .int x), (2, .int y)] := hl
  refine lv_aload_n hx hb dX1_addRoom_0 rfl (lv_at hl 0 rfl) ?_
  refine va_get (D := D) (ci := cHo) (C := RX1) (T := TX1) (N := 11) (ws := [(L 0 0, hs_ct d L σ 0 0)]) (v := .int (nI R)) hx hb hts (by decide +kernel) hown hK (hW.one hs_ix0) 0 rfl rfl 5 (by decide) (hts (.fieldLink RX1 52 "Waxrow$House" "roomCount" "I") (by decide +kernel)) (fun _ h9 => h9) (congrArg (fun q => some (Value.int q)) hR) dX1_addRoom_1 ?_
  refine lv_istore_n (lv' := [(3, .int (nI R)), (0, .ref (L 0 0)), (1, .int x), (2, .int y)]) hx hb dX1_addRoom_4 rfl hl (by decide) rfl (fun ls hl => ?_)
  refine lv_aload_n hx hb dX1_addRoom_5 rfl (lv_at hl 1 rfl) ?_
  refine lv_dup hx hb dX1_addRoom_6 rfl ?_
  refine va_get (D := D) (ci := cHo) (C := RX1) (T := TX1) (N := 11) (ws := [(L 0 0, hs_ct d L σ 0 0)]) (v := .int (nI R)) hx hb hts (by decide +kernel) hown hK (hW.one hs_ix0) 0 rfl rfl 5 (by decide) (hts (.fieldLink RX1 52 "Waxrow$House" "roomCount" "I") (by decide +kernel)) (fun _ h9 => h9) (congrArg (fun q => some (Value.int q)) hR) dX1_addRoom_7 ?_
  refine lv_iconst (v := 1) hx hb dX1_addRoom_10 (by decide) ?_
  refine lv_iadd hx hb dX1_addRoom_11 ?_
  refine hs_put (ci := cHo) (C := RX1) (T := TX1) (N := 11) (ty := .int) hx hb hts (by decide +kernel) tyX1 tyX1_ok nmX1 hown hK hW hS 0 0 hs_ix0 rfl rfl 5 (by decide) (hts (.fieldLink RX1 52 "Waxrow$House" "roomCount" "I") (by decide +kernel)) (fun _ h9 => h9) rfl (by decide +kernel) rfl rfl (Nat.le_of_ble_eq_true rfl) (hs_sg σ 0 0 5 ((nI R) + 1)) (by simp [hs_ct, hs_sg]) (hs_off _ _ _ _ _) dX1_addRoom_12 (fun H locs hW hS => ?_)
  refine lv_aload_n hx hb dX1_addRoom_15 rfl (lv_at hl 1 rfl) ?_
  refine lv_iload_n hx hb dX1_addRoom_16 rfl (lv_at hl 0 rfl) ?_
  refine hs_callr (As := [.int (nI R)]) ⟨hx, hb, hml, hown, hts⟩ (kX1_roomAt l D d L (hs_sg σ 0 0 5 ((nI R) + 1)) A R (R + 1) (by simp [hs_sg]; exact nI_1 R) (by omega) (by omega)) (cwV 1 hts gX1_addRoom_X1_roomAt rfl rfl rfl (by decide +kernel) ⟨Nat.le_of_ble_eq_true rfl, Nat.le_of_ble_eq_true rfl⟩) hK hE hW hS hs_ix0 (ci := cHo) (r := (RX1, TX1, 11)) rfl rfl rfl rfl hl.1 (Nat.le_of_ble_eq_true rfl) dX1_addRoom_17 ⟨Nat.zero_le _, Nat.zero_le _⟩ rfl (fun H locs hW hS => ?_)
  refine lv_astore (lv' := [(4, .ref (L 10 R)), (3, .int (nI R)), (0, .ref (L 0 0)), (1, .int x), (2, .int y)]) hx hb dX1_addRoom_20 hl (by decide) rfl (fun ls hl => ?_)
  refine lv_aload hx hb dX1_addRoom_22 (lv_at hl 0 rfl) ?_
  refine lv_iload_n hx hb dX1_addRoom_24 rfl (lv_at hl 3 rfl) ?_
  refine hs_put (ci := cRo) (C := RX3) (T := TX3) (N := 2) (ty := .int) hx hb hts (by decide +kernel) tyX3 tyX3_ok nmX3 hown hK hW hS 10 R (hs_ix10 hR4) rfl rfl 0 (by decide) (hts (.fieldLink RX1 81 "Waxrow$Room" "lamps" "I") (by decide +kernel)) (fun _ h9 => h9) rfl (by decide +kernel) rfl rfl (Nat.le_of_ble_eq_true rfl) (hs_sg (hs_sg σ 0 0 5 ((nI R) + 1)) 10 R 0 x) (by simp [hs_ct, hs_sg]) (hs_off _ _ _ _ _) dX1_addRoom_25 (fun H locs hW hS => ?_)
  refine lv_aload hx hb dX1_addRoom_28 (lv_at hl 0 rfl) ?_
  refine lv_iload_n hx hb dX1_addRoom_30 rfl (lv_at hl 4 rfl) ?_
  refine hs_put (ci := cRo) (C := RX3) (T := TX3) (N := 2) (ty := .int) hx hb hts (by decide +kernel) tyX3 tyX3_ok nmX3 hown hK hW hS 10 R (hs_ix10 hR4) rfl rfl 1 (by decide) (hts (.fieldLink RX1 84 "Waxrow$Room" "spots" "I") (by decide +kernel)) (fun _ h9 => h9) rfl (by decide +kernel) rfl rfl (Nat.le_of_ble_eq_true rfl) (hs_sg (hs_sg (hs_sg σ 0 0 5 ((nI R) + 1)) 10 R 0 x) 10 R 1 y) (by simp [hs_ct, hs_sg]) (hs_off _ _ _ _ _) dX1_addRoom_31 (fun H locs hW hS => ?_)
  refine lv_iload_n hx hb dX1_addRoom_34 rfl (lv_at hl 1 rfl) ?_
  exact W.iret (v := nI R) hx hb hr (fun t ht hW9 => ⟨⟨(nI R), (hs_sg (hs_sg (hs_sg σ 0 0 5 ((nI R) + 1)) 10 R 0 x) 10 R 1 y), rfl, ⟨rfl, rfl⟩, ⟨by rw [ht]; exact hW, va_K.moved hW9.alike hK⟩⟩, hS.F ht⟩) hS.2.2 dX1_addRoom_35
