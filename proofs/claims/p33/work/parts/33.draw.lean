/-! DRAW: below, cell, draw -/
def tl_bel (v n : Int32) : Int32 := (v &&& 2147483647) - (v &&& 2147483647) / n * n
def tl_cel (xs : Nat → Int32) (N k : Nat) : Int32 := if k < N then xs k else 790386105 * nI (k + 3)
/-- what draw answers, at its k-th draw, below n -/
def tl_v (xs : Nat → Int32) (N k : Nat) (n : Int32) : Int32 := tl_bel (tl_cel xs N (k % 24) >>> (nI (k / 24 % 8) &&& 31) + 373 * nI k) n
theorem tl_and_bv (x : BitVec 32) : (x &&& 2147483647#32).toNat < 2147483648 := by
  rw [BitVec.toNat_and]
  exact Nat.lt_succ_of_le Nat.and_le_right
theorem tl_and_ti (x : Int32) : (x &&& 2147483647).toInt = ((x.toBitVec &&& 2147483647#32).toNat : Int) := by
  have h := tl_and_bv x.toBitVec
  show (x &&& 2147483647).toBitVec.toInt = _
  rw [Int32.toBitVec_and]
  show (x.toBitVec &&& 2147483647#32).toInt = _
  rw [BitVec.toInt_eq_toNat_of_lt (by omega)]
theorem tl_and (x : Int32) : ∃ a : Nat, a < 2 ^ 31 ∧ x &&& 2147483647 = nI a := by
  obtain ⟨a, ha, e⟩ := nI_of (x := x &&& 2147483647) (fun z => by
    rw [Int32.lt_iff_toInt_lt, show (0 : Int32).toInt = 0 from by decide, tl_and_ti] at z
    omega)
  exact ⟨a, ha, e⟩
theorem tl_mul (a b : Nat) : nI a * nI b = nI (a * b) := (Int32.ofNat_mul a b).symm
theorem tl_rem {a m : Nat} (ha : a < 2 ^ 31) (hm : 0 < m) (hm2 : m < 2 ^ 31) : nI a - nI a / nI m * nI m = nI (a % m) := by
  have h := Nat.div_mul_le_self a m
  rw [pf_div ha m hm hm2, tl_mul, nI_sub h]
  congr 1
  have := Nat.div_add_mod a m
  rw [Nat.mul_comm] at this
  omega
theorem tl_bel_in (v : Int32) {m : Nat} (hm : 0 < m) (hm2 : m < 2 ^ 31) : ∃ k, k < m ∧ tl_bel v (nI m) = nI k := by
  obtain ⟨a, ha, e⟩ := tl_and v
  refine ⟨a % m, Nat.mod_lt _ hm, ?_⟩
  unfold tl_bel
  rw [e, tl_rem ha hm hm2]
theorem tl_v_in (xs : Nat → Int32) (N k : Nat) {m : Nat} (hm : 0 < m) (hm2 : m < 2 ^ 31) : ∃ j, j < m ∧ tl_v xs N k (nI m) = nI j := tl_bel_in _ hm hm2
theorem tl_none {av : List Value} : FrameBlind (va_Pc av (fun _ => True)) := fun a U g mk q => q
set_option maxHeartbeats 4000000 in
set_option maxRecDepth 100000 in
/-- below -/
theorem kL_below (l : Launch) (v n : Int32) (hn : ¬ n = 0) : Met l yL_below wsL_below ({ frames := 0, cells := 0, slots := 0, locals := 0 }) (va_Pc [.int v, .int n] (fun _ => True)) (va_Qi (fun r (_ : Unit) => r = tl_bel v n) (fun _ _ => True) (fun _ => False)) 0 0 (fun _ => False) := by
  refine Met.ofW (cc := cL_below) (maxL := 2) (ret := (some .int)) (by decide) rfl ?_
  intro p e s m args below meth c s₁ B hml hv
  obtain ⟨rfl, -⟩ := hv
  have hx := B.exec
  have hb := B.bytes
  have hr := B.returns
  have hts := atoms_spec (ws := wsL_below) B.pre
  have hown : s.vm.findClass RL = some m.cls := findClass_of_methodNamed B.named
  have hlocks := B.notSynchronized
  have hS : va_S (fun _ => False) s.heap s.heap [] := va_S.rf
  have hl := lv_entry ([.int v, .int n]) (n := 2) (Nat.le_of_ble_eq_true rfl)
  rw [lg_entry_eq]
  generalize (lg_sl ([.int v, .int n]) ++ List.replicate (2 - (lg_sl ([.int v, .int n])).length) Slot.unset).toArray = ls at hl ⊢
  have hl : lv_has ls 2 [(0, .int v), (1, .int n)] := hl
  refine lv_iload_n hx hb dL_below_0 rfl (lv_at hl 0 rfl) ?_
  refine lv_ldc (v := 2147483647) hx hb hown (hts (.constant RL 7 2147483647) (by decide +kernel)) dL_below_1 ?_
  refine lv_iand hx hb dL_below_3 ?_
  refine lv_iload_n hx hb dL_below_4 rfl (lv_at hl 1 rfl) ?_
  refine lv_irem hx hb dL_below_5 hn ?_
  exact W.iret (v := tl_bel v n) hx hb hr (fun t ht hW9 => ⟨⟨tl_bel v n, (), rfl, rfl, trivial⟩, hS.F ht⟩) hS.2.2 dL_below_6
def tl_Xc (b N : Nat) (xs : Nat → Int32) (U : State) : Prop := va_X b N xs U U.heap ∧ b < U.heap.size
theorem tl_Xc_blind {b N : Nat} {xs : Nat → Int32} {av : List Value} : FrameBlind (va_Pc av (tl_Xc b N xs)) := fun a U g mk q => by
  obtain ⟨q0, q1, q2⟩ := q
  exact ⟨q0, va_X.moved (u := U) (U := U.calling g mk a) (Vm.Alike.refl U.vm) q1, q2⟩
set_option maxHeartbeats 4000000 in
set_option maxRecDepth 100000 in
/-- cell -/
theorem kL_cell (l : Launch) (b N : Nat) (xs : Nat → Int32) (k : Nat) (hk : k < 24) (hN : N < 2 ^ 31) : Met l yL_cell wsL_cell ({ frames := 0, cells := 0, slots := 0, locals := 0 }) (va_Pc [.ref b, .int (nI k)] (tl_Xc b N xs)) (va_Qi (fun r (_ : Unit) => r = tl_cel xs N k) (fun _ _ => True) (fun _ => False)) 0 0 (fun _ => False) := by
  refine Met.ofW (cc := cL_cell) (maxL := 2) (ret := (some .int)) (by decide) rfl ?_
  intro p e s m args below meth c s₁ B hml hv
  obtain ⟨rfl, hX, hbl⟩ := hv
  have hx := B.exec
  have hb := B.bytes
  have hr := B.returns
  have hts := atoms_spec (ws := wsL_cell) B.pre
  have hown : s.vm.findClass RL = some m.cls := findClass_of_methodNamed B.named
  have hlocks := B.notSynchronized
  have hS : va_S (fun _ => False) s.heap s.heap [] := va_S.rf
  have hl := lv_entry ([.ref b, .int (nI k)]) (n := 2) (Nat.le_of_ble_eq_true rfl)
  rw [lg_entry_eq]
  generalize (lg_sl ([.ref b, .int (nI k)]) ++ List.replicate (2 - (lg_sl ([.ref b, .int (nI k)])).length) Slot.unset).toArray = ls at hl ⊢
  have hl : lv_has ls 2 [(0, .ref b), (1, .int (nI k))] := hl
  refine lv_iload_n hx hb dL_cell_0 rfl (lv_at hl 1 rfl) ?_
  refine lv_aload_n hx hb dL_cell_1 rfl (lv_at hl 0 rfl) ?_
  refine va_slen hx hb hX hbl (fun z => z) hS dL_cell_2 ?_
  refine lv_icmp_ge (tgt := 12) hx hb dL_cell_3 (by decide) (fun c_3 => ?_) (fun c_3 => ?_)
  · have hkN : ¬ k < N := fun z => nI_ge z hN c_3
    refine lv_ldc (v := 790386105) hx hb hown (hts (.constant RL 8 790386105) (by decide +kernel)) dL_cell_12 ?_
    refine lv_iload_n hx hb dL_cell_14 rfl (lv_at hl 1 rfl) ?_
    refine lv_iconst (v := 3) hx hb dL_cell_15 (by decide) ?_
    refine lv_iadd hx hb dL_cell_16 ?_
    refine lv_imul hx hb dL_cell_17 ?_
    exact W.iret (v := 790386105 * (nI k + 3)) hx hb hr (fun t ht hW9 => ⟨⟨790386105 * (nI k + 3), (), rfl, by unfold tl_cel; rw [if_neg hkN, show nI k + 3 = nI (k + 3) from nI_add k 3], trivial⟩, hS.F ht⟩) hS.2.2 dL_cell_18
  · have hkN : k < N := Nat.lt_of_not_le fun z => c_3 (nI_le z (by omega))
    refine lv_aload_n hx hb dL_cell_6 rfl (lv_at hl 0 rfl) ?_
    refine lv_iload_n hx hb dL_cell_7 rfl (lv_at hl 1 rfl) ?_
    refine va_sld hx hb hX hbl (fun z => z) hS (vp_in_nI hkN hN) dL_cell_8 ?_
    refine lv_goto (tgt := 18) hx hb dL_cell_9 (by decide) ?_
    exact W.iret (v := xs (nI k).toNatClampNeg) hx hb hr (fun t ht hW9 => ⟨⟨xs (nI k).toNatClampNeg, (), rfl, by unfold tl_cel; rw [if_pos hkN, nI_clamp (by omega)], trivial⟩, hS.F ht⟩) hS.2.2 dL_cell_18
def tl_Dc (D : va_G) (d : hs_Dm) (a0 b N : Nat) (xs : Nat → Int32) (fs : List Value) (U : State) : Prop := va_P D vwCl [(a0, .inr (cTo, fs))] U.heap ∧ va_K D vwCl (hs_ty d) U ∧ tl_Xc b N xs U ∧ va_Nw (.methodLinkNest RX5 56 yL_cell RL) U ∧ va_Nw (.methodLinkNest RX5 62 yL_below RL) U
theorem tl_Dc_blind {D : va_G} {d : hs_Dm} {a0 b N : Nat} {xs : Nat → Int32} {fs : List Value} {av : List Value} : FrameBlind (va_Pc av (tl_Dc D d a0 b N xs fs)) := fun a U g mk q => by
  obtain ⟨q0, q1, q2, q3, q4, q5⟩ := q
  exact ⟨q0, q1, va_K.moved (u := U) (U := U.calling g mk a) (Vm.Alike.refl U.vm) q2, ⟨va_X.moved (u := U) (U := U.calling g mk a) (Vm.Alike.refl U.vm) q3.1, q3.2⟩, va_Nw.same (u := U) (U := U.calling g mk a) rfl rfl q4, va_Nw.same (u := U) (U := U.calling g mk a) rfl rfl q5⟩
abbrev tl_fs (w b : Nat) (L : hs_Lo) (x2 x10 x11 x12 x13 x14 : Int32) : List Value := [.ref w, .ref b, .int x2, .ref (L 1 0), .ref (L 2 0), .ref (L 3 0), .ref (L 4 0), .ref (L 5 0), .ref (L 6 0), .ref (L 7 0), .int x10, .int x11, .int x12, .int x13, .int x14]
theorem nI_373 (k : Nat) : (373 : Int32) * nI k = 373 * nI k := rfl
set_option maxHeartbeats 4000000 in
set_option maxRecDepth 100000 in
/-- draw -/
theorem kX5_draw (l : Launch) (D : va_G) (d : hs_Dm) (a0 w b N : Nat) (xs : Nat → Int32) (L : hs_Lo) (k : Nat) (x10 x11 x12 x13 x14 n : Int32) (hk : k < 2 ^ 30) (hN : N < 2 ^ 31) (hn : ¬ n = 0) (hba : b ≠ a0) : Met l yX5_draw wsX5_draw ({ frames := 1, cells := 0, slots := 0, locals := 30 }) (va_Pc [.ref a0, .int n] (tl_Dc D d a0 b N xs (tl_fs w b L (nI k) x10 x11 x12 x13 x14))) (va_Qi (fun r (_ : Unit) => r = tl_v xs N k n) (fun _ t => va_P D vwCl [(a0, .inr (cTo, tl_fs w b L (nI (k + 1)) x10 x11 x12 x13 x14))] t.heap) (fun q => q = a0)) 0 0 (fun q => q = a0) := by
  refine Met.ofW (cc := cX5_draw) (maxL := 3) (ret := (some .int)) (by decide) rfl ?_
  intro p e s m args below meth c s₁ B hml hv
  obtain ⟨rfl, hP, hK, ⟨hX, hbl⟩, hN1, hN2⟩ := hv
  have hx := B.exec
  have hb := B.bytes
  have hr := B.returns
  have hts := atoms_spec (ws := wsX5_draw) B.pre
  have hown : s.vm.findClass RX5 = some m.cls := findClass_of_methodNamed B.named
  have hlocks := B.notSynchronized
  have hS : va_S (fun q => q = a0) s.heap s.heap [] := va_S.rf
  have hl := lv_entry ([.ref a0, .int n]) (n := 3) (Nat.le_of_ble_eq_true rfl)
  rw [lg_entry_eq]
  generalize (lg_sl ([.ref a0, .int n]) ++ List.replicate (3 - (lg_sl ([.ref a0, .int n])).length) Slot.unset).toArray = ls at hl ⊢
  have hl : lv_has ls 3 [(0, .ref a0), (1, .int n)] := hl
  refine lv_aload_n hx hb dX5_draw_0 rfl (lv_at hl 0 rfl) ?_
  refine va_get (D := D) (ci := cTo) (C := RX5) (T := TX5) (N := 15) (v := .ref b) hx hb hts (by decide +kernel) hown hK hP 0 rfl rfl 1 (by decide) (hts (.fieldLink RX5 50 "WaxrowLaw$Told" "s" "[I") (by decide +kernel)) (fun _ h9 => h9) rfl dX5_draw_1 ?_
  refine lv_aload_n hx hb dX5_draw_4 rfl (lv_at hl 0 rfl) ?_
  refine va_get (D := D) (ci := cTo) (C := RX5) (T := TX5) (N := 15) (v := .int (nI k)) hx hb hts (by decide +kernel) hown hK hP 0 rfl rfl 2 (by decide) (hts (.fieldLink RX5 53 "WaxrowLaw$Told" "draws" "I") (by decide +kernel)) (fun _ h9 => h9) rfl dX5_draw_5 ?_
  refine lv_bipush (v := 24) hx hb dX5_draw_8 (by decide) ?_
  refine lv_irem hx hb dX5_draw_10 (by decide) ?_
  rw [show (24 : Int32) = nI 24 from by decide +kernel, tl_rem (by omega) (by decide) (by decide)]
  refine va_calli (va_runSN (As := [.ref b, .int (nI (k % 24))]) (rest := []) ⟨hx, hb, hml, hown, hts⟩ (kL_cell l b N xs (k % 24) (Nat.mod_lt _ (by decide)) hN) ⟨va_cnB 2 hts gX5_draw_L_cell_n56 rfl rfl rfl hN1 (hts (.initialized RL) (by decide +kernel)) (by decide +kernel) ⟨Nat.le_of_ble_eq_true rfl, Nat.le_of_ble_eq_true rfl⟩, hts (.static yL_cell) (by decide +kernel), trivial⟩ ⟨tl_Xc_blind, fun U hU hW2 => ⟨rfl, by rw [hU]; exact va_X.moved hW2.alike hX, by rw [hU]; exact hbl⟩⟩ rfl rfl hl.1 rfl (lv_room (Nat.le_of_ble_eq_true rfl)) dX5_draw_11 ⟨Nat.le_of_ble_eq_true rfl, Nat.le_of_ble_eq_true rfl⟩) hS (fun q _ h => h.elim) (fun q h => h.elim) (fun r u t H1 locs ht _ hp _ _ hq hS => ?_)
  subst hp
  have hP : va_P D vwCl [(a0, .inr (cTo, tl_fs w b L (nI k) x10 x11 x12 x13 x14))] H1 := hP.kept (fun x q hx9 => hq q.1 (hP x q hx9).lt (fun z => z))
  refine lv_aload_n hx hb dX5_draw_14 rfl (lv_at hl 0 rfl) ?_
  refine va_get (D := D) (ci := cTo) (C := RX5) (T := TX5) (N := 15) (v := .int (nI k)) hx hb hts (by decide +kernel) hown hK hP 0 rfl rfl 2 (by decide) (hts (.fieldLink RX5 53 "WaxrowLaw$Told" "draws" "I") (by decide +kernel)) (fun _ h9 => h9) rfl dX5_draw_15 ?_
  refine lv_bipush (v := 24) hx hb dX5_draw_18 (by decide) ?_
  refine lv_idiv hx hb dX5_draw_20 (by decide) ?_
  refine lv_bipush (v := 8) hx hb dX5_draw_21 (by decide) ?_
  refine lv_irem hx hb dX5_draw_23 (by decide) ?_
  have e8 : nI k / 24 - nI k / 24 / 8 * 8 = nI (k / 24 % 8) := by
    have e1 : nI k / (24 : Int32) = nI (k / 24) := pf_div (by omega) 24 (by decide) (by decide)
    rw [e1]
    exact tl_rem (m := 8) (by omega) (by decide) (by decide)
  rw [e8]
  refine lv_ishr hx hb dX5_draw_24 ?_
  refine lv_sipush (v := 373) hx hb dX5_draw_25 (by decide) ?_
  refine lv_aload_n hx hb dX5_draw_28 rfl (lv_at hl 0 rfl) ?_
  refine va_get (D := D) (ci := cTo) (C := RX5) (T := TX5) (N := 15) (v := .int (nI k)) hx hb hts (by decide +kernel) hown hK hP 0 rfl rfl 2 (by decide) (hts (.fieldLink RX5 53 "WaxrowLaw$Told" "draws" "I") (by decide +kernel)) (fun _ h9 => h9) rfl dX5_draw_29 ?_
  refine lv_imul hx hb dX5_draw_32 ?_
  refine lv_iadd hx hb dX5_draw_33 ?_
  refine lv_iload_n hx hb dX5_draw_34 rfl (lv_at hl 1 rfl) ?_
  refine va_calli (va_runSN (As := [.int (tl_cel xs N (k % 24) >>> (nI (k / 24 % 8) &&& 31) + 373 * nI k), .int n]) (rest := []) ⟨hx, hb, hml, hown, hts⟩ (kL_below l _ n hn) ⟨va_cnB 2 hts gX5_draw_L_below_n62 rfl rfl rfl hN2 (hts (.initialized RL) (by decide +kernel)) (by decide +kernel) ⟨Nat.le_of_ble_eq_true rfl, Nat.le_of_ble_eq_true rfl⟩, hts (.static yL_below) (by decide +kernel), trivial⟩ ⟨tl_none, fun U hU hW2 => ⟨rfl, trivial⟩⟩ rfl rfl hl.1 rfl (lv_room (Nat.le_of_ble_eq_true rfl)) dX5_draw_35 ⟨Nat.le_of_ble_eq_true rfl, Nat.le_of_ble_eq_true rfl⟩) hS (fun q _ h => h.elim) (fun q h => h.elim) (fun r u t H2 locs ht2 _ hp _ _ hq2 hS => ?_)
  subst hp
  have hP : va_P D vwCl [(a0, .inr (cTo, tl_fs w b L (nI k) x10 x11 x12 x13 x14))] H2 := hP.kept (fun x q hx9 => hq2 q.1 (hP x q hx9).lt (fun z => z))
  have hD : va_D (fun q => q = a0) [(a0, .inr (cTo, tl_fs w b L (nI k) x10 x11 x12 x13 x14))] := by
    refine ⟨fun i j p q h1 h2 _ => ?_, fun x q hq9 => ?_⟩
    · have z1 : i < 1 := (List.getElem?_eq_some_iff.mp h1).1
      have z2 : j < 1 := (List.getElem?_eq_some_iff.mp h2).1
      omega
    · have z1 : x < 1 := (List.getElem?_eq_some_iff.mp hq9).1
      rw [show x = 0 by omega] at hq9
      cases hq9
      rfl
  refine lv_istore_n (lv' := [(2, .int (tl_v xs N k n)), (0, .ref a0), (1, .int n)]) hx hb dX5_draw_38 rfl hl (by decide) rfl (fun ls hl => ?_)
  refine lv_aload_n hx hb dX5_draw_39 rfl (lv_at hl 1 rfl) ?_
  refine lv_dup hx hb dX5_draw_40 rfl ?_
  refine va_get (D := D) (ci := cTo) (C := RX5) (T := TX5) (N := 15) (v := .int (nI k)) hx hb hts (by decide +kernel) hown hK hP 0 rfl rfl 2 (by decide) (hts (.fieldLink RX5 53 "WaxrowLaw$Told" "draws" "I") (by decide +kernel)) (fun _ h9 => h9) rfl dX5_draw_41 ?_
  refine lv_iconst (v := 1) hx hb dX5_draw_44 (by decide) ?_
  refine lv_iadd hx hb dX5_draw_45 ?_
  rw [nI_1]
  refine va_put (ci := cTo) (C := RX5) (T := TX5) (N := 15) (ty := .int) hx hb hts (by decide +kernel) tyX5 tyX5_ok nmX5 hown hK hP hD hS 0 rfl rfl 2 (by decide) (hts (.fieldLink RX5 53 "WaxrowLaw$Told" "draws" "I") (by decide +kernel)) (fun _ h9 => h9) rfl (by decide +kernel) rfl rfl (Nat.le_of_ble_eq_true rfl) dX5_draw_46 (fun H locs hP hD hS => ?_)
  refine lv_iload_n hx hb dX5_draw_49 rfl (lv_at hl 0 rfl) ?_
  exact W.iret (v := tl_v xs N k n) hx hb hr (fun t ht hW9 => ⟨⟨tl_v xs N k n, (), rfl, rfl, by show va_P D vwCl _ t.heap; rw [ht]; exact hP⟩, hS.F ht⟩) hS.2.2 dX5_draw_50
section TLDR
variable {p : Program} {l : Launch} {e : Env} {R : Room} {s : State} {m : MethodId} {args : Array Value} {below : List Frame} {meth : Method} {c0 : Code} {H : Heap} {locs : List Loc} {cells slots : Nat} {Q : State → Prop}
variable {cc : ByteArray} {pc : Nat} {ls : Array Slot} {rest : List Value} {D : va_G} {d : hs_Dm} {a0 w b : Nat} {cB : ClassId} {Lh L2 L : hs_Lo} {Ah A : Nat → Prop} {N : Nat} {xs : Nat → Int32} {n : Nat → Nat} {c σ : hs_St}
variable {bytes : ByteArray} {maxL nL na index : Nat} {ret : Option FieldType} {Ts : List Cond} {own : String} {st : List Value}
theorem tl_A0 {H : Heap} (hB : tl_B D d a0 w b cB Lh Ah A L n c σ H) : A a0 := by
  have := hB.1.2.1 0 0 (tl_ixO (by decide))
  rw [hB.2.2.2.2] at this
  exact this
theorem tl_draw {k : Nat} {x : Int32} (S : CallFix p m c0 cc nL s args Ts own) (cw : CallW R s args own RX5 index yX5_draw bytes maxL ret wsX5_draw ({ frames := 1, cells := 0, slots := 0, locals := 30 }) 0 0 na) (hk : c 0 0 2 = nI k) (hk30 : k < 2 ^ 30) (hN : N < 2 ^ 31) (hx0 : ¬ x = 0) (hKK : tl_K D d w b cB Lh L2 A N xs s s.heap) (hH : tl_H w b Ah A s.heap.size) (hB : tl_B D d a0 w b cB Lh Ah A L n c σ H) (hS : va_S A s.heap H locs) (hn : 1 = na) (hsize : ls.size = nL) (hrest : (rest.map fun v => v.category).sum ≤ 8) (hdg : decode cc pc = .ok (.invokevirtual index, 3)) (hf : cells + 0 ≤ R.cells ∧ slots + 0 ≤ R.slots) (hst : st = .int x :: .ref a0 :: rest)
    (kk : ∀ (H1 : Heap) (locs1 : List Loc), tl_B D d a0 w b cB Lh Ah A L n (hs_sg c 0 0 2 (nI (k + 1))) σ H1 → H.size ≤ H1.size → (∀ q : Nat, q < H.size → q ≠ a0 → H1[q]? = H[q]?) → va_S A s.heap H1 locs1 → W p l e R s m args below meth c0 H1 locs1 cells slots Q (F0 m (pc + 3) ls (.int (tl_v xs N k x) :: rest))) : W p l e R s m args below meth c0 H locs cells slots Q (F0 m pc ls st) := by
  subst hst
  have hA0 : A a0 := tl_A0 hB
  have hba : b ≠ a0 := fun z => hH.2.2.2.1 (by rw [z]; exact hA0)
  have hP : va_P D vwCl [(a0, .inr (cTo, tl_fs w b L (nI k) (c 0 0 10) (c 0 0 11) (c 0 0 12) (c 0 0 13) (c 0 0 14)))] H := by
    have := tl_pO hB
    rw [hk] at this
    exact this
  refine va_calli (va_runV (As := [.int x]) S (kX5_draw l D d a0 w b N xs L k (c 0 0 10) (c 0 0 11) (c 0 0 12) (c 0 0 13) (c 0 0 14) x hk30 hN hx0 hba) cw ⟨tl_Dc_blind, va_recv hKK.1 (tl_pO hB) (q0 := 0) (show vwCl[cTo]? = some (RX5, TX5, 15) from rfl) rfl, fun U hU hW9 => ⟨rfl, by rw [hU]; exact hP, va_K.moved hW9.alike hKK.1, ⟨by rw [hU]; exact (va_X.moved hW9.alike hKK.2.2.2.2.2.1).kept (hS.2.1 b hH.2.2.2.2.2 hH.2.2.2.1), by rw [hU]; exact Nat.lt_of_lt_of_le hH.2.2.2.2.2 hS.1⟩, va_Nw.warmM hW9 hKK.2.2.2.2.2.2.1, va_Nw.warmM hW9 hKK.2.2.2.2.2.2.2⟩⟩ rfl hn hsize rfl (lv_room hrest) hdg hf) hS (fun q _ z => by rw [z]; exact hA0) (fun q z => by rw [z]; exact hA0) (fun r u t H1 locs1 ht _ hp hB1 hz hq hS1 => ?_)
  subst hp
  rw [ht] at hB1
  refine kk H1 locs1 (hB.putG (k := 0) (i := 0) (tl_ixO (by decide)) ?_ hz (fun q h1 h2 => hq q h1 (fun z => h2 (by rw [hB.2.2.2.2]; exact z))) (fun k' i' _ hn j => by unfold hs_sg; rw [if_neg (fun z => hn ⟨z.1, z.2.1⟩)])) hz (fun q h1 h2 => hq q h1 h2) hS1
  rw [tl_ct0, hB.2.2.2.2]
  exact hB1 0 _ rfl
end TLDR
