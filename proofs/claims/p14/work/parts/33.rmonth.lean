/-! THE REFERENCE'S MONTH, WEAR, TRAVEL -/
def mp_sig (x : Int32) : Int32 := (x >>> (31 &&& 31)) ||| ((- x).toUInt32 >>> ((31 : Int32).toUInt32 &&& Int32.toUInt32 31)).toInt32
theorem kJ6_signum (l : Launch) (x : Int32) : Met l yJ6_signum_0f7a4 wsJ6_signum_0f7a4 ({ frames := 0, cells := 0, slots := 0, locals := 0 }) (va_Pc [.int x] (fun _ => True)) (va_Qi (fun r (_ : Unit) => r = mp_sig x) (fun _ _ => True) (fun _ => False)) 0 0 (fun _ => False) := by
  refine Met.ofW (cc := cJ6_signum_0f7a4) (maxL := 1) (ret := (some .int)) (by decide) rfl ?_
  intro p e s m args below meth c0 s₁ B hml hv
  obtain ⟨rfl, -⟩ := hv
  have hx := B.exec
  have hb := B.bytes
  have hr := B.returns
  have hlocks := B.notSynchronized
  have hS : va_S (fun _ => False) s.heap s.heap [] := va_S.rf
  have hl := lv_entry ([.int x]) (n := 1) (Nat.le_of_ble_eq_true rfl)
  rw [lg_entry_eq]
  generalize (lg_sl ([.int x]) ++ List.replicate (1 - (lg_sl ([.int x])).length) Slot.unset).toArray = ls at hl ⊢
  have hl : lv_has ls 1 [(0, .int x)] := hl
  refine lv_iload_n hx hb dJ6_signum_0f7a4_0 rfl (lv_at hl 0 rfl) ?_
  refine lv_bipush (v := 31) hx hb dJ6_signum_0f7a4_1 (by decide) ?_
  refine lv_ishr hx hb dJ6_signum_0f7a4_3 ?_
  refine lv_iload_n hx hb dJ6_signum_0f7a4_4 rfl (lv_at hl 0 rfl) ?_
  refine lv_ineg hx hb dJ6_signum_0f7a4_5 ?_
  refine lv_bipush (v := 31) hx hb dJ6_signum_0f7a4_6 (by decide) ?_
  refine lv_iushr (v := ((- x).toUInt32 >>> ((31 : Int32).toUInt32 &&& Int32.toUInt32 31)).toInt32) hx hb dJ6_signum_0f7a4_8 rfl ?_
  refine lv_ior hx hb dJ6_signum_0f7a4_9 ?_
  exact W.iret (v := mp_sig x) hx hb hr (fun t ht hW9 => ⟨⟨mp_sig x, (), rfl, rfl, trivial⟩, hS.F ht⟩) hS.2.2 dJ6_signum_0f7a4_10
def mp_month (g : Nat → Int32) (j : Nat) : Nat → Int32 := upd (upd g j (mp_held (g j + g (3 + j)) 999)) (3 + j) (upd g j (mp_held (g j + g (3 + j)) 999) (3 + j) - mp_sig (upd g j (mp_held (g j + g (3 + j)) 999) (3 + j)))
def mo_C (D : va_G) (d : hs_Dm) (a : Nat) (g : Nat → Int32) (U : State) : Prop := va_at D vwCl (a, .inl (d.1, 9, .inl g)) U.heap ∧ va_K D vwCl (hs_ty d) U ∧ va_Nw (.methodLinkNest RX5 99 yX6_held RX6) U
theorem mo_blind {D : va_G} {d : hs_Dm} {a : Nat} {g : Nat → Int32} {av : List Value} : FrameBlind (va_Pc av (mo_C D d a g)) := fun b U g9 mk q => by
  obtain ⟨q0, q1, q2, q3⟩ := q
  exact ⟨q0, q1, va_K.moved (u := U) (U := U.calling g9 mk b) (Vm.Alike.refl U.vm) q2, va_Nw.same (u := U) (U := U.calling g9 mk b) rfl rfl q3⟩
section MOR
variable {p : Program} {l : Launch} {e : Env} {R : Room} {s : State} {m : MethodId} {args : Array Value} {below : List Frame} {meth : Method} {c0 : Code} {H : Heap} {locs : List Loc} {cells slots : Nat} {Q : State → Prop}
variable {cc : ByteArray} {pc : Nat} {ls : Array Slot} {rest : List Value} {D : va_G} {d : hs_Dm} {A : Nat → Prop}
variable {y : MethodName} {bytes : ByteArray} {maxL nL na index : Nat} {ret : Option FieldType} {ws : List Cond} {rm : Room} {Ts : List Cond} {own host : String} {As st : List Value}
theorem mo_nest {post : Int32 → Prop} {a n : Nat} {g : Nat → Int32} (S : CallFix p m c0 cc nL s args Ts own) (hM : Met l y ws rm (va_Pc As (fun _ => True)) (va_Qi (fun r (_ : Unit) => post r) (fun _ _ => True) (fun _ => False)) 0 0 (fun _ => False)) (cw : va_CN R s args own index y host bytes maxL ret ws rm 0 0 na ∧ (Cond.static y).before args s = true ∧ True) (hv : va_at D vwCl (a, .inl (d.1, n, .inl g)) H) (hS : va_S A s.heap H locs) (hn : As.length = na) (hsize : ls.size = nL) (hrest : (rest.map fun v => v.category).sum ≤ 8) (hdg : decode cc pc = .ok (.invokestatic index, 3)) (hf : cells + 0 ≤ R.cells ∧ slots + 0 ≤ R.slots) (hst : st = As.reverse ++ rest)
    (kk : ∀ (r : Int32) (H1 : Heap) (locs1 : List Loc), post r → va_at D vwCl (a, .inl (d.1, n, .inl g)) H1 → va_S A s.heap H1 locs1 → W p l e R s m args below meth c0 H1 locs1 cells slots Q (F0 m (pc + 3) ls (.int r :: rest))) : W p l e R s m args below meth c0 H locs cells slots Q (F0 m pc ls st) := by
  subst hst
  exact va_calli (va_runSN S hM cw ⟨fun a U g mk q => q, fun U hU hW2 => ⟨rfl, trivial⟩⟩ rfl hn hsize rfl (lv_room hrest) hdg hf) hS (fun q _ h => h.elim) (fun q h => h.elim) (fun r u t H1 locs1 ht _ hp _ hz hq hS1 => kk r H1 locs1 hp (hv.kept (hq _ hv.lt (fun z => z))) hS1)
theorem mo_pure {post : Int32 → Prop} {a n : Nat} {g : Nat → Int32} (S : CallFix p m c0 cc nL s args Ts own) (hM : Met l y ws rm (va_Pc As (fun _ => True)) (va_Qi (fun r (_ : Unit) => post r) (fun _ _ => True) (fun _ => False)) 0 0 (fun _ => False)) (cw : CallB R s args own index y bytes maxL ret ws rm 0 0 na ∧ (Cond.static y).before args s = true) (hv : va_at D vwCl (a, .inl (d.1, n, .inl g)) H) (hS : va_S A s.heap H locs) (hn : As.length = na) (hsize : ls.size = nL) (hrest : (rest.map fun v => v.category).sum ≤ 8) (hdg : decode cc pc = .ok (.invokestatic index, 3)) (hf : cells + 0 ≤ R.cells ∧ slots + 0 ≤ R.slots) (hst : st = As.reverse ++ rest)
    (kk : ∀ (r : Int32) (H1 : Heap) (locs1 : List Loc), post r → va_at D vwCl (a, .inl (d.1, n, .inl g)) H1 → va_S A s.heap H1 locs1 → W p l e R s m args below meth c0 H1 locs1 cells slots Q (F0 m (pc + 3) ls (.int r :: rest))) : W p l e R s m args below meth c0 H locs cells slots Q (F0 m pc ls st) := by
  subst hst
  exact va_calli (va_runS S hM cw ⟨fun a U g mk q => q, fun U hU hW2 => ⟨rfl, trivial⟩⟩ rfl hn hsize rfl (lv_room hrest) hdg hf) hS (fun q _ h => h.elim) (fun q h => h.elim) (fun r u t H1 locs1 ht _ hp _ hz hq hS1 => kk r H1 locs1 hp (hv.kept (hq _ hv.lt (fun z => z))) hS1)
end MOR
set_option maxHeartbeats 4000000 in
set_option maxRecDepth 100000 in
/-- the reference: a month of one fame -/
theorem kX5_month (l : Launch) (D : va_G) (d : hs_Dm) (a : Nat) (g : Nat → Int32) (j : Nat) (hj : j < 3) : Met l yX5_month wsX5_month ({ frames := 2, cells := 0, slots := 0, locals := 60 } : Room) (va_Pc [.ref a, .int (nI j)] (mo_C D d a g)) (va_Qv (fun _ : Unit => True) (fun _ t => va_at D vwCl (a, .inl (d.1, 9, .inl (mp_month g j))) t.heap) (fun q => q = a)) 0 0 (fun q => q = a) := by
  refine Met.ofW (cc := cX5_month) (maxL := 2) (ret := none) (by decide) rfl ?_
  intro p e s m args below meth c0 s₁ B hml hv
  obtain ⟨rfl, hv, hK, hN⟩ := hv
  have hx := B.exec
  have hb := B.bytes
  have hr := B.returns
  have hts := atoms_spec (ws := wsX5_month) B.pre
  have hown : s.vm.findClass RX5 = some m.cls := findClass_of_methodNamed B.named
  have hlocks := B.notSynchronized
  have hS : va_S (fun q => q = a) s.heap s.heap [] := va_S.rf
  have hl := lv_entry ([.ref a, .int (nI j)]) (n := 2) (Nat.le_of_ble_eq_true rfl)
  rw [lg_entry_eq]
  generalize (lg_sl ([.ref a, .int (nI j)]) ++ List.replicate (2 - (lg_sl ([.ref a, .int (nI j)])).length) Slot.unset).toArray = ls at hl ⊢
  have hl : lv_has ls 2 [(0, .ref a), (1, .int (nI j))] := hl
  refine lv_aload_n hx hb dX5_month_0 rfl (lv_at hl 0 rfl) ?_
  refine lv_iload_n hx hb dX5_month_1 rfl (lv_at hl 1 rfl) ?_
  refine lv_aload_n hx hb dX5_month_2 rfl (lv_at hl 0 rfl) ?_
  refine lv_iload_n hx hb dX5_month_3 rfl (lv_at hl 1 rfl) ?_
  refine mh_niald hx hb hK hv (i := nI j) (by unfold vp_in; exact nI_in (show j < 9 by omega) (by decide)) dX5_month_4 ?_
  rw [nI_clamp (show j < 2 ^ 31 by omega)]
  refine lv_aload_n hx hb dX5_month_5 rfl (lv_at hl 0 rfl) ?_
  refine lv_iconst (v := 3) hx hb dX5_month_6 (by decide) ?_
  refine lv_iload_n hx hb dX5_month_7 rfl (lv_at hl 1 rfl) ?_
  refine lv_iadd hx hb dX5_month_8 ?_
  rw [show (3 : Int32) + nI j = nI (3 + j) from nI_add 3 j]
  refine mh_niald hx hb hK hv (i := nI (3 + j)) (by unfold vp_in; exact nI_in (show 3 + j < 9 by omega) (by decide)) dX5_month_9 ?_
  rw [nI_clamp (show 3 + j < 2 ^ 31 by omega)]
  refine lv_iadd hx hb dX5_month_10 ?_
  refine lv_sipush (v := 999) hx hb dX5_month_11 (by decide) ?_
  refine mo_nest (As := [.int ((g j) + (g (3 + j))), .int 999]) ⟨hx, hb, hml, hown, hts⟩ (kX6_held l ((g j) + (g (3 + j))) 999) ⟨va_cnB 2 hts gX5_month_X6_held_n99 rfl rfl rfl hN (hts (.initialized RX6) (by decide +kernel)) (by decide +kernel) ⟨Nat.le_of_ble_eq_true rfl, Nat.le_of_ble_eq_true rfl⟩, hts (.static yX6_held) (by decide +kernel), trivial⟩ hv hS rfl hl.1 (Nat.le_of_ble_eq_true rfl) dX5_month_14 ⟨Nat.le_of_ble_eq_true rfl, Nat.le_of_ble_eq_true rfl⟩ rfl (fun r_ H locs hp hv hS => ?_)
  subst hp
  refine nd_iast hx hb hK hS hv rfl (i := nI j) (x := mp_held ((g j) + (g (3 + j))) 999) (by unfold vp_in; exact nI_in (show j < 9 by omega) (by decide)) dX5_month_17 (fun H locs hv hz hq hS => ?_)
  rw [nI_clamp (show j < 2 ^ 31 by omega)] at hv
  refine lv_aload_n hx hb dX5_month_18 rfl (lv_at hl 0 rfl) ?_
  refine lv_iconst (v := 3) hx hb dX5_month_19 (by decide) ?_
  refine lv_iload_n hx hb dX5_month_20 rfl (lv_at hl 1 rfl) ?_
  refine lv_iadd hx hb dX5_month_21 ?_
  rw [show (3 : Int32) + nI j = nI (3 + j) from nI_add 3 j]
  refine lv_dup2_11 hx hb dX5_month_22 rfl rfl ?_
  refine mh_niald hx hb hK hv (i := nI (3 + j)) (by unfold vp_in; exact nI_in (show 3 + j < 9 by omega) (by decide)) dX5_month_23 ?_
  rw [nI_clamp (show 3 + j < 2 ^ 31 by omega)]
  refine lv_aload_n hx hb dX5_month_24 rfl (lv_at hl 0 rfl) ?_
  refine lv_iconst (v := 3) hx hb dX5_month_25 (by decide) ?_
  refine lv_iload_n hx hb dX5_month_26 rfl (lv_at hl 1 rfl) ?_
  refine lv_iadd hx hb dX5_month_27 ?_
  rw [show (3 : Int32) + nI j = nI (3 + j) from nI_add 3 j]
  refine mh_niald hx hb hK hv (i := nI (3 + j)) (by unfold vp_in; exact nI_in (show 3 + j < 9 by omega) (by decide)) dX5_month_28 ?_
  rw [nI_clamp (show 3 + j < 2 ^ 31 by omega)]
  refine mo_pure (As := [.int ((upd g j (mp_held ((g j) + (g (3 + j))) 999)) (3 + j))]) ⟨hx, hb, hml, hown, hts⟩ (kJ6_signum l ((upd g j (mp_held ((g j) + (g (3 + j))) 999)) (3 + j))) (va_cwS 1 hts gX5_month_J6_signum_0f7a4 rfl rfl rfl (by decide +kernel) ⟨Nat.le_of_ble_eq_true rfl, Nat.le_of_ble_eq_true rfl⟩) hv hS rfl hl.1 (Nat.le_of_ble_eq_true rfl) dX5_month_29 ⟨Nat.le_of_ble_eq_true rfl, Nat.le_of_ble_eq_true rfl⟩ rfl (fun r_ H locs hp hv hS => ?_)
  subst hp
  refine lv_isub hx hb dX5_month_32 ?_
  refine nd_iast hx hb hK hS hv rfl (i := nI (3 + j)) (x := ((upd g j (mp_held ((g j) + (g (3 + j))) 999)) (3 + j)) - (mp_sig ((upd g j (mp_held ((g j) + (g (3 + j))) 999)) (3 + j)))) (by unfold vp_in; exact nI_in (show 3 + j < 9 by omega) (by decide)) dX5_month_33 (fun H locs hv hz hq hS => ?_)
  rw [nI_clamp (show 3 + j < 2 ^ 31 by omega)] at hv
  exact W.vret hx hb hr (fun t ht hW9 => ⟨⟨(), rfl, trivial, by show va_at D vwCl (a, .inl (d.1, 9, .inl (mp_month g j))) t.heap; rw [ht]; exact hv⟩, hS.F ht⟩) hS.2.2 dX5_month_34
def mp_worn (ρ : hs_St) (f h r : Nat) (x z : Int32) : hs_St := hs_sg (hs_sg (hs_sg ρ 14 f 10 (ρ 14 f 10 + x)) 11 h 7 (ρ 11 h 7 + x / 100)) 14 f 6 (mp_held (ρ 14 f 6 + x / 50 + ρ 5 0 r / 3 + mp_max 0 (z - 25) * ρ 5 0 r / 10) 100)
def mp_wear (ρ : hs_St) (f h r : Nat) (x z : Int32) : Int32 × hs_St := if 100 ≤ mp_worn ρ f h r x z 14 f 6 then (1, hs_sg (mp_worn ρ f h r x z) 14 f 7 7) else (0, mp_worn ρ f h r x z)
set_option maxHeartbeats 4000000 in
set_option maxRecDepth 100000 in
/-- the reference: X5_wear -/
theorem kX5_wear (l : Launch) (D : va_G) (d : hs_Dm) (cB : ClassId) (L : hs_Lo) (ρ : hs_St) (A : Nat → Prop) (sz : Nat) (f : Nat) (hf : f < 8) (h0 : Nat) (h0l : h0 < 10) (h0e : ρ 14 f 0 = nI h0) (r0 : Nat) (r0l : r0 < 5) (r0e : ρ 14 f 7 = nI r0) (x z : Int32) : mh_Mi l yX5_wear wsX5_wear ({ frames := 2, cells := 0, slots := 0, locals := 60 } : Room) D d cB L ρ A sz [.ref (L 0 0), .ref (L 14 f), .int x, .int z] (fun r τ => mp_wear ρ f h0 r0 x z = (r, τ)) 0 0 := by
  refine Met.ofW (cc := cX5_wear) (maxL := 5) (ret := (some .int)) (by decide) rfl ?_
  intro p e s m args below meth c0 s₁ B hml hv
  obtain ⟨rfl, hsz, hW, hKK⟩ := hv
  have hx := B.exec
  have hb := B.bytes
  have hr := B.returns
  have hts := atoms_spec (ws := wsX5_wear) B.pre
  have hown : s.vm.findClass RX5 = some m.cls := findClass_of_methodNamed B.named
  have hlocks := B.notSynchronized
  have hS : va_S A s.heap s.heap [] := va_S.rf
  have hl := lv_entry ([.ref (L 0 0), .ref (L 14 f), .int x, .int z]) (n := 5) (Nat.le_of_ble_eq_true rfl)
  rw [lg_entry_eq]
  generalize (lg_sl ([.ref (L 0 0), .ref (L 14 f), .int x, .int z]) ++ List.replicate (5 - (lg_sl ([.ref (L 0 0), .ref (L 14 f), .int x, .int z])).length) Slot.unset).toArray = ls at hl ⊢
  have hl : lv_has ls 5 [(0, .ref (L 0 0)), (1, .ref (L 14 f)), (2, .int x), (3, .int z)] := hl
  refine lv_aload_n hx hb dX5_wear_0 rfl (lv_at hl 0 rfl) ?_
  refine mh_get hx hb hts (by decide +kernel) hown hKK.1 hW 4 (by decide) (hts (.fieldLink RX5 25 "WaxrowModel$House" "lamps" "[I") (by decide +kernel)) rfl (v := .ref (L 5 0)) rfl dX5_wear_1 ?_
  refine lv_aload_n hx hb dX5_wear_4 rfl (lv_at hl 1 rfl) ?_
  refine lv_bipush (v := 7) hx hb dX5_wear_5 (by decide) ?_
  refine mh_iald hx hb hKK.1 hW 14 f (by decide) (mh_ixR (k := 4) (by decide) (by decide) (by show f < mh_n 4; unfold mh_n; simp; omega)) (i := 7) (by unfold vp_in; decide) dX5_wear_7 ?_
  rw [show (7 : Int32).toNatClampNeg = 7 from by decide]
  rw [r0e]
  refine mh_iald hx hb hKK.1 hW 5 0 (by decide) (mh_ixO (by decide)) (i := nI r0) (by unfold vp_in; exact nI_in (show r0 < 5 by omega) (by decide)) dX5_wear_8 ?_
  rw [show (nI r0 : Int32).toNatClampNeg = r0 from nI_clamp (by omega)]
  refine lv_istore (lv' := [(4, .int (ρ 5 0 r0)), (0, .ref (L 0 0)), (1, .ref (L 14 f)), (2, .int x), (3, .int z)]) hx hb dX5_wear_9 hl (by decide) rfl (fun ls hl => ?_)
  refine lv_aload_n hx hb dX5_wear_11 rfl (lv_at hl 2 rfl) ?_
  refine lv_bipush (v := 10) hx hb dX5_wear_12 (by decide) ?_
  refine lv_dup2_11 hx hb dX5_wear_14 rfl rfl ?_
  refine mh_iald hx hb hKK.1 hW 14 f (by decide) (mh_ixR (k := 4) (by decide) (by decide) (by show f < mh_n 4; unfold mh_n; simp; omega)) (i := 10) (by unfold vp_in; decide) dX5_wear_15 ?_
  rw [show (10 : Int32).toNatClampNeg = 10 from by decide]
  refine lv_iload_n hx hb dX5_wear_16 rfl (lv_at hl 3 rfl) ?_
  refine lv_iadd hx hb dX5_wear_17 ?_
  refine mh_iast hx hb hKK.1 hW hS 14 f (by decide) (mh_ixR (k := 4) (by decide) (by decide) (by show f < mh_n 4; unfold mh_n; simp; omega)) (i := 10) (x := (ρ 14 f 10) + x) (by unfold vp_in; decide) dX5_wear_18 (fun H locs hW hS hz hq => ?_)
  rw [show (10 : Int32).toNatClampNeg = 10 from by decide] at hW
  have hW : mh_W D d.1 cB L (hs_sg ρ 14 f 10 ((ρ 14 f 10) + x)) A H := hW
  refine lv_aload_n hx hb dX5_wear_19 rfl (lv_at hl 1 rfl) ?_
  refine mh_get hx hb hts (by decide +kernel) hown hKK.1 hW 0 (by decide) (hts (.fieldLink RX5 11 "WaxrowModel$House" "persons" "[[I") (by decide +kernel)) rfl (v := .ref (L 1 0)) rfl dX5_wear_20 ?_
  refine lv_aload_n hx hb dX5_wear_23 rfl (lv_at hl 2 rfl) ?_
  refine lv_iconst (v := 0) hx hb dX5_wear_24 (by decide) ?_
  refine mh_iald hx hb hKK.1 hW 14 f (by decide) (mh_ixR (k := 4) (by decide) (by decide) (by show f < mh_n 4; unfold mh_n; simp; omega)) (i := 0) (by unfold vp_in; decide) dX5_wear_25 ?_
  rw [show (0 : Int32).toNatClampNeg = 0 from by decide]
  rw [show (hs_sg ρ 14 f 10 ((ρ 14 f 10) + x)) 14 f 0 = nI h0 from by rw [pc9, if_neg (by omega)]; exact h0e]
  refine mh_aald hx hb hKK.2.1 hW 1 h0 (by decide) (by decide) (by show h0 < mh_n 1; unfold mh_n; simp; omega) dX5_wear_26 ?_
  refine lv_bipush (v := 7) hx hb dX5_wear_27 (by decide) ?_
  refine lv_dup2_11 hx hb dX5_wear_29 rfl rfl ?_
  refine mh_iald hx hb hKK.1 hW 11 h0 (by decide) (mh_ixR (k := 1) (by decide) (by decide) (by show h0 < mh_n 1; unfold mh_n; simp; omega)) (i := 7) (by unfold vp_in; decide) dX5_wear_30 ?_
  rw [show (7 : Int32).toNatClampNeg = 7 from by decide]
  rw [show (hs_sg ρ 14 f 10 ((ρ 14 f 10) + x)) 11 h0 7 = ρ 11 h0 7 from by rw [pc9, if_neg (by omega)]]
  refine lv_iload_n hx hb dX5_wear_31 rfl (lv_at hl 3 rfl) ?_
  refine lv_bipush (v := 100) hx hb dX5_wear_32 (by decide) ?_
  refine lv_idiv hx hb dX5_wear_34 (by decide) ?_
  refine lv_iadd hx hb dX5_wear_35 ?_
  refine mh_iast hx hb hKK.1 hW hS 11 h0 (by decide) (mh_ixR (k := 1) (by decide) (by decide) (by show h0 < mh_n 1; unfold mh_n; simp; omega)) (i := 7) (x := (ρ 11 h0 7) + (x / 100)) (by unfold vp_in; decide) dX5_wear_36 (fun H locs hW hS hz hq => ?_)
  rw [show (7 : Int32).toNatClampNeg = 7 from by decide] at hW
  have hW : mh_W D d.1 cB L (hs_sg (hs_sg ρ 14 f 10 ((ρ 14 f 10) + x)) 11 h0 7 ((ρ 11 h0 7) + (x / 100))) A H := hW
  refine lv_aload_n hx hb dX5_wear_37 rfl (lv_at hl 2 rfl) ?_
  refine lv_bipush (v := 6) hx hb dX5_wear_38 (by decide) ?_
  refine lv_aload_n hx hb dX5_wear_40 rfl (lv_at hl 2 rfl) ?_
  refine lv_bipush (v := 6) hx hb dX5_wear_41 (by decide) ?_
  refine mh_iald hx hb hKK.1 hW 14 f (by decide) (mh_ixR (k := 4) (by decide) (by decide) (by show f < mh_n 4; unfold mh_n; simp; omega)) (i := 6) (by unfold vp_in; decide) dX5_wear_43 ?_
  rw [show (6 : Int32).toNatClampNeg = 6 from by decide]
  rw [show (hs_sg (hs_sg ρ 14 f 10 ((ρ 14 f 10) + x)) 11 h0 7 ((ρ 11 h0 7) + (x / 100))) 14 f 6 = ρ 14 f 6 from by rw [pc9, if_neg (by omega), pc9, if_neg (by omega)]]
  refine lv_iload_n hx hb dX5_wear_44 rfl (lv_at hl 3 rfl) ?_
  refine lv_bipush (v := 50) hx hb dX5_wear_45 (by decide) ?_
  refine lv_idiv hx hb dX5_wear_47 (by decide) ?_
  refine lv_iadd hx hb dX5_wear_48 ?_
  refine lv_iload hx hb dX5_wear_49 (lv_at hl 0 rfl) ?_
  refine lv_iconst (v := 3) hx hb dX5_wear_51 (by decide) ?_
  refine lv_idiv hx hb dX5_wear_52 (by decide) ?_
  refine lv_iadd hx hb dX5_wear_53 ?_
  refine lv_iconst (v := 0) hx hb dX5_wear_54 (by decide) ?_
  refine lv_iload_n hx hb dX5_wear_55 rfl (lv_at hl 4 rfl) ?_
  refine lv_bipush (v := 25) hx hb dX5_wear_56 (by decide) ?_
  refine lv_isub hx hb dX5_wear_58 ?_
  refine va_mmax hx hb (by rw [hml]; exact hl.1.symm) hown (hts (.methodLink RX5 81 Lib.Math.max.name) (by decide +kernel)) (hts (.static Lib.Math.max.name) (by decide +kernel)) (hts (.initialized "java/lang/Math") (by decide +kernel)) (hts (.code Lib.Math.max.name Lib.Math.max.code 2 (some .int)) (by decide +kernel)) (Nat.le_of_ble_eq_true rfl) (Nat.le_of_ble_eq_true rfl) (Nat.zero_le _) (Nat.zero_le _) dX5_wear_59 ?_
  refine lv_iload hx hb dX5_wear_62 (lv_at hl 0 rfl) ?_
  refine lv_imul hx hb dX5_wear_64 ?_
  refine lv_bipush (v := 10) hx hb dX5_wear_65 (by decide) ?_
  refine lv_idiv hx hb dX5_wear_67 (by decide) ?_
  refine lv_iadd hx hb dX5_wear_68 ?_
  refine lv_bipush (v := 100) hx hb dX5_wear_69 (by decide) ?_
  refine mh_pureN (As := [.int ((((ρ 14 f 6) + (x / 50)) + ((ρ 5 0 r0) / 3)) + (((if 0 < z - 25 then z - 25 else 0) * (ρ 5 0 r0)) / 10)), .int 100]) ⟨hx, hb, hml, hown, hts⟩ (kX6_held l ((((ρ 14 f 6) + (x / 50)) + ((ρ 5 0 r0) / 3)) + (((if 0 < z - 25 then z - 25 else 0) * (ρ 5 0 r0)) / 10)) (100)) ⟨va_cnB 2 hts gX5_wear_X6_held_n99 rfl rfl rfl hKK.2.2.2.1 (hts (.initialized RX6) (by decide +kernel)) (by decide +kernel) ⟨Nat.le_of_ble_eq_true rfl, Nat.le_of_ble_eq_true rfl⟩, hts (.static yX6_held) (by decide +kernel), trivial⟩ hW hS rfl hl.1 (Nat.le_of_ble_eq_true rfl) dX5_wear_71 ⟨Nat.le_of_ble_eq_true rfl, Nat.le_of_ble_eq_true rfl⟩ rfl (fun r_ H locs hp hW hz hqq hS => ?_)
  subst hp
  refine mh_iast hx hb hKK.1 hW hS 14 f (by decide) (mh_ixR (k := 4) (by decide) (by decide) (by show f < mh_n 4; unfold mh_n; simp; omega)) (i := 6) (x := mp_held ((((ρ 14 f 6) + (x / 50)) + ((ρ 5 0 r0) / 3)) + (((if 0 < z - 25 then z - 25 else 0) * (ρ 5 0 r0)) / 10)) 100) (by unfold vp_in; decide) dX5_wear_74 (fun H locs hW hS hz hq => ?_)
  rw [show (6 : Int32).toNatClampNeg = 6 from by decide] at hW
  have hW : mh_W D d.1 cB L (hs_sg (hs_sg (hs_sg ρ 14 f 10 ((ρ 14 f 10) + x)) 11 h0 7 ((ρ 11 h0 7) + (x / 100))) 14 f 6 (mp_held ((((ρ 14 f 6) + (x / 50)) + ((ρ 5 0 r0) / 3)) + (((if 0 < z - 25 then z - 25 else 0) * (ρ 5 0 r0)) / 10)) 100)) A H := hW
  refine lv_aload_n hx hb dX5_wear_75 rfl (lv_at hl 2 rfl) ?_
  refine lv_bipush (v := 6) hx hb dX5_wear_76 (by decide) ?_
  refine mh_iald hx hb hKK.1 hW 14 f (by decide) (mh_ixR (k := 4) (by decide) (by decide) (by show f < mh_n 4; unfold mh_n; simp; omega)) (i := 6) (by unfold vp_in; decide) dX5_wear_78 ?_
  rw [show (6 : Int32).toNatClampNeg = 6 from by decide]
  refine lv_bipush (v := 100) hx hb dX5_wear_79 (by decide) ?_
  refine lv_icmp_ge (tgt := 86) hx hb dX5_wear_81 (by decide) (fun c_81 => ?_) (fun c_81 => ?_)
  · refine lv_aload_n hx hb dX5_wear_86 rfl (lv_at hl 2 rfl) ?_
    refine lv_bipush (v := 7) hx hb dX5_wear_87 (by decide) ?_
    refine lv_bipush (v := 7) hx hb dX5_wear_89 (by decide) ?_
    refine mh_iast hx hb hKK.1 hW hS 14 f (by decide) (mh_ixR (k := 4) (by decide) (by decide) (by show f < mh_n 4; unfold mh_n; simp; omega)) (i := 7) (x := 7) (by unfold vp_in; decide) dX5_wear_91 (fun H locs hW hS hz hq => ?_)
    rw [show (7 : Int32).toNatClampNeg = 7 from by decide] at hW
    have hW : mh_W D d.1 cB L (hs_sg (hs_sg (hs_sg (hs_sg ρ 14 f 10 ((ρ 14 f 10) + x)) 11 h0 7 ((ρ 11 h0 7) + (x / 100))) 14 f 6 (mp_held ((((ρ 14 f 6) + (x / 50)) + ((ρ 5 0 r0) / 3)) + (((if 0 < z - 25 then z - 25 else 0) * (ρ 5 0 r0)) / 10)) 100)) 14 f 7 (7 : Int32)) A H := hW
    refine lv_iconst (v := 1) hx hb dX5_wear_92 (by decide) ?_
    exact W.iret (v := 1) hx hb hr (fun t ht hW9 => ⟨⟨1, hs_sg (hs_sg (hs_sg (hs_sg ρ 14 f 10 ((ρ 14 f 10) + x)) 11 h0 7 ((ρ 11 h0 7) + (x / 100))) 14 f 6 (mp_held ((((ρ 14 f 6) + (x / 50)) + ((ρ 5 0 r0) / 3)) + (((if 0 < z - 25 then z - 25 else 0) * (ρ 5 0 r0)) / 10)) 100)) 14 f 7 (7 : Int32), rfl, (by show mp_wear ρ f h0 r0 x z = _; exact if_pos c_81), by show mh_W D d.1 cB L _ A t.heap; rw [ht]; exact hW⟩, hS.F ht⟩) hS.2.2 dX5_wear_93
  · refine lv_iconst (v := 0) hx hb dX5_wear_84 (by decide) ?_
    exact W.iret (v := 0) hx hb hr (fun t ht hW9 => ⟨⟨0, hs_sg (hs_sg (hs_sg ρ 14 f 10 ((ρ 14 f 10) + x)) 11 h0 7 ((ρ 11 h0 7) + (x / 100))) 14 f 6 (mp_held ((((ρ 14 f 6) + (x / 50)) + ((ρ 5 0 r0) / 3)) + (((if 0 < z - 25 then z - 25 else 0) * (ρ 5 0 r0)) / 10)) 100), rfl, (by show mp_wear ρ f h0 r0 x z = _; exact if_neg c_81), by show mh_W D d.1 cB L _ A t.heap; rw [ht]; exact hW⟩, hS.F ht⟩) hS.2.2 dX5_wear_85
def mp_trip1 (ρ : hs_St) (f h a : Nat) : hs_St := hs_sg (hs_sg (hs_sg ρ 0 0 12 (ρ 0 0 12 + ρ 11 h a * mp_like ρ f / 1000)) 14 f 6 (mp_min 99 (ρ 14 f 6 + 2))) 14 f 8 (ρ 14 f 8 - 1)
def mp_trip (ρ : hs_St) (f h a : Nat) : hs_St := if mp_trip1 ρ f h a 14 f 8 = 0 then hs_sg (mp_trip1 ρ f h a) 14 f 7 5 else mp_trip1 ρ f h a
set_option maxHeartbeats 4000000 in
set_option maxRecDepth 100000 in
/-- the reference: X5_travel -/
theorem kX5_travel (l : Launch) (D : va_G) (d : hs_Dm) (cB : ClassId) (L : hs_Lo) (ρ : hs_St) (A : Nat → Prop) (sz : Nat) (f : Nat) (hf : f < 8) (h0 : Nat) (h0l : h0 < 10) (h0e : ρ 14 f 0 = nI h0) (hbd : ∃ h, h < 10 ∧ ρ 14 f 1 = nI h) (a0 : Nat) (a0l : a0 < 3) (a0e : ρ 14 f 9 = nI a0) : mh_Mv l yX5_travel wsX5_travel ({ frames := 3, cells := 0, slots := 0, locals := 70 } : Room) D d cB L ρ A sz [.ref (L 0 0), .ref (L 14 f)] (fun τ => mp_trip ρ f h0 a0 = τ) 0 0 := by
  refine Met.ofW (cc := cX5_travel) (maxL := 2) (ret := none) (by decide) rfl ?_
  intro p e s m args below meth c0 s₁ B hml hv
  obtain ⟨rfl, hsz, hW, hKK⟩ := hv
  have hx := B.exec
  have hb := B.bytes
  have hr := B.returns
  have hts := atoms_spec (ws := wsX5_travel) B.pre
  have hown : s.vm.findClass RX5 = some m.cls := findClass_of_methodNamed B.named
  have hlocks := B.notSynchronized
  have hS : va_S A s.heap s.heap [] := va_S.rf
  have hl := lv_entry ([.ref (L 0 0), .ref (L 14 f)]) (n := 2) (Nat.le_of_ble_eq_true rfl)
  rw [lg_entry_eq]
  generalize (lg_sl ([.ref (L 0 0), .ref (L 14 f)]) ++ List.replicate (2 - (lg_sl ([.ref (L 0 0), .ref (L 14 f)])).length) Slot.unset).toArray = ls at hl ⊢
  have hl : lv_has ls 2 [(0, .ref (L 0 0)), (1, .ref (L 14 f))] := hl
  refine lv_aload_n hx hb dX5_travel_0 rfl (lv_at hl 0 rfl) ?_
  refine lv_dup hx hb dX5_travel_1 rfl ?_
  refine mh_get hx hb hts (by decide +kernel) hown hKK.1 hW 12 (by decide) (hts (.fieldLink RX5 36 "WaxrowModel$House" "money" "I") (by decide +kernel)) rfl (v := .int (ρ 0 0 12)) rfl dX5_travel_2 ?_
  refine lv_aload_n hx hb dX5_travel_5 rfl (lv_at hl 0 rfl) ?_
  refine mh_get hx hb hts (by decide +kernel) hown hKK.1 hW 0 (by decide) (hts (.fieldLink RX5 11 "WaxrowModel$House" "persons" "[[I") (by decide +kernel)) rfl (v := .ref (L 1 0)) rfl dX5_travel_6 ?_
  refine lv_aload_n hx hb dX5_travel_9 rfl (lv_at hl 1 rfl) ?_
  refine lv_iconst (v := 0) hx hb dX5_travel_10 (by decide) ?_
  refine mh_iald hx hb hKK.1 hW 14 f (by decide) (mh_ixR (k := 4) (by decide) (by decide) (by show f < mh_n 4; unfold mh_n; simp; omega)) (i := 0) (by unfold vp_in; decide) dX5_travel_11 ?_
  rw [show (0 : Int32).toNatClampNeg = 0 from by decide]
  rw [h0e]
  refine mh_aald hx hb hKK.2.1 hW 1 h0 (by decide) (by decide) (by show h0 < mh_n 1; unfold mh_n; simp; omega) dX5_travel_12 ?_
  refine lv_aload_n hx hb dX5_travel_13 rfl (lv_at hl 1 rfl) ?_
  refine lv_bipush (v := 9) hx hb dX5_travel_14 (by decide) ?_
  refine mh_iald hx hb hKK.1 hW 14 f (by decide) (mh_ixR (k := 4) (by decide) (by decide) (by show f < mh_n 4; unfold mh_n; simp; omega)) (i := 9) (by unfold vp_in; decide) dX5_travel_16 ?_
  rw [show (9 : Int32).toNatClampNeg = 9 from by decide]
  rw [a0e]
  refine mh_iald hx hb hKK.1 hW 11 h0 (by decide) (mh_ixR (k := 1) (by decide) (by decide) (by show h0 < mh_n 1; unfold mh_n; simp; omega)) (i := nI a0) (by unfold vp_in; exact nI_in (show a0 < 9 by omega) (by decide)) dX5_travel_17 ?_
  rw [show (nI a0 : Int32).toNatClampNeg = a0 from nI_clamp (by omega)]
  refine lv_aload_n hx hb dX5_travel_18 rfl (lv_at hl 0 rfl) ?_
  refine lv_aload_n hx hb dX5_travel_19 rfl (lv_at hl 1 rfl) ?_
  refine mh_calli (As := [.ref (L 14 f)]) ⟨hx, hb, hml, hown, hts⟩ (kX5_likeness l D d cB L ρ A s.heap.size f hf ⟨h0, h0l, h0e⟩ hbd) (cwV 1 hts gX5_travel_X5_likeness rfl rfl rfl (by decide +kernel) ⟨Nat.le_of_ble_eq_true rfl, Nat.le_of_ble_eq_true rfl⟩) hKK hW hS rfl hl.1 (Nat.le_of_ble_eq_true rfl) dX5_travel_20 ⟨Nat.le_of_ble_eq_true rfl, Nat.le_of_ble_eq_true rfl⟩ rfl (fun r_ τ_ H locs hp hW hz hqq hS => ?_)
  obtain ⟨e1_, e2_⟩ := hp
  subst e1_ e2_
  refine lv_imul hx hb dX5_travel_23 ?_
  refine lv_sipush (v := 1000) hx hb dX5_travel_24 (by decide) ?_
  refine lv_idiv hx hb dX5_travel_27 (by decide) ?_
  refine lv_iadd hx hb dX5_travel_28 ?_
  refine mh_puti hx hb hts (by decide +kernel) hown hKK.1 hW hS 12 (by decide) (hts (.fieldLink RX5 36 "WaxrowModel$House" "money" "I") (by decide +kernel)) rfl rfl ((ρ 0 0 12) + (((ρ 11 h0 a0) * (mp_like ρ f)) / 1000)) (by decide +kernel) rfl dX5_travel_29 (fun H locs hW hS hz hq => ?_)
  have hW : mh_W D d.1 cB L (hs_sg ρ 0 0 12 ((ρ 0 0 12) + (((ρ 11 h0 a0) * (mp_like ρ f)) / 1000))) A H := hW
  refine lv_aload_n hx hb dX5_travel_32 rfl (lv_at hl 1 rfl) ?_
  refine lv_bipush (v := 6) hx hb dX5_travel_33 (by decide) ?_
  refine lv_bipush (v := 99) hx hb dX5_travel_35 (by decide) ?_
  refine lv_aload_n hx hb dX5_travel_37 rfl (lv_at hl 1 rfl) ?_
  refine lv_bipush (v := 6) hx hb dX5_travel_38 (by decide) ?_
  refine mh_iald hx hb hKK.1 hW 14 f (by decide) (mh_ixR (k := 4) (by decide) (by decide) (by show f < mh_n 4; unfold mh_n; simp; omega)) (i := 6) (by unfold vp_in; decide) dX5_travel_40 ?_
  rw [show (6 : Int32).toNatClampNeg = 6 from by decide]
  rw [show (hs_sg ρ 0 0 12 ((ρ 0 0 12) + (((ρ 11 h0 a0) * (mp_like ρ f)) / 1000))) 14 f 6 = ρ 14 f 6 from by rw [pc9, if_neg (by omega)]]
  refine lv_iconst (v := 2) hx hb dX5_travel_41 (by decide) ?_
  refine lv_iadd hx hb dX5_travel_42 ?_
  refine va_mmin hx hb (by rw [hml]; exact hl.1.symm) hown (hts (.methodLink RX5 131 Lib.Math.min.name) (by decide +kernel)) (hts (.static Lib.Math.min.name) (by decide +kernel)) (hts (.initialized "java/lang/Math") (by decide +kernel)) (hts (.code Lib.Math.min.name Lib.Math.min.code 2 (some .int)) (by decide +kernel)) (Nat.le_of_ble_eq_true rfl) (Nat.le_of_ble_eq_true rfl) (Nat.zero_le _) (Nat.zero_le _) dX5_travel_43 ?_
  refine mh_iast hx hb hKK.1 hW hS 14 f (by decide) (mh_ixR (k := 4) (by decide) (by decide) (by show f < mh_n 4; unfold mh_n; simp; omega)) (i := 6) (x := if (ρ 14 f 6) + 2 < 99 then (ρ 14 f 6) + 2 else 99) (by unfold vp_in; decide) dX5_travel_46 (fun H locs hW hS hz hq => ?_)
  rw [show (6 : Int32).toNatClampNeg = 6 from by decide] at hW
  have hW : mh_W D d.1 cB L (hs_sg (hs_sg ρ 0 0 12 ((ρ 0 0 12) + (((ρ 11 h0 a0) * (mp_like ρ f)) / 1000))) 14 f 6 (if (ρ 14 f 6) + 2 < 99 then (ρ 14 f 6) + 2 else 99)) A H := hW
  refine lv_aload_n hx hb dX5_travel_47 rfl (lv_at hl 1 rfl) ?_
  refine lv_bipush (v := 8) hx hb dX5_travel_48 (by decide) ?_
  refine lv_dup2_11 hx hb dX5_travel_50 rfl rfl ?_
  refine mh_iald hx hb hKK.1 hW 14 f (by decide) (mh_ixR (k := 4) (by decide) (by decide) (by show f < mh_n 4; unfold mh_n; simp; omega)) (i := 8) (by unfold vp_in; decide) dX5_travel_51 ?_
  rw [show (8 : Int32).toNatClampNeg = 8 from by decide]
  rw [show (hs_sg (hs_sg ρ 0 0 12 ((ρ 0 0 12) + (((ρ 11 h0 a0) * (mp_like ρ f)) / 1000))) 14 f 6 (if (ρ 14 f 6) + 2 < 99 then (ρ 14 f 6) + 2 else 99)) 14 f 8 = ρ 14 f 8 from by rw [pc9, if_neg (by omega), pc9, if_neg (by omega)]]
  refine lv_iconst (v := 1) hx hb dX5_travel_52 (by decide) ?_
  refine lv_isub hx hb dX5_travel_53 ?_
  refine mh_iast hx hb hKK.1 hW hS 14 f (by decide) (mh_ixR (k := 4) (by decide) (by decide) (by show f < mh_n 4; unfold mh_n; simp; omega)) (i := 8) (x := (ρ 14 f 8) - 1) (by unfold vp_in; decide) dX5_travel_54 (fun H locs hW hS hz hq => ?_)
  rw [show (8 : Int32).toNatClampNeg = 8 from by decide] at hW
  have hW : mh_W D d.1 cB L (hs_sg (hs_sg (hs_sg ρ 0 0 12 ((ρ 0 0 12) + (((ρ 11 h0 a0) * (mp_like ρ f)) / 1000))) 14 f 6 (if (ρ 14 f 6) + 2 < 99 then (ρ 14 f 6) + 2 else 99)) 14 f 8 ((ρ 14 f 8) - 1)) A H := hW
  refine lv_aload_n hx hb dX5_travel_55 rfl (lv_at hl 1 rfl) ?_
  refine lv_bipush (v := 8) hx hb dX5_travel_56 (by decide) ?_
  refine mh_iald hx hb hKK.1 hW 14 f (by decide) (mh_ixR (k := 4) (by decide) (by decide) (by show f < mh_n 4; unfold mh_n; simp; omega)) (i := 8) (by unfold vp_in; decide) dX5_travel_58 ?_
  rw [show (8 : Int32).toNatClampNeg = 8 from by decide]
  refine lv_if_ne (tgt := 67) hx hb dX5_travel_59 (by decide) (fun c_59 => ?_) (fun c_59 => ?_)
  · exact W.vret hx hb hr (fun t ht hW9 => ⟨⟨hs_sg (hs_sg (hs_sg ρ 0 0 12 ((ρ 0 0 12) + (((ρ 11 h0 a0) * (mp_like ρ f)) / 1000))) 14 f 6 (if (ρ 14 f 6) + 2 < 99 then (ρ 14 f 6) + 2 else 99)) 14 f 8 ((ρ 14 f 8) - 1), rfl, (by show mp_trip ρ f h0 a0 = _; exact if_neg c_59), by show mh_W D d.1 cB L _ A t.heap; rw [ht]; exact hW⟩, hS.F ht⟩) hS.2.2 dX5_travel_67
  · refine lv_aload_n hx hb dX5_travel_62 rfl (lv_at hl 1 rfl) ?_
    refine lv_bipush (v := 7) hx hb dX5_travel_63 (by decide) ?_
    refine lv_iconst (v := 5) hx hb dX5_travel_65 (by decide) ?_
    refine mh_iast hx hb hKK.1 hW hS 14 f (by decide) (mh_ixR (k := 4) (by decide) (by decide) (by show f < mh_n 4; unfold mh_n; simp; omega)) (i := 7) (x := 5) (by unfold vp_in; decide) dX5_travel_66 (fun H locs hW hS hz hq => ?_)
    rw [show (7 : Int32).toNatClampNeg = 7 from by decide] at hW
    have hW : mh_W D d.1 cB L (hs_sg (hs_sg (hs_sg (hs_sg ρ 0 0 12 ((ρ 0 0 12) + (((ρ 11 h0 a0) * (mp_like ρ f)) / 1000))) 14 f 6 (if (ρ 14 f 6) + 2 < 99 then (ρ 14 f 6) + 2 else 99)) 14 f 8 ((ρ 14 f 8) - 1)) 14 f 7 (5 : Int32)) A H := hW
    exact W.vret hx hb hr (fun t ht hW9 => ⟨⟨hs_sg (hs_sg (hs_sg (hs_sg ρ 0 0 12 ((ρ 0 0 12) + (((ρ 11 h0 a0) * (mp_like ρ f)) / 1000))) 14 f 6 (if (ρ 14 f 6) + 2 < 99 then (ρ 14 f 6) + 2 else 99)) 14 f 8 ((ρ 14 f 8) - 1)) 14 f 7 (5 : Int32), rfl, (by show mp_trip ρ f h0 a0 = _; exact if_pos c_59), by show mh_W D d.1 cB L _ A t.heap; rw [ht]; exact hW⟩, hS.F ht⟩) hS.2.2 dX5_travel_67
