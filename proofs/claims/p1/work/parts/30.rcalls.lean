/-! THE REFERENCE where nobody is told: its calls -/
def rf_Pc (D : va_G) (ty : List (ClassId × FieldType)) (sz : Nat) (V : va_W) (U : State) : Prop := U.heap.size = sz ∧ va_P D vwCl V U.heap ∧ va_K D vwCl ty U
theorem rf_blind2 {D : va_G} {ty : List (ClassId × FieldType)} {sz : Nat} {V : va_W} {av : List Value} : FrameBlind (va_Pc av (rf_Pc D ty sz V)) := fun a U g mk q => by
  obtain ⟨q0, q1, q2, q3⟩ := q
  exact ⟨q0, q1, q2, va_K.moved (u := U) (U := U.calling g mk a) (Vm.Alike.refl U.vm) q3⟩
abbrev rf_Mi (l : Launch) (y : MethodName) (ws : List Cond) (rm : Room) (D : va_G) (ty : List (ClassId × FieldType)) (sz : Nat) (V V2 : va_W) (A : Nat → Prop) (av : List Value) (post : Int32 → Prop) (mc ms : Nat) : Prop := Met l y ws rm (va_Pc av (rf_Pc D ty sz V)) (va_Qi (fun r (_ : Unit) => post r) (fun _ t => va_P D vwCl V2 t.heap) A) mc ms A
abbrev rf_Ml (l : Launch) (y : MethodName) (ws : List Cond) (rm : Room) (D : va_G) (ty : List (ClassId × FieldType)) (sz : Nat) (V V2 : va_W) (A : Nat → Prop) (av : List Value) (post : Int64 → Prop) (mc ms : Nat) : Prop := Met l y ws rm (va_Pc av (rf_Pc D ty sz V)) (va_Ql (fun r (_ : Unit) => post r) (fun _ t => va_P D vwCl V2 t.heap) A) mc ms A
abbrev rf_Md (l : Launch) (y : MethodName) (ws : List Cond) (rm : Room) (D : va_G) (ty : List (ClassId × FieldType)) (sz : Nat) (V V2 : va_W) (A : Nat → Prop) (av : List Value) (post : UInt64 → Prop) (mc ms : Nat) : Prop := Met l y ws rm (va_Pc av (rf_Pc D ty sz V)) (va_Qd (fun r (_ : Unit) => post r) (fun _ t => va_P D vwCl V2 t.heap) A) mc ms A
def sp_in (k lo hi : Int32) : Int32 := if k < lo then 0 else if hi < k then 0 else 1
theorem sp_in_no (x : Int32) : sp_in x 0 (0 - 1) = 0 := by
  unfold sp_in
  split
  · rfl
  · rename_i h
    split
    · rfl
    · rename_i h2
      exfalso
      rw [Int32.lt_iff_toInt_lt] at h h2
      rw [show ((0 : Int32) - 1).toInt = -1 from by decide] at h2
      rw [show (0 : Int32).toInt = 0 from by decide] at h
      omega
section RFR
variable {p : Program} {l : Launch} {e : Env} {R : Room} {s : State} {m : MethodId} {args : Array Value} {below : List Frame} {meth : Method} {c : Code} {H : Heap} {locs : List Loc} {cells slots : Nat} {Q : State → Prop}
variable {cc : ByteArray} {pc : Nat} {ls : Array Slot} {rest : List Value} {D : va_G} {A : Nat → Prop} {ty : List (ClassId × FieldType)} {V V2 W0 : va_W} {H0 : Heap}
variable {y : MethodName} {bytes : ByteArray} {maxL nL n index mc ms : Nat} {ret : Option FieldType} {ws : List Cond} {rm : Room} {Ts : List Cond} {own C : String} {As st : List Value} {post : Int32 → Prop} {b q0 ci : Nat} {fs : List Value} {r : vw_C}
theorem rf_callR (S : CallFix p m c cc nL s args Ts own) (hM : rf_Mi l y ws rm D ty H.size V V (fun _ => False) (.ref b :: As) post 0 0) (cw : CallW R s args own C index y bytes maxL ret ws rm 0 0 n) (hK : va_K D vwCl ty s) (hP : va_P D vwCl W0 H) (hPc : va_P D vwCl V H) (hS : va_S A H0 H locs) (he : V[q0]? = some (b, .inr (ci, fs))) (hc : vwCl[ci]? = some r) (hC : r.1 = C) (hn : As.length = n) (hsize : ls.size = nL) (hrest : (rest.map fun v => v.category).sum ≤ 8) (hdg : decode cc pc = .ok (.invokevirtual index, 3)) (hf : cells + 0 ≤ R.cells ∧ slots + 0 ≤ R.slots) (hst : st = As.reverse ++ .ref b :: rest)
    (kk : ∀ (r : Int32) (H1 : Heap) (locs1 : List Loc), post r → va_P D vwCl W0 H1 → va_S A H0 H1 locs1 → W p l e R s m args below meth c H1 locs1 cells slots Q (F0 m (pc + 3) ls (.int r :: rest))) : W p l e R s m args below meth c H locs cells slots Q (F0 m pc ls st) := by
  subst hst
  subst hC
  exact va_calli (va_runV S hM cw ⟨rf_blind2, va_recv hK hPc hc he, fun U hU hW2 => ⟨rfl, by rw [hU], by rw [hU]; exact hPc, va_K.moved hW2.alike hK⟩⟩ rfl hn hsize rfl (lv_room hrest) hdg hf) hS (fun q _ h => h.elim) (fun q h => h.elim) (fun r u t H1 locs1 ht _ hp hB _ hq hS1 => kk r H1 locs1 hp (hP.kept (fun k q hk => hq q.1 ((hP k q hk).lt) (fun z => z))) hS1)
theorem rf_callW (S : CallFix p m c cc nL s args Ts own) (hM : rf_Mi l y ws rm D ty H.size V V2 A (.ref b :: As) post mc ms) (cw : CallW R s args own C index y bytes maxL ret ws rm mc ms n) (hK : va_K D vwCl ty s) (hP : va_P D vwCl W0 H) (hPc : va_P D vwCl V H) (hS : va_S A H0 H locs) (he : V[q0]? = some (b, .inr (ci, fs))) (hc : vwCl[ci]? = some r) (hC : r.1 = C) (hn : As.length = n) (hsize : ls.size = nL) (hrest : (rest.map fun v => v.category).sum ≤ 8) (hdg : decode cc pc = .ok (.invokevirtual index, 3)) (hf : cells + mc ≤ R.cells ∧ slots + ms ≤ R.slots) (hst : st = As.reverse ++ .ref b :: rest)
    (kk : ∀ (r : Int32) (H1 : Heap) (locs1 : List Loc), post r → va_P D vwCl V2 H1 → va_S A H0 H1 locs1 → W p l e R s m args below meth c H1 locs1 (cells + mc) (slots + ms) Q (F0 m (pc + 3) ls (.int r :: rest))) : W p l e R s m args below meth c H locs cells slots Q (F0 m pc ls st) := by
  subst hst
  subst hC
  exact va_calli (va_runV S hM cw ⟨rf_blind2, va_recv hK hPc hc he, fun U hU hW2 => ⟨rfl, by rw [hU], by rw [hU]; exact hPc, va_K.moved hW2.alike hK⟩⟩ rfl hn hsize rfl (lv_room hrest) hdg hf) hS (fun q _ h => h) (fun q h => h) (fun r u t H1 locs1 ht _ hp hB _ hq hS1 => kk r H1 locs1 hp (by rw [ht] at hB; exact hB) hS1)
theorem rf_runR (S : CallFix p m c cc nL s args Ts own) (hM : Met l y ws rm (va_Pc As (fun _ => True)) (va_Qi (fun r (_ : Unit) => post r) (fun _ _ => True) (fun _ => False)) 0 0 (fun _ => False)) (cw : CallB R s args own index y bytes maxL ret ws rm 0 0 n ∧ (Cond.static y).before args s = true) (hP : va_P D vwCl W0 H) (hS : va_S A H0 H locs) (hn : As.length = n) (hsize : ls.size = nL) (hrest : (rest.map fun v => v.category).sum ≤ 8) (hdg : decode cc pc = .ok (.invokestatic index, 3)) (hf : cells + 0 ≤ R.cells ∧ slots + 0 ≤ R.slots) (hst : st = As.reverse ++ rest)
    (kk : ∀ (r : Int32) (H1 : Heap) (locs1 : List Loc), post r → va_P D vwCl W0 H1 → va_S A H0 H1 locs1 → W p l e R s m args below meth c H1 locs1 cells slots Q (F0 m (pc + 3) ls (.int r :: rest))) : W p l e R s m args below meth c H locs cells slots Q (F0 m pc ls st) := by
  subst hst
  exact va_calli (va_runS S hM cw ⟨fun a U g mk q => q, fun U hU hW2 => ⟨rfl, trivial⟩⟩ rfl hn hsize rfl (lv_room hrest) hdg hf) hS (fun q _ h => h.elim) (fun q h => h.elim) (fun r u t H1 locs1 ht _ hp hB _ hq hS1 => kk r H1 locs1 hp (hP.kept (fun k q hk => hq q.1 ((hP k q hk).lt) (fun z => z))) hS1)
theorem rf_aald (hexec : p.tables.exec = Jvm.exec) (hb : c.code = cc) (hK : va_K D vwCl ty s) (hP : va_P D vwCl W0 H) (q0 t0 : Nat) {cA : ClassId} {a n ad : Nat} {f : Nat → Option Nat} (ha : W0[q0]? = some (a, .inl (cA, n, .inr (.inr (.inr (.inr f)))))) (ht : ty[t0]? = some (cA, .array .int)) {i : Int32} (hin : vp_in i n) (hf : f i.toNatClampNeg = some ad) (hdg : decode cc pc = .ok (.aaload, 1))
    (kk : W p l e R s m args below meth c H locs cells slots Q (F0 m (pc + 1) ls (.ref ad :: rest))) : W p l e R s m args below meth c H locs cells slots Q (F0 m pc ls (.int i :: .ref a :: rest)) := by
  have hlt : i.toNatClampNeg < n := Nat.not_le.mp fun q => hin (Or.inr q)
  have k2 : W p l e R s m args below meth c H locs cells slots Q (F0 m (pc + 1) ls (va_rf (f i.toNatClampNeg) :: rest)) := by rw [hf]; exact kk
  exact W.aald (v := va_rf (f i.toNatClampNeg)) (ty := .array .int) hexec hb (hP q0 _ ha) ((hK.2 t0 _ ht).1 n (fun j => va_rf (f j))) rfl (fun q => by cases q) (by show ¬ (i < 0 ∨ (arrV _ _ _).slots.size ≤ _); rw [arrV_size]; exact hin) (by show (arrV _ _ _).slots[_]? = _; rw [arrV_read _ _ hlt]) rfl rfl hdg k2
end RFR
set_option maxHeartbeats 4000000 in
set_option maxRecDepth 100000 in
/-- in -/
theorem rX6_in (l : Launch) (k lo hi : Int32) : Met l yX6_in wsX6_in ({ frames := 0, cells := 0, slots := 0, locals := 0 }) (va_Pc [.int k, .int lo, .int hi] (fun _ => True)) (va_Qi (fun r (_ : Unit) => sp_in k lo hi = r) (fun _ _ => True) (fun _ => False)) 0 0 (fun _ => False) := by
  refine Met.ofW (cc := cX6_in) (maxL := 3) (ret := (some .boolean)) (by decide) rfl ?_
  intro p e s m args below meth c s₁ B hml hv
  obtain ⟨rfl, -⟩ := hv
  have hx := B.exec
  have hb := B.bytes
  have hr := B.returns
  have hts := atoms_spec (ws := wsX6_in) B.pre
  have hown : s.vm.findClass RX6 = some m.cls := findClass_of_methodNamed B.named
  have hlocks := B.notSynchronized
  have hS : va_S (fun _ => False) s.heap s.heap [] := va_S.rf
  have hl := lv_entry ([.int k, .int lo, .int hi]) (n := 3) (Nat.le_of_ble_eq_true rfl)
  rw [lg_entry_eq]
  generalize (lg_sl ([.int k, .int lo, .int hi]) ++ List.replicate (3 - (lg_sl ([.int k, .int lo, .int hi])).length) Slot.unset).toArray = ls at hl ⊢
  have hl : lv_has ls 3 [(0, .int k), (1, .int lo), (2, .int hi)] := hl
  refine lv_iload_n hx hb dX6_in_0 rfl (lv_at hl 0 rfl) ?_
  refine lv_iload_n hx hb dX6_in_1 rfl (lv_at hl 1 rfl) ?_
  refine lv_icmp_lt (tgt := 14) hx hb dX6_in_2 (by decide) (fun c_2 => ?_) (fun c_2 => ?_)
  · refine lv_iconst (v := 0) hx hb dX6_in_14 (by decide) ?_
    exact W.zret (v := 0) (ty := .boolean) hx hb hr rfl (fun t ht hW9 => ⟨⟨0, (), rfl, (by simp [sp_in, c_2]), trivial⟩, hS.F ht⟩) hS.2.2 dX6_in_15
  · refine lv_iload_n hx hb dX6_in_5 rfl (lv_at hl 0 rfl) ?_
    refine lv_iload_n hx hb dX6_in_6 rfl (lv_at hl 2 rfl) ?_
    refine lv_icmp_gt (tgt := 14) hx hb dX6_in_7 (by decide) (fun c_7 => ?_) (fun c_7 => ?_)
    · refine lv_iconst (v := 0) hx hb dX6_in_14 (by decide) ?_
      exact W.zret (v := 0) (ty := .boolean) hx hb hr rfl (fun t ht hW9 => ⟨⟨0, (), rfl, (by simp [sp_in, c_2, c_7]), trivial⟩, hS.F ht⟩) hS.2.2 dX6_in_15
    · refine lv_iconst (v := 1) hx hb dX6_in_10 (by decide) ?_
      refine lv_goto (tgt := 15) hx hb dX6_in_11 (by decide) ?_
      exact W.zret (v := 1) (ty := .boolean) hx hb hr rfl (fun t ht hW9 => ⟨⟨1, (), rfl, (by simp [sp_in, c_2, c_7]), trivial⟩, hS.F ht⟩) hS.2.2 dX6_in_15
set_option maxHeartbeats 4000000 in
set_option maxRecDepth 100000 in
/-- the reference: thrown -/
theorem rX6_thrown (l : Launch) (D : va_G) (cI cB : ClassId) (sz : Nat) (x0 x1 : Nat) (t : Int32) : rf_Mi l yX6_thrown wsX6_thrown ({ frames := 0, cells := 0, slots := 0, locals := 0 }) D [(cI, .int), (cB, .array .int)] sz [(x0, .inr (cRm, [.int t, .ref x1]))] [(x0, .inr (cRm, [.int t, .ref x1]))] (fun _ => False) [.ref x0] (fun r => r = t) 0 0 := by
  refine Met.ofW (cc := cX6_thrown) (maxL := 1) (ret := (some .int)) (by decide) rfl ?_
  intro p e s m args below meth c s₁ B hml hv
  obtain ⟨rfl, hsz, hP, hK⟩ := hv
  have hx := B.exec
  have hb := B.bytes
  have hr := B.returns
  have hts := atoms_spec (ws := wsX6_thrown) B.pre
  have hown : s.vm.findClass RX6 = some m.cls := findClass_of_methodNamed B.named
  have hlocks := B.notSynchronized
  have hS : va_S (fun _ => False) s.heap s.heap [] := va_S.rf
  have hP : va_P D vwCl [(x0, .inr (cRm, [.int t, .ref x1]))] s.heap := hP
  have hl := lv_entry ([.ref x0]) (n := 1) (Nat.le_of_ble_eq_true rfl)
  rw [lg_entry_eq]
  generalize (lg_sl ([.ref x0]) ++ List.replicate (1 - (lg_sl ([.ref x0])).length) Slot.unset).toArray = ls at hl ⊢
  have hl : lv_has ls 1 [(0, .ref x0)] := hl
  refine lv_aload_n hx hb dX6_thrown_0 rfl (lv_at hl 0 rfl) ?_
  refine va_get (D := D) (ci := cRm) (C := RX6) (T := TX6) (N := 2) (v := .int t) hx hb hts (by decide +kernel) hown hK hP 0 rfl rfl 0 (by decide) (hts (.fieldLink RX6 16 "WaxrowModel" "thrown" "I") (by decide +kernel)) (fun _ h9 => h9) rfl dX6_thrown_1 ?_
  exact W.iret (v := t) hx hb hr (fun U9 ht hW9 => ⟨⟨t, (), rfl, rfl, by show va_P D vwCl _ U9.heap; rw [ht]; exact hP.sub [0] rfl⟩, hS.F ht⟩) hS.2.2 dX6_thrown_4
set_option maxHeartbeats 4000000 in
set_option maxRecDepth 100000 in
/-- the reference: no -/
theorem rX6_no (l : Launch) (D : va_G) (cI cB : ClassId) (sz : Nat) (x0 x1 : Nat) (t k : Int32) (A : Nat → Prop) (hD : va_D A [(x0, .inr (cRm, [.int t, .ref x1]))]) : rf_Mi l yX6_no wsX6_no ({ frames := 0, cells := 0, slots := 0, locals := 0 }) D [(cI, .int), (cB, .array .int)] sz [(x0, .inr (cRm, [.int t, .ref x1]))] [(x0, .inr (cRm, [.int k, .ref x1]))] A [.ref x0, .int k] (fun r => r = 0) 0 0 := by
  refine Met.ofW (cc := cX6_no) (maxL := 2) (ret := (some .int)) (by decide) rfl ?_
  intro p e s m args below meth c s₁ B hml hv
  obtain ⟨rfl, hsz, hP, hK⟩ := hv
  have hx := B.exec
  have hb := B.bytes
  have hr := B.returns
  have hts := atoms_spec (ws := wsX6_no) B.pre
  have hown : s.vm.findClass RX6 = some m.cls := findClass_of_methodNamed B.named
  have hlocks := B.notSynchronized
  have hS : va_S A s.heap s.heap [] := va_S.rf
  have hP : va_P D vwCl [(x0, .inr (cRm, [.int t, .ref x1]))] s.heap := hP
  have hl := lv_entry ([.ref x0, .int k]) (n := 2) (Nat.le_of_ble_eq_true rfl)
  rw [lg_entry_eq]
  generalize (lg_sl ([.ref x0, .int k]) ++ List.replicate (2 - (lg_sl ([.ref x0, .int k])).length) Slot.unset).toArray = ls at hl ⊢
  have hl : lv_has ls 2 [(0, .ref x0), (1, .int k)] := hl
  refine lv_aload_n hx hb dX6_no_0 rfl (lv_at hl 0 rfl) ?_
  refine lv_iload_n hx hb dX6_no_1 rfl (lv_at hl 1 rfl) ?_
  refine va_put (ci := cRm) (C := RX6) (T := TX6) (N := 2) (ty := .int) hx hb hts (by decide +kernel) tyX6 tyX6_ok nmX6 hown hK hP hD hS 0 rfl rfl 0 (by decide) (hts (.fieldLink RX6 16 "WaxrowModel" "thrown" "I") (by decide +kernel)) (fun _ h9 => h9) rfl (by decide +kernel) rfl rfl (Nat.le_of_ble_eq_true rfl) dX6_no_2 (fun H locs hP hD hS => ?_)
  have hP : va_P D vwCl [(x0, .inr (cRm, [.int k, .ref x1]))] H := hP
  have hD : va_D A [(x0, .inr (cRm, [.int k, .ref x1]))] := hD
  refine lv_iconst (v := 0) hx hb dX6_no_5 (by decide) ?_
  exact W.iret (v := 0) hx hb hr (fun U9 ht hW9 => ⟨⟨0, (), rfl, rfl, by show va_P D vwCl _ U9.heap; rw [ht]; exact hP.sub [0] rfl⟩, hS.F ht⟩) hS.2.2 dX6_no_6
set_option maxHeartbeats 4000000 in
set_option maxRecDepth 100000 in
/-- the reference: isPerson -/
theorem rX6_isPerson (l : Launch) (D : va_G) (cI cB : ClassId) (sz : Nat) (x0 x1 a0 a1 a2 a3 a4 a5 : Nat) (t k : Int32) : rf_Mi l yX6_isPerson wsX6_isPerson ({ frames := 1, cells := 0, slots := 0, locals := 22 }) D [(cI, .int), (cB, .array .int)] sz [(x0, .inr (cRm, [.int t, .ref x1])), (x1, .inr (cRh, [.ref a0, .ref a1, .ref a2, .ref a3, .ref a4, .ref a5, .int 0, .int 0, .int 0, .int 0, .int 0, .int 5, .int 200, .int 30]))] [(x0, .inr (cRm, [.int t, .ref x1])), (x1, .inr (cRh, [.ref a0, .ref a1, .ref a2, .ref a3, .ref a4, .ref a5, .int 0, .int 0, .int 0, .int 0, .int 0, .int 5, .int 200, .int 30]))] (fun _ => False) [.ref x0, .int k] (fun r => r = 0) 0 0 := by
  refine Met.ofW (cc := cX6_isPerson) (maxL := 2) (ret := (some .boolean)) (by decide) rfl ?_
  intro p e s m args below meth c s₁ B hml hv
  obtain ⟨rfl, hsz, hP, hK⟩ := hv
  have hx := B.exec
  have hb := B.bytes
  have hr := B.returns
  have hts := atoms_spec (ws := wsX6_isPerson) B.pre
  have hown : s.vm.findClass RX6 = some m.cls := findClass_of_methodNamed B.named
  have hlocks := B.notSynchronized
  have hS : va_S (fun _ => False) s.heap s.heap [] := va_S.rf
  have hP : va_P D vwCl [(x0, .inr (cRm, [.int t, .ref x1])), (x1, .inr (cRh, [.ref a0, .ref a1, .ref a2, .ref a3, .ref a4, .ref a5, .int 0, .int 0, .int 0, .int 0, .int 0, .int 5, .int 200, .int 30]))] s.heap := hP
  have hl := lv_entry ([.ref x0, .int k]) (n := 2) (Nat.le_of_ble_eq_true rfl)
  rw [lg_entry_eq]
  generalize (lg_sl ([.ref x0, .int k]) ++ List.replicate (2 - (lg_sl ([.ref x0, .int k])).length) Slot.unset).toArray = ls at hl ⊢
  have hl : lv_has ls 2 [(0, .ref x0), (1, .int k)] := hl
  refine lv_iload_n hx hb dX6_isPerson_0 rfl (lv_at hl 1 rfl) ?_
  refine lv_iconst (v := 0) hx hb dX6_isPerson_1 (by decide) ?_
  refine lv_aload_n hx hb dX6_isPerson_2 rfl (lv_at hl 0 rfl) ?_
  refine va_get (D := D) (ci := cRm) (C := RX6) (T := TX6) (N := 2) (v := .ref x1) hx hb hts (by decide +kernel) hown hK hP 0 rfl rfl 1 (by decide) (hts (.fieldLink RX6 10 "WaxrowModel" "house" "LWaxrowModel$House;") (by decide +kernel)) (fun _ h9 => h9) rfl dX6_isPerson_3 ?_
  refine va_get (D := D) (ci := cRh) (C := RX5) (T := TX5) (N := 14) (v := .int 0) hx hb hts (by decide +kernel) hown hK hP 1 rfl rfl 6 (by decide) (hts (.fieldLink RX6 29 "WaxrowModel$House" "personCount" "I") (by decide +kernel)) (fun _ h9 => h9) rfl dX6_isPerson_6 ?_
  refine lv_iconst (v := 1) hx hb dX6_isPerson_9 (by decide) ?_
  refine lv_isub hx hb dX6_isPerson_10 ?_
  refine rf_runR (As := [.int k, .int 0, .int (0 - 1)]) ⟨hx, hb, hml, hown, hts⟩ (rX6_in l k 0 (0 - 1)) (va_cwS 3 hts gX6_isPerson_X6_in rfl rfl rfl (by decide +kernel) ⟨Nat.le_of_ble_eq_true rfl, Nat.le_of_ble_eq_true rfl⟩) hP hS rfl hl.1 (Nat.le_of_ble_eq_true rfl) dX6_isPerson_11 ⟨Nat.le_of_ble_eq_true rfl, Nat.le_of_ble_eq_true rfl⟩ rfl (fun r_ H locs hp hP hS => ?_)
  obtain rfl := hp
  have hP : va_P D vwCl [(x0, .inr (cRm, [.int t, .ref x1])), (x1, .inr (cRh, [.ref a0, .ref a1, .ref a2, .ref a3, .ref a4, .ref a5, .int 0, .int 0, .int 0, .int 0, .int 0, .int 5, .int 200, .int 30]))] H := hP
  rw [sp_in_no]
  exact W.zret (v := 0) (ty := .boolean) hx hb hr rfl (fun U9 ht hW9 => ⟨⟨0, (), rfl, rfl, by show va_P D vwCl _ U9.heap; rw [ht]; exact hP.sub [0, 1] rfl⟩, hS.F ht⟩) hS.2.2 dX6_isPerson_14
set_option maxHeartbeats 4000000 in
set_option maxRecDepth 100000 in
/-- the reference: isFigure -/
theorem rX6_isFigure (l : Launch) (D : va_G) (cI cB : ClassId) (sz : Nat) (x0 x1 a0 a1 a2 a3 a4 a5 : Nat) (t k : Int32) : rf_Mi l yX6_isFigure wsX6_isFigure ({ frames := 1, cells := 0, slots := 0, locals := 22 }) D [(cI, .int), (cB, .array .int)] sz [(x0, .inr (cRm, [.int t, .ref x1])), (x1, .inr (cRh, [.ref a0, .ref a1, .ref a2, .ref a3, .ref a4, .ref a5, .int 0, .int 0, .int 0, .int 0, .int 0, .int 5, .int 200, .int 30]))] [(x0, .inr (cRm, [.int t, .ref x1])), (x1, .inr (cRh, [.ref a0, .ref a1, .ref a2, .ref a3, .ref a4, .ref a5, .int 0, .int 0, .int 0, .int 0, .int 0, .int 5, .int 200, .int 30]))] (fun _ => False) [.ref x0, .int k] (fun r => r = 0) 0 0 := by
  refine Met.ofW (cc := cX6_isFigure) (maxL := 2) (ret := (some .boolean)) (by decide) rfl ?_
  intro p e s m args below meth c s₁ B hml hv
  obtain ⟨rfl, hsz, hP, hK⟩ := hv
  have hx := B.exec
  have hb := B.bytes
  have hr := B.returns
  have hts := atoms_spec (ws := wsX6_isFigure) B.pre
  have hown : s.vm.findClass RX6 = some m.cls := findClass_of_methodNamed B.named
  have hlocks := B.notSynchronized
  have hS : va_S (fun _ => False) s.heap s.heap [] := va_S.rf
  have hP : va_P D vwCl [(x0, .inr (cRm, [.int t, .ref x1])), (x1, .inr (cRh, [.ref a0, .ref a1, .ref a2, .ref a3, .ref a4, .ref a5, .int 0, .int 0, .int 0, .int 0, .int 0, .int 5, .int 200, .int 30]))] s.heap := hP
  have hl := lv_entry ([.ref x0, .int k]) (n := 2) (Nat.le_of_ble_eq_true rfl)
  rw [lg_entry_eq]
  generalize (lg_sl ([.ref x0, .int k]) ++ List.replicate (2 - (lg_sl ([.ref x0, .int k])).length) Slot.unset).toArray = ls at hl ⊢
  have hl : lv_has ls 2 [(0, .ref x0), (1, .int k)] := hl
  refine lv_iload_n hx hb dX6_isFigure_0 rfl (lv_at hl 1 rfl) ?_
  refine lv_iconst (v := 0) hx hb dX6_isFigure_1 (by decide) ?_
  refine lv_aload_n hx hb dX6_isFigure_2 rfl (lv_at hl 0 rfl) ?_
  refine va_get (D := D) (ci := cRm) (C := RX6) (T := TX6) (N := 2) (v := .ref x1) hx hb hts (by decide +kernel) hown hK hP 0 rfl rfl 1 (by decide) (hts (.fieldLink RX6 10 "WaxrowModel" "house" "LWaxrowModel$House;") (by decide +kernel)) (fun _ h9 => h9) rfl dX6_isFigure_3 ?_
  refine va_get (D := D) (ci := cRh) (C := RX5) (T := TX5) (N := 14) (v := .int 0) hx hb hts (by decide +kernel) hown hK hP 1 rfl rfl 7 (by decide) (hts (.fieldLink RX6 36 "WaxrowModel$House" "figureCount" "I") (by decide +kernel)) (fun _ h9 => h9) rfl dX6_isFigure_6 ?_
  refine lv_iconst (v := 1) hx hb dX6_isFigure_9 (by decide) ?_
  refine lv_isub hx hb dX6_isFigure_10 ?_
  refine rf_runR (As := [.int k, .int 0, .int (0 - 1)]) ⟨hx, hb, hml, hown, hts⟩ (rX6_in l k 0 (0 - 1)) (va_cwS 3 hts gX6_isFigure_X6_in rfl rfl rfl (by decide +kernel) ⟨Nat.le_of_ble_eq_true rfl, Nat.le_of_ble_eq_true rfl⟩) hP hS rfl hl.1 (Nat.le_of_ble_eq_true rfl) dX6_isFigure_11 ⟨Nat.le_of_ble_eq_true rfl, Nat.le_of_ble_eq_true rfl⟩ rfl (fun r_ H locs hp hP hS => ?_)
  obtain rfl := hp
  have hP : va_P D vwCl [(x0, .inr (cRm, [.int t, .ref x1])), (x1, .inr (cRh, [.ref a0, .ref a1, .ref a2, .ref a3, .ref a4, .ref a5, .int 0, .int 0, .int 0, .int 0, .int 0, .int 5, .int 200, .int 30]))] H := hP
  rw [sp_in_no]
  exact W.zret (v := 0) (ty := .boolean) hx hb hr rfl (fun U9 ht hW9 => ⟨⟨0, (), rfl, rfl, by show va_P D vwCl _ U9.heap; rw [ht]; exact hP.sub [0, 1] rfl⟩, hS.F ht⟩) hS.2.2 dX6_isFigure_14
set_option maxHeartbeats 4000000 in
set_option maxRecDepth 100000 in
/-- the reference: isRoom -/
theorem rX6_isRoom (l : Launch) (D : va_G) (cI cB : ClassId) (sz : Nat) (x0 x1 a0 a1 a2 a3 a4 a5 : Nat) (t k : Int32) : rf_Mi l yX6_isRoom wsX6_isRoom ({ frames := 1, cells := 0, slots := 0, locals := 22 }) D [(cI, .int), (cB, .array .int)] sz [(x0, .inr (cRm, [.int t, .ref x1])), (x1, .inr (cRh, [.ref a0, .ref a1, .ref a2, .ref a3, .ref a4, .ref a5, .int 0, .int 0, .int 0, .int 0, .int 0, .int 5, .int 200, .int 30]))] [(x0, .inr (cRm, [.int t, .ref x1])), (x1, .inr (cRh, [.ref a0, .ref a1, .ref a2, .ref a3, .ref a4, .ref a5, .int 0, .int 0, .int 0, .int 0, .int 0, .int 5, .int 200, .int 30]))] (fun _ => False) [.ref x0, .int k] (fun r => r = 0) 0 0 := by
  refine Met.ofW (cc := cX6_isRoom) (maxL := 2) (ret := (some .boolean)) (by decide) rfl ?_
  intro p e s m args below meth c s₁ B hml hv
  obtain ⟨rfl, hsz, hP, hK⟩ := hv
  have hx := B.exec
  have hb := B.bytes
  have hr := B.returns
  have hts := atoms_spec (ws := wsX6_isRoom) B.pre
  have hown : s.vm.findClass RX6 = some m.cls := findClass_of_methodNamed B.named
  have hlocks := B.notSynchronized
  have hS : va_S (fun _ => False) s.heap s.heap [] := va_S.rf
  have hP : va_P D vwCl [(x0, .inr (cRm, [.int t, .ref x1])), (x1, .inr (cRh, [.ref a0, .ref a1, .ref a2, .ref a3, .ref a4, .ref a5, .int 0, .int 0, .int 0, .int 0, .int 0, .int 5, .int 200, .int 30]))] s.heap := hP
  have hl := lv_entry ([.ref x0, .int k]) (n := 2) (Nat.le_of_ble_eq_true rfl)
  rw [lg_entry_eq]
  generalize (lg_sl ([.ref x0, .int k]) ++ List.replicate (2 - (lg_sl ([.ref x0, .int k])).length) Slot.unset).toArray = ls at hl ⊢
  have hl : lv_has ls 2 [(0, .ref x0), (1, .int k)] := hl
  refine lv_iload_n hx hb dX6_isRoom_0 rfl (lv_at hl 1 rfl) ?_
  refine lv_iconst (v := 0) hx hb dX6_isRoom_1 (by decide) ?_
  refine lv_aload_n hx hb dX6_isRoom_2 rfl (lv_at hl 0 rfl) ?_
  refine va_get (D := D) (ci := cRm) (C := RX6) (T := TX6) (N := 2) (v := .ref x1) hx hb hts (by decide +kernel) hown hK hP 0 rfl rfl 1 (by decide) (hts (.fieldLink RX6 10 "WaxrowModel" "house" "LWaxrowModel$House;") (by decide +kernel)) (fun _ h9 => h9) rfl dX6_isRoom_3 ?_
  refine va_get (D := D) (ci := cRh) (C := RX5) (T := TX5) (N := 14) (v := .int 0) hx hb hts (by decide +kernel) hown hK hP 1 rfl rfl 8 (by decide) (hts (.fieldLink RX6 39 "WaxrowModel$House" "roomCount" "I") (by decide +kernel)) (fun _ h9 => h9) rfl dX6_isRoom_6 ?_
  refine lv_iconst (v := 1) hx hb dX6_isRoom_9 (by decide) ?_
  refine lv_isub hx hb dX6_isRoom_10 ?_
  refine rf_runR (As := [.int k, .int 0, .int (0 - 1)]) ⟨hx, hb, hml, hown, hts⟩ (rX6_in l k 0 (0 - 1)) (va_cwS 3 hts gX6_isRoom_X6_in rfl rfl rfl (by decide +kernel) ⟨Nat.le_of_ble_eq_true rfl, Nat.le_of_ble_eq_true rfl⟩) hP hS rfl hl.1 (Nat.le_of_ble_eq_true rfl) dX6_isRoom_11 ⟨Nat.le_of_ble_eq_true rfl, Nat.le_of_ble_eq_true rfl⟩ rfl (fun r_ H locs hp hP hS => ?_)
  obtain rfl := hp
  have hP : va_P D vwCl [(x0, .inr (cRm, [.int t, .ref x1])), (x1, .inr (cRh, [.ref a0, .ref a1, .ref a2, .ref a3, .ref a4, .ref a5, .int 0, .int 0, .int 0, .int 0, .int 0, .int 5, .int 200, .int 30]))] H := hP
  rw [sp_in_no]
  exact W.zret (v := 0) (ty := .boolean) hx hb hr rfl (fun U9 ht hW9 => ⟨⟨0, (), rfl, rfl, by show va_P D vwCl _ U9.heap; rw [ht]; exact hP.sub [0, 1] rfl⟩, hS.F ht⟩) hS.2.2 dX6_isRoom_14
set_option maxHeartbeats 4000000 in
set_option maxRecDepth 100000 in
/-- the reference: trend -/
theorem rX6_trend (l : Launch) (D : va_G) (cI cB : ClassId) (sz : Nat) (x0 x1 a0 a1 a2 a3 a4 a5 : Nat) (t k u v : Int32) (A : Nat → Prop) (hD : va_D A [(x0, .inr (cRm, [.int t, .ref x1])), (x1, .inr (cRh, [.ref a0, .ref a1, .ref a2, .ref a3, .ref a4, .ref a5, .int 0, .int 0, .int 0, .int 0, .int 0, .int 5, .int 200, .int 30]))]) : rf_Mi l yX6_trend wsX6_trend ({ frames := 2, cells := 0, slots := 0, locals := 55 }) D [(cI, .int), (cB, .array .int)] sz [(x0, .inr (cRm, [.int t, .ref x1])), (x1, .inr (cRh, [.ref a0, .ref a1, .ref a2, .ref a3, .ref a4, .ref a5, .int 0, .int 0, .int 0, .int 0, .int 0, .int 5, .int 200, .int 30]))] [(x0, .inr (cRm, [.int 1, .ref x1]))] A [.ref x0, .int k, .int u, .int v] (fun r => r = 0) 0 0 := by
  refine Met.ofW (cc := cX6_trend) (maxL := 5) (ret := (some .int)) (by decide) rfl ?_
  intro p e s m args below meth c s₁ B hml hv
  obtain ⟨rfl, hsz, hP, hK⟩ := hv
  have hx := B.exec
  have hb := B.bytes
  have hr := B.returns
  have hts := atoms_spec (ws := wsX6_trend) B.pre
  have hown : s.vm.findClass RX6 = some m.cls := findClass_of_methodNamed B.named
  have hlocks := B.notSynchronized
  have hS : va_S A s.heap s.heap [] := va_S.rf
  have hP : va_P D vwCl [(x0, .inr (cRm, [.int t, .ref x1])), (x1, .inr (cRh, [.ref a0, .ref a1, .ref a2, .ref a3, .ref a4, .ref a5, .int 0, .int 0, .int 0, .int 0, .int 0, .int 5, .int 200, .int 30]))] s.heap := hP
  have hl := lv_entry ([.ref x0, .int k, .int u, .int v]) (n := 5) (Nat.le_of_ble_eq_true rfl)
  rw [lg_entry_eq]
  generalize (lg_sl ([.ref x0, .int k, .int u, .int v]) ++ List.replicate (5 - (lg_sl ([.ref x0, .int k, .int u, .int v])).length) Slot.unset).toArray = ls at hl ⊢
  have hl : lv_has ls 5 [(0, .ref x0), (1, .int k), (2, .int u), (3, .int v)] := hl
  refine lv_aload_n hx hb dX6_trend_0 rfl (lv_at hl 0 rfl) ?_
  refine lv_iconst (v := 0) hx hb dX6_trend_1 (by decide) ?_
  refine va_put (ci := cRm) (C := RX6) (T := TX6) (N := 2) (ty := .int) hx hb hts (by decide +kernel) tyX6 tyX6_ok nmX6 hown hK hP hD hS 0 rfl rfl 0 (by decide) (hts (.fieldLink RX6 16 "WaxrowModel" "thrown" "I") (by decide +kernel)) (fun _ h9 => h9) rfl (by decide +kernel) rfl rfl (Nat.le_of_ble_eq_true rfl) dX6_trend_2 (fun H locs hP hD hS => ?_)
  have hP : va_P D vwCl [(x0, .inr (cRm, [.int 0, .ref x1])), (x1, .inr (cRh, [.ref a0, .ref a1, .ref a2, .ref a3, .ref a4, .ref a5, .int 0, .int 0, .int 0, .int 0, .int 0, .int 5, .int 200, .int 30]))] H := hP
  have hD : va_D A [(x0, .inr (cRm, [.int 0, .ref x1])), (x1, .inr (cRh, [.ref a0, .ref a1, .ref a2, .ref a3, .ref a4, .ref a5, .int 0, .int 0, .int 0, .int 0, .int 0, .int 5, .int 200, .int 30]))] := hD
  refine lv_aload_n hx hb dX6_trend_5 rfl (lv_at hl 0 rfl) ?_
  refine lv_iload_n hx hb dX6_trend_6 rfl (lv_at hl 1 rfl) ?_
  refine rf_callR (As := [.int k]) (V := [(x0, .inr (cRm, [.int 0, .ref x1])), (x1, .inr (cRh, [.ref a0, .ref a1, .ref a2, .ref a3, .ref a4, .ref a5, .int 0, .int 0, .int 0, .int 0, .int 0, .int 5, .int 200, .int 30]))]) (q0 := 0) (ci := cRm) (r := (RX6, TX6, 2)) ⟨hx, hb, hml, hown, hts⟩ (rX6_isPerson l D cI cB H.size x0 x1 a0 a1 a2 a3 a4 a5 0 k) (cwV 1 hts gX6_trend_X6_isPerson rfl rfl rfl (by decide +kernel) ⟨Nat.le_of_ble_eq_true rfl, Nat.le_of_ble_eq_true rfl⟩) hK hP (hP.sub [0, 1] rfl) hS rfl rfl rfl rfl hl.1 (Nat.le_of_ble_eq_true rfl) dX6_trend_7 ⟨Nat.le_of_ble_eq_true rfl, Nat.le_of_ble_eq_true rfl⟩ rfl (fun r_ H locs hp hP hS => ?_)
  subst hp
  have hP : va_P D vwCl [(x0, .inr (cRm, [.int 0, .ref x1])), (x1, .inr (cRh, [.ref a0, .ref a1, .ref a2, .ref a3, .ref a4, .ref a5, .int 0, .int 0, .int 0, .int 0, .int 0, .int 5, .int 200, .int 30]))] H := hP
  refine lv_if_eq (tgt := 22) hx hb dX6_trend_10 (by decide) (fun c_10 => ?_) (fun c_10 => ?_)
  · refine lv_aload_n hx hb dX6_trend_22 rfl (lv_at hl 0 rfl) ?_
    refine lv_iconst (v := 1) hx hb dX6_trend_23 (by decide) ?_
    refine rf_callW (As := [.int 1]) (V := [(x0, .inr (cRm, [.int 0, .ref x1]))]) (V2 := [(x0, .inr (cRm, [.int 1, .ref x1]))]) (q0 := 0) (ci := cRm) (r := (RX6, TX6, 2)) ⟨hx, hb, hml, hown, hts⟩ (rX6_no l D cI cB H.size x0 x1 0 1 A (hD.sub [0] (by decide) rfl)) (cwV 1 hts gX6_trend_X6_no rfl rfl rfl (by decide +kernel) ⟨Nat.le_of_ble_eq_true rfl, Nat.le_of_ble_eq_true rfl⟩) hK hP (hP.sub [0] rfl) hS rfl rfl rfl rfl hl.1 (Nat.le_of_ble_eq_true rfl) dX6_trend_24 ⟨Nat.le_of_ble_eq_true rfl, Nat.le_of_ble_eq_true rfl⟩ rfl (fun r_ H locs hp hP hS => ?_)
    subst hp
    have hP : va_P D vwCl [(x0, .inr (cRm, [.int 1, .ref x1]))] H := hP
    exact W.iret (v := 0) hx hb hr (fun U9 ht hW9 => ⟨⟨0, (), rfl, rfl, by show va_P D vwCl _ U9.heap; rw [ht]; exact hP.sub [0] rfl⟩, hS.F ht⟩) hS.2.2 dX6_trend_27
  · exact absurd (by decide +kernel) c_10
set_option maxHeartbeats 4000000 in
set_option maxRecDepth 100000 in
/-- the reference: news -/
theorem rX6_news (l : Launch) (D : va_G) (cI cB : ClassId) (sz : Nat) (x0 x1 a0 a1 a2 a3 a4 a5 : Nat) (t k u : Int32) (A : Nat → Prop) (hD : va_D A [(x0, .inr (cRm, [.int t, .ref x1])), (x1, .inr (cRh, [.ref a0, .ref a1, .ref a2, .ref a3, .ref a4, .ref a5, .int 0, .int 0, .int 0, .int 0, .int 0, .int 5, .int 200, .int 30]))]) : rf_Mi l yX6_news wsX6_news ({ frames := 2, cells := 0, slots := 0, locals := 55 }) D [(cI, .int), (cB, .array .int)] sz [(x0, .inr (cRm, [.int t, .ref x1])), (x1, .inr (cRh, [.ref a0, .ref a1, .ref a2, .ref a3, .ref a4, .ref a5, .int 0, .int 0, .int 0, .int 0, .int 0, .int 5, .int 200, .int 30]))] [(x0, .inr (cRm, [.int 1, .ref x1]))] A [.ref x0, .int k, .int u] (fun r => r = 0) 0 0 := by
  refine Met.ofW (cc := cX6_news) (maxL := 4) (ret := (some .int)) (by decide) rfl ?_
  intro p e s m args below meth c s₁ B hml hv
  obtain ⟨rfl, hsz, hP, hK⟩ := hv
  have hx := B.exec
  have hb := B.bytes
  have hr := B.returns
  have hts := atoms_spec (ws := wsX6_news) B.pre
  have hown : s.vm.findClass RX6 = some m.cls := findClass_of_methodNamed B.named
  have hlocks := B.notSynchronized
  have hS : va_S A s.heap s.heap [] := va_S.rf
  have hP : va_P D vwCl [(x0, .inr (cRm, [.int t, .ref x1])), (x1, .inr (cRh, [.ref a0, .ref a1, .ref a2, .ref a3, .ref a4, .ref a5, .int 0, .int 0, .int 0, .int 0, .int 0, .int 5, .int 200, .int 30]))] s.heap := hP
  have hl := lv_entry ([.ref x0, .int k, .int u]) (n := 4) (Nat.le_of_ble_eq_true rfl)
  rw [lg_entry_eq]
  generalize (lg_sl ([.ref x0, .int k, .int u]) ++ List.replicate (4 - (lg_sl ([.ref x0, .int k, .int u])).length) Slot.unset).toArray = ls at hl ⊢
  have hl : lv_has ls 4 [(0, .ref x0), (1, .int k), (2, .int u)] := hl
  refine lv_aload_n hx hb dX6_news_0 rfl (lv_at hl 0 rfl) ?_
  refine lv_iconst (v := 0) hx hb dX6_news_1 (by decide) ?_
  refine va_put (ci := cRm) (C := RX6) (T := TX6) (N := 2) (ty := .int) hx hb hts (by decide +kernel) tyX6 tyX6_ok nmX6 hown hK hP hD hS 0 rfl rfl 0 (by decide) (hts (.fieldLink RX6 16 "WaxrowModel" "thrown" "I") (by decide +kernel)) (fun _ h9 => h9) rfl (by decide +kernel) rfl rfl (Nat.le_of_ble_eq_true rfl) dX6_news_2 (fun H locs hP hD hS => ?_)
  have hP : va_P D vwCl [(x0, .inr (cRm, [.int 0, .ref x1])), (x1, .inr (cRh, [.ref a0, .ref a1, .ref a2, .ref a3, .ref a4, .ref a5, .int 0, .int 0, .int 0, .int 0, .int 0, .int 5, .int 200, .int 30]))] H := hP
  have hD : va_D A [(x0, .inr (cRm, [.int 0, .ref x1])), (x1, .inr (cRh, [.ref a0, .ref a1, .ref a2, .ref a3, .ref a4, .ref a5, .int 0, .int 0, .int 0, .int 0, .int 0, .int 5, .int 200, .int 30]))] := hD
  refine lv_aload_n hx hb dX6_news_5 rfl (lv_at hl 0 rfl) ?_
  refine lv_iload_n hx hb dX6_news_6 rfl (lv_at hl 1 rfl) ?_
  refine rf_callR (As := [.int k]) (V := [(x0, .inr (cRm, [.int 0, .ref x1])), (x1, .inr (cRh, [.ref a0, .ref a1, .ref a2, .ref a3, .ref a4, .ref a5, .int 0, .int 0, .int 0, .int 0, .int 0, .int 5, .int 200, .int 30]))]) (q0 := 0) (ci := cRm) (r := (RX6, TX6, 2)) ⟨hx, hb, hml, hown, hts⟩ (rX6_isPerson l D cI cB H.size x0 x1 a0 a1 a2 a3 a4 a5 0 k) (cwV 1 hts gX6_news_X6_isPerson rfl rfl rfl (by decide +kernel) ⟨Nat.le_of_ble_eq_true rfl, Nat.le_of_ble_eq_true rfl⟩) hK hP (hP.sub [0, 1] rfl) hS rfl rfl rfl rfl hl.1 (Nat.le_of_ble_eq_true rfl) dX6_news_7 ⟨Nat.le_of_ble_eq_true rfl, Nat.le_of_ble_eq_true rfl⟩ rfl (fun r_ H locs hp hP hS => ?_)
  subst hp
  have hP : va_P D vwCl [(x0, .inr (cRm, [.int 0, .ref x1])), (x1, .inr (cRh, [.ref a0, .ref a1, .ref a2, .ref a3, .ref a4, .ref a5, .int 0, .int 0, .int 0, .int 0, .int 0, .int 5, .int 200, .int 30]))] H := hP
  refine lv_if_ne (tgt := 19) hx hb dX6_news_10 (by decide) (fun c_10 => ?_) (fun c_10 => ?_)
  · exact absurd c_10 (by decide +kernel)
  · refine lv_aload_n hx hb dX6_news_13 rfl (lv_at hl 0 rfl) ?_
    refine lv_iconst (v := 1) hx hb dX6_news_14 (by decide) ?_
    refine rf_callW (As := [.int 1]) (V := [(x0, .inr (cRm, [.int 0, .ref x1]))]) (V2 := [(x0, .inr (cRm, [.int 1, .ref x1]))]) (q0 := 0) (ci := cRm) (r := (RX6, TX6, 2)) ⟨hx, hb, hml, hown, hts⟩ (rX6_no l D cI cB H.size x0 x1 0 1 A (hD.sub [0] (by decide) rfl)) (cwV 1 hts gX6_news_X6_no rfl rfl rfl (by decide +kernel) ⟨Nat.le_of_ble_eq_true rfl, Nat.le_of_ble_eq_true rfl⟩) hK hP (hP.sub [0] rfl) hS rfl rfl rfl rfl hl.1 (Nat.le_of_ble_eq_true rfl) dX6_news_15 ⟨Nat.le_of_ble_eq_true rfl, Nat.le_of_ble_eq_true rfl⟩ rfl (fun r_ H locs hp hP hS => ?_)
    subst hp
    have hP : va_P D vwCl [(x0, .inr (cRm, [.int 1, .ref x1]))] H := hP
    exact W.iret (v := 0) hx hb hr (fun U9 ht hW9 => ⟨⟨0, (), rfl, rfl, by show va_P D vwCl _ U9.heap; rw [ht]; exact hP.sub [0] rfl⟩, hS.F ht⟩) hS.2.2 dX6_news_18
set_option maxHeartbeats 4000000 in
set_option maxRecDepth 100000 in
/-- the reference: consent -/
theorem rX6_consent (l : Launch) (D : va_G) (cI cB : ClassId) (sz : Nat) (x0 x1 a0 a1 a2 a3 a4 a5 : Nat) (t k u : Int32) (A : Nat → Prop) (hD : va_D A [(x0, .inr (cRm, [.int t, .ref x1])), (x1, .inr (cRh, [.ref a0, .ref a1, .ref a2, .ref a3, .ref a4, .ref a5, .int 0, .int 0, .int 0, .int 0, .int 0, .int 5, .int 200, .int 30]))]) : rf_Mi l yX6_consent wsX6_consent ({ frames := 2, cells := 0, slots := 0, locals := 55 }) D [(cI, .int), (cB, .array .int)] sz [(x0, .inr (cRm, [.int t, .ref x1])), (x1, .inr (cRh, [.ref a0, .ref a1, .ref a2, .ref a3, .ref a4, .ref a5, .int 0, .int 0, .int 0, .int 0, .int 0, .int 5, .int 200, .int 30]))] [(x0, .inr (cRm, [.int 1, .ref x1]))] A [.ref x0, .int k, .int u] (fun r => r = 0) 0 0 := by
  refine Met.ofW (cc := cX6_consent) (maxL := 6) (ret := (some .int)) (by decide) rfl ?_
  intro p e s m args below meth c s₁ B hml hv
  obtain ⟨rfl, hsz, hP, hK⟩ := hv
  have hx := B.exec
  have hb := B.bytes
  have hr := B.returns
  have hts := atoms_spec (ws := wsX6_consent) B.pre
  have hown : s.vm.findClass RX6 = some m.cls := findClass_of_methodNamed B.named
  have hlocks := B.notSynchronized
  have hS : va_S A s.heap s.heap [] := va_S.rf
  have hP : va_P D vwCl [(x0, .inr (cRm, [.int t, .ref x1])), (x1, .inr (cRh, [.ref a0, .ref a1, .ref a2, .ref a3, .ref a4, .ref a5, .int 0, .int 0, .int 0, .int 0, .int 0, .int 5, .int 200, .int 30]))] s.heap := hP
  have hl := lv_entry ([.ref x0, .int k, .int u]) (n := 6) (Nat.le_of_ble_eq_true rfl)
  rw [lg_entry_eq]
  generalize (lg_sl ([.ref x0, .int k, .int u]) ++ List.replicate (6 - (lg_sl ([.ref x0, .int k, .int u])).length) Slot.unset).toArray = ls at hl ⊢
  have hl : lv_has ls 6 [(0, .ref x0), (1, .int k), (2, .int u)] := hl
  refine lv_aload_n hx hb dX6_consent_0 rfl (lv_at hl 0 rfl) ?_
  refine lv_iconst (v := 0) hx hb dX6_consent_1 (by decide) ?_
  refine va_put (ci := cRm) (C := RX6) (T := TX6) (N := 2) (ty := .int) hx hb hts (by decide +kernel) tyX6 tyX6_ok nmX6 hown hK hP hD hS 0 rfl rfl 0 (by decide) (hts (.fieldLink RX6 16 "WaxrowModel" "thrown" "I") (by decide +kernel)) (fun _ h9 => h9) rfl (by decide +kernel) rfl rfl (Nat.le_of_ble_eq_true rfl) dX6_consent_2 (fun H locs hP hD hS => ?_)
  have hP : va_P D vwCl [(x0, .inr (cRm, [.int 0, .ref x1])), (x1, .inr (cRh, [.ref a0, .ref a1, .ref a2, .ref a3, .ref a4, .ref a5, .int 0, .int 0, .int 0, .int 0, .int 0, .int 5, .int 200, .int 30]))] H := hP
  have hD : va_D A [(x0, .inr (cRm, [.int 0, .ref x1])), (x1, .inr (cRh, [.ref a0, .ref a1, .ref a2, .ref a3, .ref a4, .ref a5, .int 0, .int 0, .int 0, .int 0, .int 0, .int 5, .int 200, .int 30]))] := hD
  refine lv_aload_n hx hb dX6_consent_5 rfl (lv_at hl 0 rfl) ?_
  refine lv_iload_n hx hb dX6_consent_6 rfl (lv_at hl 1 rfl) ?_
  refine rf_callR (As := [.int k]) (V := [(x0, .inr (cRm, [.int 0, .ref x1])), (x1, .inr (cRh, [.ref a0, .ref a1, .ref a2, .ref a3, .ref a4, .ref a5, .int 0, .int 0, .int 0, .int 0, .int 0, .int 5, .int 200, .int 30]))]) (q0 := 0) (ci := cRm) (r := (RX6, TX6, 2)) ⟨hx, hb, hml, hown, hts⟩ (rX6_isPerson l D cI cB H.size x0 x1 a0 a1 a2 a3 a4 a5 0 k) (cwV 1 hts gX6_consent_X6_isPerson rfl rfl rfl (by decide +kernel) ⟨Nat.le_of_ble_eq_true rfl, Nat.le_of_ble_eq_true rfl⟩) hK hP (hP.sub [0, 1] rfl) hS rfl rfl rfl rfl hl.1 (Nat.le_of_ble_eq_true rfl) dX6_consent_7 ⟨Nat.le_of_ble_eq_true rfl, Nat.le_of_ble_eq_true rfl⟩ rfl (fun r_ H locs hp hP hS => ?_)
  subst hp
  have hP : va_P D vwCl [(x0, .inr (cRm, [.int 0, .ref x1])), (x1, .inr (cRh, [.ref a0, .ref a1, .ref a2, .ref a3, .ref a4, .ref a5, .int 0, .int 0, .int 0, .int 0, .int 0, .int 5, .int 200, .int 30]))] H := hP
  refine lv_if_ne (tgt := 19) hx hb dX6_consent_10 (by decide) (fun c_10 => ?_) (fun c_10 => ?_)
  · exact absurd c_10 (by decide +kernel)
  · refine lv_aload_n hx hb dX6_consent_13 rfl (lv_at hl 0 rfl) ?_
    refine lv_iconst (v := 1) hx hb dX6_consent_14 (by decide) ?_
    refine rf_callW (As := [.int 1]) (V := [(x0, .inr (cRm, [.int 0, .ref x1]))]) (V2 := [(x0, .inr (cRm, [.int 1, .ref x1]))]) (q0 := 0) (ci := cRm) (r := (RX6, TX6, 2)) ⟨hx, hb, hml, hown, hts⟩ (rX6_no l D cI cB H.size x0 x1 0 1 A (hD.sub [0] (by decide) rfl)) (cwV 1 hts gX6_consent_X6_no rfl rfl rfl (by decide +kernel) ⟨Nat.le_of_ble_eq_true rfl, Nat.le_of_ble_eq_true rfl⟩) hK hP (hP.sub [0] rfl) hS rfl rfl rfl rfl hl.1 (Nat.le_of_ble_eq_true rfl) dX6_consent_15 ⟨Nat.le_of_ble_eq_true rfl, Nat.le_of_ble_eq_true rfl⟩ rfl (fun r_ H locs hp hP hS => ?_)
    subst hp
    have hP : va_P D vwCl [(x0, .inr (cRm, [.int 1, .ref x1]))] H := hP
    exact W.iret (v := 0) hx hb hr (fun U9 ht hW9 => ⟨⟨0, (), rfl, rfl, by show va_P D vwCl _ U9.heap; rw [ht]; exact hP.sub [0] rfl⟩, hS.F ht⟩) hS.2.2 dX6_consent_18
set_option maxHeartbeats 4000000 in
set_option maxRecDepth 100000 in
/-- the reference: measure -/
theorem rX6_measure (l : Launch) (D : va_G) (cI cB : ClassId) (sz : Nat) (x0 x1 a0 a1 a2 a3 a4 a5 : Nat) (t k u v z : Int32) (A : Nat → Prop) (hD : va_D A [(x0, .inr (cRm, [.int t, .ref x1])), (x1, .inr (cRh, [.ref a0, .ref a1, .ref a2, .ref a3, .ref a4, .ref a5, .int 0, .int 0, .int 0, .int 0, .int 0, .int 5, .int 200, .int 30]))]) : rf_Mi l yX6_measure wsX6_measure ({ frames := 2, cells := 0, slots := 0, locals := 55 }) D [(cI, .int), (cB, .array .int)] sz [(x0, .inr (cRm, [.int t, .ref x1])), (x1, .inr (cRh, [.ref a0, .ref a1, .ref a2, .ref a3, .ref a4, .ref a5, .int 0, .int 0, .int 0, .int 0, .int 0, .int 5, .int 200, .int 30]))] [(x0, .inr (cRm, [.int 1, .ref x1]))] A [.ref x0, .int k, .int u, .int v, .int z] (fun r => r = 0) 0 0 := by
  refine Met.ofW (cc := cX6_measure) (maxL := 8) (ret := (some .int)) (by decide) rfl ?_
  intro p e s m args below meth c s₁ B hml hv
  obtain ⟨rfl, hsz, hP, hK⟩ := hv
  have hx := B.exec
  have hb := B.bytes
  have hr := B.returns
  have hts := atoms_spec (ws := wsX6_measure) B.pre
  have hown : s.vm.findClass RX6 = some m.cls := findClass_of_methodNamed B.named
  have hlocks := B.notSynchronized
  have hS : va_S A s.heap s.heap [] := va_S.rf
  have hP : va_P D vwCl [(x0, .inr (cRm, [.int t, .ref x1])), (x1, .inr (cRh, [.ref a0, .ref a1, .ref a2, .ref a3, .ref a4, .ref a5, .int 0, .int 0, .int 0, .int 0, .int 0, .int 5, .int 200, .int 30]))] s.heap := hP
  have hl := lv_entry ([.ref x0, .int k, .int u, .int v, .int z]) (n := 8) (Nat.le_of_ble_eq_true rfl)
  rw [lg_entry_eq]
  generalize (lg_sl ([.ref x0, .int k, .int u, .int v, .int z]) ++ List.replicate (8 - (lg_sl ([.ref x0, .int k, .int u, .int v, .int z])).length) Slot.unset).toArray = ls at hl ⊢
  have hl : lv_has ls 8 [(0, .ref x0), (1, .int k), (2, .int u), (3, .int v), (4, .int z)] := hl
  refine lv_aload_n hx hb dX6_measure_0 rfl (lv_at hl 0 rfl) ?_
  refine lv_iconst (v := 0) hx hb dX6_measure_1 (by decide) ?_
  refine va_put (ci := cRm) (C := RX6) (T := TX6) (N := 2) (ty := .int) hx hb hts (by decide +kernel) tyX6 tyX6_ok nmX6 hown hK hP hD hS 0 rfl rfl 0 (by decide) (hts (.fieldLink RX6 16 "WaxrowModel" "thrown" "I") (by decide +kernel)) (fun _ h9 => h9) rfl (by decide +kernel) rfl rfl (Nat.le_of_ble_eq_true rfl) dX6_measure_2 (fun H locs hP hD hS => ?_)
  have hP : va_P D vwCl [(x0, .inr (cRm, [.int 0, .ref x1])), (x1, .inr (cRh, [.ref a0, .ref a1, .ref a2, .ref a3, .ref a4, .ref a5, .int 0, .int 0, .int 0, .int 0, .int 0, .int 5, .int 200, .int 30]))] H := hP
  have hD : va_D A [(x0, .inr (cRm, [.int 0, .ref x1])), (x1, .inr (cRh, [.ref a0, .ref a1, .ref a2, .ref a3, .ref a4, .ref a5, .int 0, .int 0, .int 0, .int 0, .int 0, .int 5, .int 200, .int 30]))] := hD
  refine lv_aload_n hx hb dX6_measure_5 rfl (lv_at hl 0 rfl) ?_
  refine lv_iload_n hx hb dX6_measure_6 rfl (lv_at hl 1 rfl) ?_
  refine rf_callR (As := [.int k]) (V := [(x0, .inr (cRm, [.int 0, .ref x1])), (x1, .inr (cRh, [.ref a0, .ref a1, .ref a2, .ref a3, .ref a4, .ref a5, .int 0, .int 0, .int 0, .int 0, .int 0, .int 5, .int 200, .int 30]))]) (q0 := 0) (ci := cRm) (r := (RX6, TX6, 2)) ⟨hx, hb, hml, hown, hts⟩ (rX6_isPerson l D cI cB H.size x0 x1 a0 a1 a2 a3 a4 a5 0 k) (cwV 1 hts gX6_measure_X6_isPerson rfl rfl rfl (by decide +kernel) ⟨Nat.le_of_ble_eq_true rfl, Nat.le_of_ble_eq_true rfl⟩) hK hP (hP.sub [0, 1] rfl) hS rfl rfl rfl rfl hl.1 (Nat.le_of_ble_eq_true rfl) dX6_measure_7 ⟨Nat.le_of_ble_eq_true rfl, Nat.le_of_ble_eq_true rfl⟩ rfl (fun r_ H locs hp hP hS => ?_)
  subst hp
  have hP : va_P D vwCl [(x0, .inr (cRm, [.int 0, .ref x1])), (x1, .inr (cRh, [.ref a0, .ref a1, .ref a2, .ref a3, .ref a4, .ref a5, .int 0, .int 0, .int 0, .int 0, .int 0, .int 5, .int 200, .int 30]))] H := hP
  refine lv_if_eq (tgt := 22) hx hb dX6_measure_10 (by decide) (fun c_10 => ?_) (fun c_10 => ?_)
  · refine lv_aload_n hx hb dX6_measure_22 rfl (lv_at hl 0 rfl) ?_
    refine lv_iconst (v := 1) hx hb dX6_measure_23 (by decide) ?_
    refine rf_callW (As := [.int 1]) (V := [(x0, .inr (cRm, [.int 0, .ref x1]))]) (V2 := [(x0, .inr (cRm, [.int 1, .ref x1]))]) (q0 := 0) (ci := cRm) (r := (RX6, TX6, 2)) ⟨hx, hb, hml, hown, hts⟩ (rX6_no l D cI cB H.size x0 x1 0 1 A (hD.sub [0] (by decide) rfl)) (cwV 1 hts gX6_measure_X6_no rfl rfl rfl (by decide +kernel) ⟨Nat.le_of_ble_eq_true rfl, Nat.le_of_ble_eq_true rfl⟩) hK hP (hP.sub [0] rfl) hS rfl rfl rfl rfl hl.1 (Nat.le_of_ble_eq_true rfl) dX6_measure_24 ⟨Nat.le_of_ble_eq_true rfl, Nat.le_of_ble_eq_true rfl⟩ rfl (fun r_ H locs hp hP hS => ?_)
    subst hp
    have hP : va_P D vwCl [(x0, .inr (cRm, [.int 1, .ref x1]))] H := hP
    exact W.iret (v := 0) hx hb hr (fun U9 ht hW9 => ⟨⟨0, (), rfl, rfl, by show va_P D vwCl _ U9.heap; rw [ht]; exact hP.sub [0] rfl⟩, hS.F ht⟩) hS.2.2 dX6_measure_27
  · exact absurd (by decide +kernel) c_10
set_option maxHeartbeats 4000000 in
set_option maxRecDepth 100000 in
/-- the reference: pay -/
theorem rX6_pay (l : Launch) (D : va_G) (cI cB : ClassId) (sz : Nat) (x0 x1 a0 a1 a2 a3 a4 a5 : Nat) (t k : Int32) (A : Nat → Prop) (hD : va_D A [(x0, .inr (cRm, [.int t, .ref x1])), (x1, .inr (cRh, [.ref a0, .ref a1, .ref a2, .ref a3, .ref a4, .ref a5, .int 0, .int 0, .int 0, .int 0, .int 0, .int 5, .int 200, .int 30]))]) : rf_Mi l yX6_pay wsX6_pay ({ frames := 2, cells := 0, slots := 0, locals := 55 }) D [(cI, .int), (cB, .array .int)] sz [(x0, .inr (cRm, [.int t, .ref x1])), (x1, .inr (cRh, [.ref a0, .ref a1, .ref a2, .ref a3, .ref a4, .ref a5, .int 0, .int 0, .int 0, .int 0, .int 0, .int 5, .int 200, .int 30]))] [(x0, .inr (cRm, [.int 1, .ref x1]))] A [.ref x0, .int k] (fun r => r = 0) 0 0 := by
  refine Met.ofW (cc := cX6_pay) (maxL := 3) (ret := (some .int)) (by decide) rfl ?_
  intro p e s m args below meth c s₁ B hml hv
  obtain ⟨rfl, hsz, hP, hK⟩ := hv
  have hx := B.exec
  have hb := B.bytes
  have hr := B.returns
  have hts := atoms_spec (ws := wsX6_pay) B.pre
  have hown : s.vm.findClass RX6 = some m.cls := findClass_of_methodNamed B.named
  have hlocks := B.notSynchronized
  have hS : va_S A s.heap s.heap [] := va_S.rf
  have hP : va_P D vwCl [(x0, .inr (cRm, [.int t, .ref x1])), (x1, .inr (cRh, [.ref a0, .ref a1, .ref a2, .ref a3, .ref a4, .ref a5, .int 0, .int 0, .int 0, .int 0, .int 0, .int 5, .int 200, .int 30]))] s.heap := hP
  have hl := lv_entry ([.ref x0, .int k]) (n := 3) (Nat.le_of_ble_eq_true rfl)
  rw [lg_entry_eq]
  generalize (lg_sl ([.ref x0, .int k]) ++ List.replicate (3 - (lg_sl ([.ref x0, .int k])).length) Slot.unset).toArray = ls at hl ⊢
  have hl : lv_has ls 3 [(0, .ref x0), (1, .int k)] := hl
  refine lv_aload_n hx hb dX6_pay_0 rfl (lv_at hl 0 rfl) ?_
  refine lv_iconst (v := 0) hx hb dX6_pay_1 (by decide) ?_
  refine va_put (ci := cRm) (C := RX6) (T := TX6) (N := 2) (ty := .int) hx hb hts (by decide +kernel) tyX6 tyX6_ok nmX6 hown hK hP hD hS 0 rfl rfl 0 (by decide) (hts (.fieldLink RX6 16 "WaxrowModel" "thrown" "I") (by decide +kernel)) (fun _ h9 => h9) rfl (by decide +kernel) rfl rfl (Nat.le_of_ble_eq_true rfl) dX6_pay_2 (fun H locs hP hD hS => ?_)
  have hP : va_P D vwCl [(x0, .inr (cRm, [.int 0, .ref x1])), (x1, .inr (cRh, [.ref a0, .ref a1, .ref a2, .ref a3, .ref a4, .ref a5, .int 0, .int 0, .int 0, .int 0, .int 0, .int 5, .int 200, .int 30]))] H := hP
  have hD : va_D A [(x0, .inr (cRm, [.int 0, .ref x1])), (x1, .inr (cRh, [.ref a0, .ref a1, .ref a2, .ref a3, .ref a4, .ref a5, .int 0, .int 0, .int 0, .int 0, .int 0, .int 5, .int 200, .int 30]))] := hD
  refine lv_aload_n hx hb dX6_pay_5 rfl (lv_at hl 0 rfl) ?_
  refine lv_iload_n hx hb dX6_pay_6 rfl (lv_at hl 1 rfl) ?_
  refine rf_callR (As := [.int k]) (V := [(x0, .inr (cRm, [.int 0, .ref x1])), (x1, .inr (cRh, [.ref a0, .ref a1, .ref a2, .ref a3, .ref a4, .ref a5, .int 0, .int 0, .int 0, .int 0, .int 0, .int 5, .int 200, .int 30]))]) (q0 := 0) (ci := cRm) (r := (RX6, TX6, 2)) ⟨hx, hb, hml, hown, hts⟩ (rX6_isPerson l D cI cB H.size x0 x1 a0 a1 a2 a3 a4 a5 0 k) (cwV 1 hts gX6_pay_X6_isPerson rfl rfl rfl (by decide +kernel) ⟨Nat.le_of_ble_eq_true rfl, Nat.le_of_ble_eq_true rfl⟩) hK hP (hP.sub [0, 1] rfl) hS rfl rfl rfl rfl hl.1 (Nat.le_of_ble_eq_true rfl) dX6_pay_7 ⟨Nat.le_of_ble_eq_true rfl, Nat.le_of_ble_eq_true rfl⟩ rfl (fun r_ H locs hp hP hS => ?_)
  subst hp
  have hP : va_P D vwCl [(x0, .inr (cRm, [.int 0, .ref x1])), (x1, .inr (cRh, [.ref a0, .ref a1, .ref a2, .ref a3, .ref a4, .ref a5, .int 0, .int 0, .int 0, .int 0, .int 0, .int 5, .int 200, .int 30]))] H := hP
  refine lv_if_ne (tgt := 19) hx hb dX6_pay_10 (by decide) (fun c_10 => ?_) (fun c_10 => ?_)
  · exact absurd c_10 (by decide +kernel)
  · refine lv_aload_n hx hb dX6_pay_13 rfl (lv_at hl 0 rfl) ?_
    refine lv_iconst (v := 1) hx hb dX6_pay_14 (by decide) ?_
    refine rf_callW (As := [.int 1]) (V := [(x0, .inr (cRm, [.int 0, .ref x1]))]) (V2 := [(x0, .inr (cRm, [.int 1, .ref x1]))]) (q0 := 0) (ci := cRm) (r := (RX6, TX6, 2)) ⟨hx, hb, hml, hown, hts⟩ (rX6_no l D cI cB H.size x0 x1 0 1 A (hD.sub [0] (by decide) rfl)) (cwV 1 hts gX6_pay_X6_no rfl rfl rfl (by decide +kernel) ⟨Nat.le_of_ble_eq_true rfl, Nat.le_of_ble_eq_true rfl⟩) hK hP (hP.sub [0] rfl) hS rfl rfl rfl rfl hl.1 (Nat.le_of_ble_eq_true rfl) dX6_pay_15 ⟨Nat.le_of_ble_eq_true rfl, Nat.le_of_ble_eq_true rfl⟩ rfl (fun r_ H locs hp hP hS => ?_)
    subst hp
    have hP : va_P D vwCl [(x0, .inr (cRm, [.int 1, .ref x1]))] H := hP
    exact W.iret (v := 0) hx hb hr (fun U9 ht hW9 => ⟨⟨0, (), rfl, rfl, by show va_P D vwCl _ U9.heap; rw [ht]; exact hP.sub [0] rfl⟩, hS.F ht⟩) hS.2.2 dX6_pay_18
set_option maxHeartbeats 4000000 in
set_option maxRecDepth 100000 in
/-- the reference: figure -/
theorem rX6_figure (l : Launch) (D : va_G) (cI cB : ClassId) (sz : Nat) (x0 x1 a0 a1 a2 a3 a4 a5 : Nat) (t k : Int32) (A : Nat → Prop) (hD : va_D A [(x0, .inr (cRm, [.int t, .ref x1])), (x1, .inr (cRh, [.ref a0, .ref a1, .ref a2, .ref a3, .ref a4, .ref a5, .int 0, .int 0, .int 0, .int 0, .int 0, .int 5, .int 200, .int 30]))]) : rf_Mi l yX6_figure wsX6_figure ({ frames := 2, cells := 0, slots := 0, locals := 55 }) D [(cI, .int), (cB, .array .int)] sz [(x0, .inr (cRm, [.int t, .ref x1])), (x1, .inr (cRh, [.ref a0, .ref a1, .ref a2, .ref a3, .ref a4, .ref a5, .int 0, .int 0, .int 0, .int 0, .int 0, .int 5, .int 200, .int 30]))] [(x0, .inr (cRm, [.int 1, .ref x1]))] A [.ref x0, .int k] (fun r => r = 0) 0 0 := by
  refine Met.ofW (cc := cX6_figure) (maxL := 3) (ret := (some .int)) (by decide) rfl ?_
  intro p e s m args below meth c s₁ B hml hv
  obtain ⟨rfl, hsz, hP, hK⟩ := hv
  have hx := B.exec
  have hb := B.bytes
  have hr := B.returns
  have hts := atoms_spec (ws := wsX6_figure) B.pre
  have hown : s.vm.findClass RX6 = some m.cls := findClass_of_methodNamed B.named
  have hlocks := B.notSynchronized
  have hS : va_S A s.heap s.heap [] := va_S.rf
  have hP : va_P D vwCl [(x0, .inr (cRm, [.int t, .ref x1])), (x1, .inr (cRh, [.ref a0, .ref a1, .ref a2, .ref a3, .ref a4, .ref a5, .int 0, .int 0, .int 0, .int 0, .int 0, .int 5, .int 200, .int 30]))] s.heap := hP
  have hl := lv_entry ([.ref x0, .int k]) (n := 3) (Nat.le_of_ble_eq_true rfl)
  rw [lg_entry_eq]
  generalize (lg_sl ([.ref x0, .int k]) ++ List.replicate (3 - (lg_sl ([.ref x0, .int k])).length) Slot.unset).toArray = ls at hl ⊢
  have hl : lv_has ls 3 [(0, .ref x0), (1, .int k)] := hl
  refine lv_aload_n hx hb dX6_figure_0 rfl (lv_at hl 0 rfl) ?_
  refine lv_iconst (v := 0) hx hb dX6_figure_1 (by decide) ?_
  refine va_put (ci := cRm) (C := RX6) (T := TX6) (N := 2) (ty := .int) hx hb hts (by decide +kernel) tyX6 tyX6_ok nmX6 hown hK hP hD hS 0 rfl rfl 0 (by decide) (hts (.fieldLink RX6 16 "WaxrowModel" "thrown" "I") (by decide +kernel)) (fun _ h9 => h9) rfl (by decide +kernel) rfl rfl (Nat.le_of_ble_eq_true rfl) dX6_figure_2 (fun H locs hP hD hS => ?_)
  have hP : va_P D vwCl [(x0, .inr (cRm, [.int 0, .ref x1])), (x1, .inr (cRh, [.ref a0, .ref a1, .ref a2, .ref a3, .ref a4, .ref a5, .int 0, .int 0, .int 0, .int 0, .int 0, .int 5, .int 200, .int 30]))] H := hP
  have hD : va_D A [(x0, .inr (cRm, [.int 0, .ref x1])), (x1, .inr (cRh, [.ref a0, .ref a1, .ref a2, .ref a3, .ref a4, .ref a5, .int 0, .int 0, .int 0, .int 0, .int 0, .int 5, .int 200, .int 30]))] := hD
  refine lv_aload_n hx hb dX6_figure_5 rfl (lv_at hl 0 rfl) ?_
  refine lv_iload_n hx hb dX6_figure_6 rfl (lv_at hl 1 rfl) ?_
  refine rf_callR (As := [.int k]) (V := [(x0, .inr (cRm, [.int 0, .ref x1])), (x1, .inr (cRh, [.ref a0, .ref a1, .ref a2, .ref a3, .ref a4, .ref a5, .int 0, .int 0, .int 0, .int 0, .int 0, .int 5, .int 200, .int 30]))]) (q0 := 0) (ci := cRm) (r := (RX6, TX6, 2)) ⟨hx, hb, hml, hown, hts⟩ (rX6_isPerson l D cI cB H.size x0 x1 a0 a1 a2 a3 a4 a5 0 k) (cwV 1 hts gX6_figure_X6_isPerson rfl rfl rfl (by decide +kernel) ⟨Nat.le_of_ble_eq_true rfl, Nat.le_of_ble_eq_true rfl⟩) hK hP (hP.sub [0, 1] rfl) hS rfl rfl rfl rfl hl.1 (Nat.le_of_ble_eq_true rfl) dX6_figure_7 ⟨Nat.le_of_ble_eq_true rfl, Nat.le_of_ble_eq_true rfl⟩ rfl (fun r_ H locs hp hP hS => ?_)
  subst hp
  have hP : va_P D vwCl [(x0, .inr (cRm, [.int 0, .ref x1])), (x1, .inr (cRh, [.ref a0, .ref a1, .ref a2, .ref a3, .ref a4, .ref a5, .int 0, .int 0, .int 0, .int 0, .int 0, .int 5, .int 200, .int 30]))] H := hP
  refine lv_if_ne (tgt := 19) hx hb dX6_figure_10 (by decide) (fun c_10 => ?_) (fun c_10 => ?_)
  · exact absurd c_10 (by decide +kernel)
  · refine lv_aload_n hx hb dX6_figure_13 rfl (lv_at hl 0 rfl) ?_
    refine lv_iconst (v := 1) hx hb dX6_figure_14 (by decide) ?_
    refine rf_callW (As := [.int 1]) (V := [(x0, .inr (cRm, [.int 0, .ref x1]))]) (V2 := [(x0, .inr (cRm, [.int 1, .ref x1]))]) (q0 := 0) (ci := cRm) (r := (RX6, TX6, 2)) ⟨hx, hb, hml, hown, hts⟩ (rX6_no l D cI cB H.size x0 x1 0 1 A (hD.sub [0] (by decide) rfl)) (cwV 1 hts gX6_figure_X6_no rfl rfl rfl (by decide +kernel) ⟨Nat.le_of_ble_eq_true rfl, Nat.le_of_ble_eq_true rfl⟩) hK hP (hP.sub [0] rfl) hS rfl rfl rfl rfl hl.1 (Nat.le_of_ble_eq_true rfl) dX6_figure_15 ⟨Nat.le_of_ble_eq_true rfl, Nat.le_of_ble_eq_true rfl⟩ rfl (fun r_ H locs hp hP hS => ?_)
    subst hp
    have hP : va_P D vwCl [(x0, .inr (cRm, [.int 1, .ref x1]))] H := hP
    exact W.iret (v := 0) hx hb hr (fun U9 ht hW9 => ⟨⟨0, (), rfl, rfl, by show va_P D vwCl _ U9.heap; rw [ht]; exact hP.sub [0] rfl⟩, hS.F ht⟩) hS.2.2 dX6_figure_18
set_option maxHeartbeats 4000000 in
set_option maxRecDepth 100000 in
/-- the reference: ofPerson -/
theorem rX6_ofPerson (l : Launch) (D : va_G) (cI cB : ClassId) (sz : Nat) (x0 x1 a0 a1 a2 a3 a4 a5 : Nat) (t k u : Int32) (A : Nat → Prop) (hD : va_D A [(x0, .inr (cRm, [.int t, .ref x1])), (x1, .inr (cRh, [.ref a0, .ref a1, .ref a2, .ref a3, .ref a4, .ref a5, .int 0, .int 0, .int 0, .int 0, .int 0, .int 5, .int 200, .int 30]))]) : rf_Mi l yX6_ofPerson wsX6_ofPerson ({ frames := 2, cells := 0, slots := 0, locals := 55 }) D [(cI, .int), (cB, .array .int)] sz [(x0, .inr (cRm, [.int t, .ref x1])), (x1, .inr (cRh, [.ref a0, .ref a1, .ref a2, .ref a3, .ref a4, .ref a5, .int 0, .int 0, .int 0, .int 0, .int 0, .int 5, .int 200, .int 30]))] [(x0, .inr (cRm, [.int 1, .ref x1]))] A [.ref x0, .int k, .int u] (fun r => r = 0) 0 0 := by
  refine Met.ofW (cc := cX6_ofPerson) (maxL := 3) (ret := (some .int)) (by decide) rfl ?_
  intro p e s m args below meth c s₁ B hml hv
  obtain ⟨rfl, hsz, hP, hK⟩ := hv
  have hx := B.exec
  have hb := B.bytes
  have hr := B.returns
  have hts := atoms_spec (ws := wsX6_ofPerson) B.pre
  have hown : s.vm.findClass RX6 = some m.cls := findClass_of_methodNamed B.named
  have hlocks := B.notSynchronized
  have hS : va_S A s.heap s.heap [] := va_S.rf
  have hP : va_P D vwCl [(x0, .inr (cRm, [.int t, .ref x1])), (x1, .inr (cRh, [.ref a0, .ref a1, .ref a2, .ref a3, .ref a4, .ref a5, .int 0, .int 0, .int 0, .int 0, .int 0, .int 5, .int 200, .int 30]))] s.heap := hP
  have hl := lv_entry ([.ref x0, .int k, .int u]) (n := 3) (Nat.le_of_ble_eq_true rfl)
  rw [lg_entry_eq]
  generalize (lg_sl ([.ref x0, .int k, .int u]) ++ List.replicate (3 - (lg_sl ([.ref x0, .int k, .int u])).length) Slot.unset).toArray = ls at hl ⊢
  have hl : lv_has ls 3 [(0, .ref x0), (1, .int k), (2, .int u)] := hl
  refine lv_aload_n hx hb dX6_ofPerson_0 rfl (lv_at hl 0 rfl) ?_
  refine lv_iconst (v := 0) hx hb dX6_ofPerson_1 (by decide) ?_
  refine va_put (ci := cRm) (C := RX6) (T := TX6) (N := 2) (ty := .int) hx hb hts (by decide +kernel) tyX6 tyX6_ok nmX6 hown hK hP hD hS 0 rfl rfl 0 (by decide) (hts (.fieldLink RX6 16 "WaxrowModel" "thrown" "I") (by decide +kernel)) (fun _ h9 => h9) rfl (by decide +kernel) rfl rfl (Nat.le_of_ble_eq_true rfl) dX6_ofPerson_2 (fun H locs hP hD hS => ?_)
  have hP : va_P D vwCl [(x0, .inr (cRm, [.int 0, .ref x1])), (x1, .inr (cRh, [.ref a0, .ref a1, .ref a2, .ref a3, .ref a4, .ref a5, .int 0, .int 0, .int 0, .int 0, .int 0, .int 5, .int 200, .int 30]))] H := hP
  have hD : va_D A [(x0, .inr (cRm, [.int 0, .ref x1])), (x1, .inr (cRh, [.ref a0, .ref a1, .ref a2, .ref a3, .ref a4, .ref a5, .int 0, .int 0, .int 0, .int 0, .int 0, .int 5, .int 200, .int 30]))] := hD
  refine lv_aload_n hx hb dX6_ofPerson_5 rfl (lv_at hl 0 rfl) ?_
  refine lv_iload_n hx hb dX6_ofPerson_6 rfl (lv_at hl 1 rfl) ?_
  refine rf_callR (As := [.int k]) (V := [(x0, .inr (cRm, [.int 0, .ref x1])), (x1, .inr (cRh, [.ref a0, .ref a1, .ref a2, .ref a3, .ref a4, .ref a5, .int 0, .int 0, .int 0, .int 0, .int 0, .int 5, .int 200, .int 30]))]) (q0 := 0) (ci := cRm) (r := (RX6, TX6, 2)) ⟨hx, hb, hml, hown, hts⟩ (rX6_isPerson l D cI cB H.size x0 x1 a0 a1 a2 a3 a4 a5 0 k) (cwV 1 hts gX6_ofPerson_X6_isPerson rfl rfl rfl (by decide +kernel) ⟨Nat.le_of_ble_eq_true rfl, Nat.le_of_ble_eq_true rfl⟩) hK hP (hP.sub [0, 1] rfl) hS rfl rfl rfl rfl hl.1 (Nat.le_of_ble_eq_true rfl) dX6_ofPerson_7 ⟨Nat.le_of_ble_eq_true rfl, Nat.le_of_ble_eq_true rfl⟩ rfl (fun r_ H locs hp hP hS => ?_)
  subst hp
  have hP : va_P D vwCl [(x0, .inr (cRm, [.int 0, .ref x1])), (x1, .inr (cRh, [.ref a0, .ref a1, .ref a2, .ref a3, .ref a4, .ref a5, .int 0, .int 0, .int 0, .int 0, .int 0, .int 5, .int 200, .int 30]))] H := hP
  refine lv_if_ne (tgt := 19) hx hb dX6_ofPerson_10 (by decide) (fun c_10 => ?_) (fun c_10 => ?_)
  · exact absurd c_10 (by decide +kernel)
  · refine lv_aload_n hx hb dX6_ofPerson_13 rfl (lv_at hl 0 rfl) ?_
    refine lv_iconst (v := 1) hx hb dX6_ofPerson_14 (by decide) ?_
    refine rf_callW (As := [.int 1]) (V := [(x0, .inr (cRm, [.int 0, .ref x1]))]) (V2 := [(x0, .inr (cRm, [.int 1, .ref x1]))]) (q0 := 0) (ci := cRm) (r := (RX6, TX6, 2)) ⟨hx, hb, hml, hown, hts⟩ (rX6_no l D cI cB H.size x0 x1 0 1 A (hD.sub [0] (by decide) rfl)) (cwV 1 hts gX6_ofPerson_X6_no rfl rfl rfl (by decide +kernel) ⟨Nat.le_of_ble_eq_true rfl, Nat.le_of_ble_eq_true rfl⟩) hK hP (hP.sub [0] rfl) hS rfl rfl rfl rfl hl.1 (Nat.le_of_ble_eq_true rfl) dX6_ofPerson_15 ⟨Nat.le_of_ble_eq_true rfl, Nat.le_of_ble_eq_true rfl⟩ rfl (fun r_ H locs hp hP hS => ?_)
    subst hp
    have hP : va_P D vwCl [(x0, .inr (cRm, [.int 1, .ref x1]))] H := hP
    exact W.iret (v := 0) hx hb hr (fun U9 ht hW9 => ⟨⟨0, (), rfl, rfl, by show va_P D vwCl _ U9.heap; rw [ht]; exact hP.sub [0] rfl⟩, hS.F ht⟩) hS.2.2 dX6_ofPerson_18
set_option maxHeartbeats 4000000 in
set_option maxRecDepth 100000 in
/-- the reference: known -/
theorem rX6_known (l : Launch) (D : va_G) (cI cB : ClassId) (sz : Nat) (x0 x1 a0 a1 a2 a3 a4 a5 : Nat) (t k u v : Int32) (A : Nat → Prop) (hD : va_D A [(x0, .inr (cRm, [.int t, .ref x1])), (x1, .inr (cRh, [.ref a0, .ref a1, .ref a2, .ref a3, .ref a4, .ref a5, .int 0, .int 0, .int 0, .int 0, .int 0, .int 5, .int 200, .int 30]))]) : rf_Mi l yX6_known wsX6_known ({ frames := 2, cells := 0, slots := 0, locals := 55 }) D [(cI, .int), (cB, .array .int)] sz [(x0, .inr (cRm, [.int t, .ref x1])), (x1, .inr (cRh, [.ref a0, .ref a1, .ref a2, .ref a3, .ref a4, .ref a5, .int 0, .int 0, .int 0, .int 0, .int 0, .int 5, .int 200, .int 30]))] [(x0, .inr (cRm, [.int 1, .ref x1]))] A [.ref x0, .int k, .int u, .int v] (fun r => r = 0) 0 0 := by
  refine Met.ofW (cc := cX6_known) (maxL := 4) (ret := (some .int)) (by decide) rfl ?_
  intro p e s m args below meth c s₁ B hml hv
  obtain ⟨rfl, hsz, hP, hK⟩ := hv
  have hx := B.exec
  have hb := B.bytes
  have hr := B.returns
  have hts := atoms_spec (ws := wsX6_known) B.pre
  have hown : s.vm.findClass RX6 = some m.cls := findClass_of_methodNamed B.named
  have hlocks := B.notSynchronized
  have hS : va_S A s.heap s.heap [] := va_S.rf
  have hP : va_P D vwCl [(x0, .inr (cRm, [.int t, .ref x1])), (x1, .inr (cRh, [.ref a0, .ref a1, .ref a2, .ref a3, .ref a4, .ref a5, .int 0, .int 0, .int 0, .int 0, .int 0, .int 5, .int 200, .int 30]))] s.heap := hP
  have hl := lv_entry ([.ref x0, .int k, .int u, .int v]) (n := 4) (Nat.le_of_ble_eq_true rfl)
  rw [lg_entry_eq]
  generalize (lg_sl ([.ref x0, .int k, .int u, .int v]) ++ List.replicate (4 - (lg_sl ([.ref x0, .int k, .int u, .int v])).length) Slot.unset).toArray = ls at hl ⊢
  have hl : lv_has ls 4 [(0, .ref x0), (1, .int k), (2, .int u), (3, .int v)] := hl
  refine lv_aload_n hx hb dX6_known_0 rfl (lv_at hl 0 rfl) ?_
  refine lv_iconst (v := 0) hx hb dX6_known_1 (by decide) ?_
  refine va_put (ci := cRm) (C := RX6) (T := TX6) (N := 2) (ty := .int) hx hb hts (by decide +kernel) tyX6 tyX6_ok nmX6 hown hK hP hD hS 0 rfl rfl 0 (by decide) (hts (.fieldLink RX6 16 "WaxrowModel" "thrown" "I") (by decide +kernel)) (fun _ h9 => h9) rfl (by decide +kernel) rfl rfl (Nat.le_of_ble_eq_true rfl) dX6_known_2 (fun H locs hP hD hS => ?_)
  have hP : va_P D vwCl [(x0, .inr (cRm, [.int 0, .ref x1])), (x1, .inr (cRh, [.ref a0, .ref a1, .ref a2, .ref a3, .ref a4, .ref a5, .int 0, .int 0, .int 0, .int 0, .int 0, .int 5, .int 200, .int 30]))] H := hP
  have hD : va_D A [(x0, .inr (cRm, [.int 0, .ref x1])), (x1, .inr (cRh, [.ref a0, .ref a1, .ref a2, .ref a3, .ref a4, .ref a5, .int 0, .int 0, .int 0, .int 0, .int 0, .int 5, .int 200, .int 30]))] := hD
  refine lv_aload_n hx hb dX6_known_5 rfl (lv_at hl 0 rfl) ?_
  refine lv_iload_n hx hb dX6_known_6 rfl (lv_at hl 1 rfl) ?_
  refine rf_callR (As := [.int k]) (V := [(x0, .inr (cRm, [.int 0, .ref x1])), (x1, .inr (cRh, [.ref a0, .ref a1, .ref a2, .ref a3, .ref a4, .ref a5, .int 0, .int 0, .int 0, .int 0, .int 0, .int 5, .int 200, .int 30]))]) (q0 := 0) (ci := cRm) (r := (RX6, TX6, 2)) ⟨hx, hb, hml, hown, hts⟩ (rX6_isPerson l D cI cB H.size x0 x1 a0 a1 a2 a3 a4 a5 0 k) (cwV 1 hts gX6_known_X6_isPerson rfl rfl rfl (by decide +kernel) ⟨Nat.le_of_ble_eq_true rfl, Nat.le_of_ble_eq_true rfl⟩) hK hP (hP.sub [0, 1] rfl) hS rfl rfl rfl rfl hl.1 (Nat.le_of_ble_eq_true rfl) dX6_known_7 ⟨Nat.le_of_ble_eq_true rfl, Nat.le_of_ble_eq_true rfl⟩ rfl (fun r_ H locs hp hP hS => ?_)
  subst hp
  have hP : va_P D vwCl [(x0, .inr (cRm, [.int 0, .ref x1])), (x1, .inr (cRh, [.ref a0, .ref a1, .ref a2, .ref a3, .ref a4, .ref a5, .int 0, .int 0, .int 0, .int 0, .int 0, .int 5, .int 200, .int 30]))] H := hP
  refine lv_if_eq (tgt := 22) hx hb dX6_known_10 (by decide) (fun c_10 => ?_) (fun c_10 => ?_)
  · refine lv_aload_n hx hb dX6_known_22 rfl (lv_at hl 0 rfl) ?_
    refine lv_iconst (v := 1) hx hb dX6_known_23 (by decide) ?_
    refine rf_callW (As := [.int 1]) (V := [(x0, .inr (cRm, [.int 0, .ref x1]))]) (V2 := [(x0, .inr (cRm, [.int 1, .ref x1]))]) (q0 := 0) (ci := cRm) (r := (RX6, TX6, 2)) ⟨hx, hb, hml, hown, hts⟩ (rX6_no l D cI cB H.size x0 x1 0 1 A (hD.sub [0] (by decide) rfl)) (cwV 1 hts gX6_known_X6_no rfl rfl rfl (by decide +kernel) ⟨Nat.le_of_ble_eq_true rfl, Nat.le_of_ble_eq_true rfl⟩) hK hP (hP.sub [0] rfl) hS rfl rfl rfl rfl hl.1 (Nat.le_of_ble_eq_true rfl) dX6_known_24 ⟨Nat.le_of_ble_eq_true rfl, Nat.le_of_ble_eq_true rfl⟩ rfl (fun r_ H locs hp hP hS => ?_)
    subst hp
    have hP : va_P D vwCl [(x0, .inr (cRm, [.int 1, .ref x1]))] H := hP
    exact W.iret (v := 0) hx hb hr (fun U9 ht hW9 => ⟨⟨0, (), rfl, rfl, by show va_P D vwCl _ U9.heap; rw [ht]; exact hP.sub [0] rfl⟩, hS.F ht⟩) hS.2.2 dX6_known_27
  · exact absurd (by decide +kernel) c_10
set_option maxHeartbeats 4000000 in
set_option maxRecDepth 100000 in
/-- the reference: wouldFame -/
theorem rX6_wouldFame (l : Launch) (D : va_G) (cI cB : ClassId) (sz : Nat) (x0 x1 a0 a1 a2 a3 a4 a5 : Nat) (t k u v : Int32) (A : Nat → Prop) (hD : va_D A [(x0, .inr (cRm, [.int t, .ref x1])), (x1, .inr (cRh, [.ref a0, .ref a1, .ref a2, .ref a3, .ref a4, .ref a5, .int 0, .int 0, .int 0, .int 0, .int 0, .int 5, .int 200, .int 30]))]) : rf_Mi l yX6_wouldFame wsX6_wouldFame ({ frames := 2, cells := 0, slots := 0, locals := 55 }) D [(cI, .int), (cB, .array .int)] sz [(x0, .inr (cRm, [.int t, .ref x1])), (x1, .inr (cRh, [.ref a0, .ref a1, .ref a2, .ref a3, .ref a4, .ref a5, .int 0, .int 0, .int 0, .int 0, .int 0, .int 5, .int 200, .int 30]))] [(x0, .inr (cRm, [.int 1, .ref x1]))] A [.ref x0, .int k, .int u, .int v] (fun r => r = 0) 0 0 := by
  refine Met.ofW (cc := cX6_wouldFame) (maxL := 4) (ret := (some .int)) (by decide) rfl ?_
  intro p e s m args below meth c s₁ B hml hv
  obtain ⟨rfl, hsz, hP, hK⟩ := hv
  have hx := B.exec
  have hb := B.bytes
  have hr := B.returns
  have hts := atoms_spec (ws := wsX6_wouldFame) B.pre
  have hown : s.vm.findClass RX6 = some m.cls := findClass_of_methodNamed B.named
  have hlocks := B.notSynchronized
  have hS : va_S A s.heap s.heap [] := va_S.rf
  have hP : va_P D vwCl [(x0, .inr (cRm, [.int t, .ref x1])), (x1, .inr (cRh, [.ref a0, .ref a1, .ref a2, .ref a3, .ref a4, .ref a5, .int 0, .int 0, .int 0, .int 0, .int 0, .int 5, .int 200, .int 30]))] s.heap := hP
  have hl := lv_entry ([.ref x0, .int k, .int u, .int v]) (n := 4) (Nat.le_of_ble_eq_true rfl)
  rw [lg_entry_eq]
  generalize (lg_sl ([.ref x0, .int k, .int u, .int v]) ++ List.replicate (4 - (lg_sl ([.ref x0, .int k, .int u, .int v])).length) Slot.unset).toArray = ls at hl ⊢
  have hl : lv_has ls 4 [(0, .ref x0), (1, .int k), (2, .int u), (3, .int v)] := hl
  refine lv_aload_n hx hb dX6_wouldFame_0 rfl (lv_at hl 0 rfl) ?_
  refine lv_iconst (v := 0) hx hb dX6_wouldFame_1 (by decide) ?_
  refine va_put (ci := cRm) (C := RX6) (T := TX6) (N := 2) (ty := .int) hx hb hts (by decide +kernel) tyX6 tyX6_ok nmX6 hown hK hP hD hS 0 rfl rfl 0 (by decide) (hts (.fieldLink RX6 16 "WaxrowModel" "thrown" "I") (by decide +kernel)) (fun _ h9 => h9) rfl (by decide +kernel) rfl rfl (Nat.le_of_ble_eq_true rfl) dX6_wouldFame_2 (fun H locs hP hD hS => ?_)
  have hP : va_P D vwCl [(x0, .inr (cRm, [.int 0, .ref x1])), (x1, .inr (cRh, [.ref a0, .ref a1, .ref a2, .ref a3, .ref a4, .ref a5, .int 0, .int 0, .int 0, .int 0, .int 0, .int 5, .int 200, .int 30]))] H := hP
  have hD : va_D A [(x0, .inr (cRm, [.int 0, .ref x1])), (x1, .inr (cRh, [.ref a0, .ref a1, .ref a2, .ref a3, .ref a4, .ref a5, .int 0, .int 0, .int 0, .int 0, .int 0, .int 5, .int 200, .int 30]))] := hD
  refine lv_aload_n hx hb dX6_wouldFame_5 rfl (lv_at hl 0 rfl) ?_
  refine lv_iload_n hx hb dX6_wouldFame_6 rfl (lv_at hl 1 rfl) ?_
  refine rf_callR (As := [.int k]) (V := [(x0, .inr (cRm, [.int 0, .ref x1])), (x1, .inr (cRh, [.ref a0, .ref a1, .ref a2, .ref a3, .ref a4, .ref a5, .int 0, .int 0, .int 0, .int 0, .int 0, .int 5, .int 200, .int 30]))]) (q0 := 0) (ci := cRm) (r := (RX6, TX6, 2)) ⟨hx, hb, hml, hown, hts⟩ (rX6_isPerson l D cI cB H.size x0 x1 a0 a1 a2 a3 a4 a5 0 k) (cwV 1 hts gX6_wouldFame_X6_isPerson rfl rfl rfl (by decide +kernel) ⟨Nat.le_of_ble_eq_true rfl, Nat.le_of_ble_eq_true rfl⟩) hK hP (hP.sub [0, 1] rfl) hS rfl rfl rfl rfl hl.1 (Nat.le_of_ble_eq_true rfl) dX6_wouldFame_7 ⟨Nat.le_of_ble_eq_true rfl, Nat.le_of_ble_eq_true rfl⟩ rfl (fun r_ H locs hp hP hS => ?_)
  subst hp
  have hP : va_P D vwCl [(x0, .inr (cRm, [.int 0, .ref x1])), (x1, .inr (cRh, [.ref a0, .ref a1, .ref a2, .ref a3, .ref a4, .ref a5, .int 0, .int 0, .int 0, .int 0, .int 0, .int 5, .int 200, .int 30]))] H := hP
  refine lv_if_eq (tgt := 22) hx hb dX6_wouldFame_10 (by decide) (fun c_10 => ?_) (fun c_10 => ?_)
  · refine lv_aload_n hx hb dX6_wouldFame_22 rfl (lv_at hl 0 rfl) ?_
    refine lv_iconst (v := 1) hx hb dX6_wouldFame_23 (by decide) ?_
    refine rf_callW (As := [.int 1]) (V := [(x0, .inr (cRm, [.int 0, .ref x1]))]) (V2 := [(x0, .inr (cRm, [.int 1, .ref x1]))]) (q0 := 0) (ci := cRm) (r := (RX6, TX6, 2)) ⟨hx, hb, hml, hown, hts⟩ (rX6_no l D cI cB H.size x0 x1 0 1 A (hD.sub [0] (by decide) rfl)) (cwV 1 hts gX6_wouldFame_X6_no rfl rfl rfl (by decide +kernel) ⟨Nat.le_of_ble_eq_true rfl, Nat.le_of_ble_eq_true rfl⟩) hK hP (hP.sub [0] rfl) hS rfl rfl rfl rfl hl.1 (Nat.le_of_ble_eq_true rfl) dX6_wouldFame_24 ⟨Nat.le_of_ble_eq_true rfl, Nat.le_of_ble_eq_true rfl⟩ rfl (fun r_ H locs hp hP hS => ?_)
    subst hp
    have hP : va_P D vwCl [(x0, .inr (cRm, [.int 1, .ref x1]))] H := hP
    exact W.iret (v := 0) hx hb hr (fun U9 ht hW9 => ⟨⟨0, (), rfl, rfl, by show va_P D vwCl _ U9.heap; rw [ht]; exact hP.sub [0] rfl⟩, hS.F ht⟩) hS.2.2 dX6_wouldFame_27
  · exact absurd (by decide +kernel) c_10
set_option maxHeartbeats 4000000 in
set_option maxRecDepth 100000 in
/-- the reference: work -/
theorem rX6_work (l : Launch) (D : va_G) (cI cB : ClassId) (sz : Nat) (x0 x1 a0 a1 a2 a3 a4 a5 : Nat) (t k u : Int32) (A : Nat → Prop) (hD : va_D A [(x0, .inr (cRm, [.int t, .ref x1])), (x1, .inr (cRh, [.ref a0, .ref a1, .ref a2, .ref a3, .ref a4, .ref a5, .int 0, .int 0, .int 0, .int 0, .int 0, .int 5, .int 200, .int 30]))]) : rf_Mi l yX6_work wsX6_work ({ frames := 2, cells := 0, slots := 0, locals := 55 }) D [(cI, .int), (cB, .array .int)] sz [(x0, .inr (cRm, [.int t, .ref x1])), (x1, .inr (cRh, [.ref a0, .ref a1, .ref a2, .ref a3, .ref a4, .ref a5, .int 0, .int 0, .int 0, .int 0, .int 0, .int 5, .int 200, .int 30]))] [(x0, .inr (cRm, [.int 1, .ref x1]))] A [.ref x0, .int k, .int u] (fun r => r = 0) 0 0 := by
  refine Met.ofW (cc := cX6_work) (maxL := 5) (ret := (some .int)) (by decide) rfl ?_
  intro p e s m args below meth c s₁ B hml hv
  obtain ⟨rfl, hsz, hP, hK⟩ := hv
  have hx := B.exec
  have hb := B.bytes
  have hr := B.returns
  have hts := atoms_spec (ws := wsX6_work) B.pre
  have hown : s.vm.findClass RX6 = some m.cls := findClass_of_methodNamed B.named
  have hlocks := B.notSynchronized
  have hS : va_S A s.heap s.heap [] := va_S.rf
  have hP : va_P D vwCl [(x0, .inr (cRm, [.int t, .ref x1])), (x1, .inr (cRh, [.ref a0, .ref a1, .ref a2, .ref a3, .ref a4, .ref a5, .int 0, .int 0, .int 0, .int 0, .int 0, .int 5, .int 200, .int 30]))] s.heap := hP
  have hl := lv_entry ([.ref x0, .int k, .int u]) (n := 5) (Nat.le_of_ble_eq_true rfl)
  rw [lg_entry_eq]
  generalize (lg_sl ([.ref x0, .int k, .int u]) ++ List.replicate (5 - (lg_sl ([.ref x0, .int k, .int u])).length) Slot.unset).toArray = ls at hl ⊢
  have hl : lv_has ls 5 [(0, .ref x0), (1, .int k), (2, .int u)] := hl
  refine lv_aload_n hx hb dX6_work_0 rfl (lv_at hl 0 rfl) ?_
  refine lv_iconst (v := 0) hx hb dX6_work_1 (by decide) ?_
  refine va_put (ci := cRm) (C := RX6) (T := TX6) (N := 2) (ty := .int) hx hb hts (by decide +kernel) tyX6 tyX6_ok nmX6 hown hK hP hD hS 0 rfl rfl 0 (by decide) (hts (.fieldLink RX6 16 "WaxrowModel" "thrown" "I") (by decide +kernel)) (fun _ h9 => h9) rfl (by decide +kernel) rfl rfl (Nat.le_of_ble_eq_true rfl) dX6_work_2 (fun H locs hP hD hS => ?_)
  have hP : va_P D vwCl [(x0, .inr (cRm, [.int 0, .ref x1])), (x1, .inr (cRh, [.ref a0, .ref a1, .ref a2, .ref a3, .ref a4, .ref a5, .int 0, .int 0, .int 0, .int 0, .int 0, .int 5, .int 200, .int 30]))] H := hP
  have hD : va_D A [(x0, .inr (cRm, [.int 0, .ref x1])), (x1, .inr (cRh, [.ref a0, .ref a1, .ref a2, .ref a3, .ref a4, .ref a5, .int 0, .int 0, .int 0, .int 0, .int 0, .int 5, .int 200, .int 30]))] := hD
  refine lv_aload_n hx hb dX6_work_5 rfl (lv_at hl 0 rfl) ?_
  refine lv_iload_n hx hb dX6_work_6 rfl (lv_at hl 1 rfl) ?_
  refine rf_callR (As := [.int k]) (V := [(x0, .inr (cRm, [.int 0, .ref x1])), (x1, .inr (cRh, [.ref a0, .ref a1, .ref a2, .ref a3, .ref a4, .ref a5, .int 0, .int 0, .int 0, .int 0, .int 0, .int 5, .int 200, .int 30]))]) (q0 := 0) (ci := cRm) (r := (RX6, TX6, 2)) ⟨hx, hb, hml, hown, hts⟩ (rX6_isFigure l D cI cB H.size x0 x1 a0 a1 a2 a3 a4 a5 0 k) (cwV 1 hts gX6_work_X6_isFigure rfl rfl rfl (by decide +kernel) ⟨Nat.le_of_ble_eq_true rfl, Nat.le_of_ble_eq_true rfl⟩) hK hP (hP.sub [0, 1] rfl) hS rfl rfl rfl rfl hl.1 (Nat.le_of_ble_eq_true rfl) dX6_work_7 ⟨Nat.le_of_ble_eq_true rfl, Nat.le_of_ble_eq_true rfl⟩ rfl (fun r_ H locs hp hP hS => ?_)
  subst hp
  have hP : va_P D vwCl [(x0, .inr (cRm, [.int 0, .ref x1])), (x1, .inr (cRh, [.ref a0, .ref a1, .ref a2, .ref a3, .ref a4, .ref a5, .int 0, .int 0, .int 0, .int 0, .int 0, .int 5, .int 200, .int 30]))] H := hP
  refine lv_if_ne (tgt := 19) hx hb dX6_work_10 (by decide) (fun c_10 => ?_) (fun c_10 => ?_)
  · exact absurd c_10 (by decide +kernel)
  · refine lv_aload_n hx hb dX6_work_13 rfl (lv_at hl 0 rfl) ?_
    refine lv_iconst (v := 1) hx hb dX6_work_14 (by decide) ?_
    refine rf_callW (As := [.int 1]) (V := [(x0, .inr (cRm, [.int 0, .ref x1]))]) (V2 := [(x0, .inr (cRm, [.int 1, .ref x1]))]) (q0 := 0) (ci := cRm) (r := (RX6, TX6, 2)) ⟨hx, hb, hml, hown, hts⟩ (rX6_no l D cI cB H.size x0 x1 0 1 A (hD.sub [0] (by decide) rfl)) (cwV 1 hts gX6_work_X6_no rfl rfl rfl (by decide +kernel) ⟨Nat.le_of_ble_eq_true rfl, Nat.le_of_ble_eq_true rfl⟩) hK hP (hP.sub [0] rfl) hS rfl rfl rfl rfl hl.1 (Nat.le_of_ble_eq_true rfl) dX6_work_15 ⟨Nat.le_of_ble_eq_true rfl, Nat.le_of_ble_eq_true rfl⟩ rfl (fun r_ H locs hp hP hS => ?_)
    subst hp
    have hP : va_P D vwCl [(x0, .inr (cRm, [.int 1, .ref x1]))] H := hP
    exact W.iret (v := 0) hx hb hr (fun U9 ht hW9 => ⟨⟨0, (), rfl, rfl, by show va_P D vwCl _ U9.heap; rw [ht]; exact hP.sub [0] rfl⟩, hS.F ht⟩) hS.2.2 dX6_work_18
set_option maxHeartbeats 4000000 in
set_option maxRecDepth 100000 in
/-- the reference: swap -/
theorem rX6_swap (l : Launch) (D : va_G) (cI cB : ClassId) (sz : Nat) (x0 x1 a0 a1 a2 a3 a4 a5 : Nat) (t k u : Int32) (A : Nat → Prop) (hD : va_D A [(x0, .inr (cRm, [.int t, .ref x1])), (x1, .inr (cRh, [.ref a0, .ref a1, .ref a2, .ref a3, .ref a4, .ref a5, .int 0, .int 0, .int 0, .int 0, .int 0, .int 5, .int 200, .int 30]))]) : rf_Mi l yX6_swap wsX6_swap ({ frames := 2, cells := 0, slots := 0, locals := 55 }) D [(cI, .int), (cB, .array .int)] sz [(x0, .inr (cRm, [.int t, .ref x1])), (x1, .inr (cRh, [.ref a0, .ref a1, .ref a2, .ref a3, .ref a4, .ref a5, .int 0, .int 0, .int 0, .int 0, .int 0, .int 5, .int 200, .int 30]))] [(x0, .inr (cRm, [.int 1, .ref x1]))] A [.ref x0, .int k, .int u] (fun r => r = 0) 0 0 := by
  refine Met.ofW (cc := cX6_swap) (maxL := 7) (ret := (some .int)) (by decide) rfl ?_
  intro p e s m args below meth c s₁ B hml hv
  obtain ⟨rfl, hsz, hP, hK⟩ := hv
  have hx := B.exec
  have hb := B.bytes
  have hr := B.returns
  have hts := atoms_spec (ws := wsX6_swap) B.pre
  have hown : s.vm.findClass RX6 = some m.cls := findClass_of_methodNamed B.named
  have hlocks := B.notSynchronized
  have hS : va_S A s.heap s.heap [] := va_S.rf
  have hP : va_P D vwCl [(x0, .inr (cRm, [.int t, .ref x1])), (x1, .inr (cRh, [.ref a0, .ref a1, .ref a2, .ref a3, .ref a4, .ref a5, .int 0, .int 0, .int 0, .int 0, .int 0, .int 5, .int 200, .int 30]))] s.heap := hP
  have hl := lv_entry ([.ref x0, .int k, .int u]) (n := 7) (Nat.le_of_ble_eq_true rfl)
  rw [lg_entry_eq]
  generalize (lg_sl ([.ref x0, .int k, .int u]) ++ List.replicate (7 - (lg_sl ([.ref x0, .int k, .int u])).length) Slot.unset).toArray = ls at hl ⊢
  have hl : lv_has ls 7 [(0, .ref x0), (1, .int k), (2, .int u)] := hl
  refine lv_aload_n hx hb dX6_swap_0 rfl (lv_at hl 0 rfl) ?_
  refine lv_iconst (v := 0) hx hb dX6_swap_1 (by decide) ?_
  refine va_put (ci := cRm) (C := RX6) (T := TX6) (N := 2) (ty := .int) hx hb hts (by decide +kernel) tyX6 tyX6_ok nmX6 hown hK hP hD hS 0 rfl rfl 0 (by decide) (hts (.fieldLink RX6 16 "WaxrowModel" "thrown" "I") (by decide +kernel)) (fun _ h9 => h9) rfl (by decide +kernel) rfl rfl (Nat.le_of_ble_eq_true rfl) dX6_swap_2 (fun H locs hP hD hS => ?_)
  have hP : va_P D vwCl [(x0, .inr (cRm, [.int 0, .ref x1])), (x1, .inr (cRh, [.ref a0, .ref a1, .ref a2, .ref a3, .ref a4, .ref a5, .int 0, .int 0, .int 0, .int 0, .int 0, .int 5, .int 200, .int 30]))] H := hP
  have hD : va_D A [(x0, .inr (cRm, [.int 0, .ref x1])), (x1, .inr (cRh, [.ref a0, .ref a1, .ref a2, .ref a3, .ref a4, .ref a5, .int 0, .int 0, .int 0, .int 0, .int 0, .int 5, .int 200, .int 30]))] := hD
  refine lv_aload_n hx hb dX6_swap_5 rfl (lv_at hl 0 rfl) ?_
  refine lv_iload_n hx hb dX6_swap_6 rfl (lv_at hl 1 rfl) ?_
  refine rf_callR (As := [.int k]) (V := [(x0, .inr (cRm, [.int 0, .ref x1])), (x1, .inr (cRh, [.ref a0, .ref a1, .ref a2, .ref a3, .ref a4, .ref a5, .int 0, .int 0, .int 0, .int 0, .int 0, .int 5, .int 200, .int 30]))]) (q0 := 0) (ci := cRm) (r := (RX6, TX6, 2)) ⟨hx, hb, hml, hown, hts⟩ (rX6_isFigure l D cI cB H.size x0 x1 a0 a1 a2 a3 a4 a5 0 k) (cwV 1 hts gX6_swap_X6_isFigure rfl rfl rfl (by decide +kernel) ⟨Nat.le_of_ble_eq_true rfl, Nat.le_of_ble_eq_true rfl⟩) hK hP (hP.sub [0, 1] rfl) hS rfl rfl rfl rfl hl.1 (Nat.le_of_ble_eq_true rfl) dX6_swap_7 ⟨Nat.le_of_ble_eq_true rfl, Nat.le_of_ble_eq_true rfl⟩ rfl (fun r_ H locs hp hP hS => ?_)
  subst hp
  have hP : va_P D vwCl [(x0, .inr (cRm, [.int 0, .ref x1])), (x1, .inr (cRh, [.ref a0, .ref a1, .ref a2, .ref a3, .ref a4, .ref a5, .int 0, .int 0, .int 0, .int 0, .int 0, .int 5, .int 200, .int 30]))] H := hP
  refine lv_if_eq (tgt := 21) hx hb dX6_swap_10 (by decide) (fun c_10 => ?_) (fun c_10 => ?_)
  · refine lv_aload_n hx hb dX6_swap_21 rfl (lv_at hl 0 rfl) ?_
    refine lv_iconst (v := 1) hx hb dX6_swap_22 (by decide) ?_
    refine rf_callW (As := [.int 1]) (V := [(x0, .inr (cRm, [.int 0, .ref x1]))]) (V2 := [(x0, .inr (cRm, [.int 1, .ref x1]))]) (q0 := 0) (ci := cRm) (r := (RX6, TX6, 2)) ⟨hx, hb, hml, hown, hts⟩ (rX6_no l D cI cB H.size x0 x1 0 1 A (hD.sub [0] (by decide) rfl)) (cwV 1 hts gX6_swap_X6_no rfl rfl rfl (by decide +kernel) ⟨Nat.le_of_ble_eq_true rfl, Nat.le_of_ble_eq_true rfl⟩) hK hP (hP.sub [0] rfl) hS rfl rfl rfl rfl hl.1 (Nat.le_of_ble_eq_true rfl) dX6_swap_23 ⟨Nat.le_of_ble_eq_true rfl, Nat.le_of_ble_eq_true rfl⟩ rfl (fun r_ H locs hp hP hS => ?_)
    subst hp
    have hP : va_P D vwCl [(x0, .inr (cRm, [.int 1, .ref x1]))] H := hP
    exact W.iret (v := 0) hx hb hr (fun U9 ht hW9 => ⟨⟨0, (), rfl, rfl, by show va_P D vwCl _ U9.heap; rw [ht]; exact hP.sub [0] rfl⟩, hS.F ht⟩) hS.2.2 dX6_swap_26
  · exact absurd (by decide +kernel) c_10
set_option maxHeartbeats 4000000 in
set_option maxRecDepth 100000 in
/-- the reference: mend -/
theorem rX6_mend (l : Launch) (D : va_G) (cI cB : ClassId) (sz : Nat) (x0 x1 a0 a1 a2 a3 a4 a5 : Nat) (t k : Int32) (A : Nat → Prop) (hD : va_D A [(x0, .inr (cRm, [.int t, .ref x1])), (x1, .inr (cRh, [.ref a0, .ref a1, .ref a2, .ref a3, .ref a4, .ref a5, .int 0, .int 0, .int 0, .int 0, .int 0, .int 5, .int 200, .int 30]))]) : rf_Mi l yX6_mend wsX6_mend ({ frames := 2, cells := 0, slots := 0, locals := 55 }) D [(cI, .int), (cB, .array .int)] sz [(x0, .inr (cRm, [.int t, .ref x1])), (x1, .inr (cRh, [.ref a0, .ref a1, .ref a2, .ref a3, .ref a4, .ref a5, .int 0, .int 0, .int 0, .int 0, .int 0, .int 5, .int 200, .int 30]))] [(x0, .inr (cRm, [.int 1, .ref x1]))] A [.ref x0, .int k] (fun r => r = 0) 0 0 := by
  refine Met.ofW (cc := cX6_mend) (maxL := 4) (ret := (some .int)) (by decide) rfl ?_
  intro p e s m args below meth c s₁ B hml hv
  obtain ⟨rfl, hsz, hP, hK⟩ := hv
  have hx := B.exec
  have hb := B.bytes
  have hr := B.returns
  have hts := atoms_spec (ws := wsX6_mend) B.pre
  have hown : s.vm.findClass RX6 = some m.cls := findClass_of_methodNamed B.named
  have hlocks := B.notSynchronized
  have hS : va_S A s.heap s.heap [] := va_S.rf
  have hP : va_P D vwCl [(x0, .inr (cRm, [.int t, .ref x1])), (x1, .inr (cRh, [.ref a0, .ref a1, .ref a2, .ref a3, .ref a4, .ref a5, .int 0, .int 0, .int 0, .int 0, .int 0, .int 5, .int 200, .int 30]))] s.heap := hP
  have hl := lv_entry ([.ref x0, .int k]) (n := 4) (Nat.le_of_ble_eq_true rfl)
  rw [lg_entry_eq]
  generalize (lg_sl ([.ref x0, .int k]) ++ List.replicate (4 - (lg_sl ([.ref x0, .int k])).length) Slot.unset).toArray = ls at hl ⊢
  have hl : lv_has ls 4 [(0, .ref x0), (1, .int k)] := hl
  refine lv_aload_n hx hb dX6_mend_0 rfl (lv_at hl 0 rfl) ?_
  refine lv_iconst (v := 0) hx hb dX6_mend_1 (by decide) ?_
  refine va_put (ci := cRm) (C := RX6) (T := TX6) (N := 2) (ty := .int) hx hb hts (by decide +kernel) tyX6 tyX6_ok nmX6 hown hK hP hD hS 0 rfl rfl 0 (by decide) (hts (.fieldLink RX6 16 "WaxrowModel" "thrown" "I") (by decide +kernel)) (fun _ h9 => h9) rfl (by decide +kernel) rfl rfl (Nat.le_of_ble_eq_true rfl) dX6_mend_2 (fun H locs hP hD hS => ?_)
  have hP : va_P D vwCl [(x0, .inr (cRm, [.int 0, .ref x1])), (x1, .inr (cRh, [.ref a0, .ref a1, .ref a2, .ref a3, .ref a4, .ref a5, .int 0, .int 0, .int 0, .int 0, .int 0, .int 5, .int 200, .int 30]))] H := hP
  have hD : va_D A [(x0, .inr (cRm, [.int 0, .ref x1])), (x1, .inr (cRh, [.ref a0, .ref a1, .ref a2, .ref a3, .ref a4, .ref a5, .int 0, .int 0, .int 0, .int 0, .int 0, .int 5, .int 200, .int 30]))] := hD
  refine lv_aload_n hx hb dX6_mend_5 rfl (lv_at hl 0 rfl) ?_
  refine lv_iload_n hx hb dX6_mend_6 rfl (lv_at hl 1 rfl) ?_
  refine rf_callR (As := [.int k]) (V := [(x0, .inr (cRm, [.int 0, .ref x1])), (x1, .inr (cRh, [.ref a0, .ref a1, .ref a2, .ref a3, .ref a4, .ref a5, .int 0, .int 0, .int 0, .int 0, .int 0, .int 5, .int 200, .int 30]))]) (q0 := 0) (ci := cRm) (r := (RX6, TX6, 2)) ⟨hx, hb, hml, hown, hts⟩ (rX6_isFigure l D cI cB H.size x0 x1 a0 a1 a2 a3 a4 a5 0 k) (cwV 1 hts gX6_mend_X6_isFigure rfl rfl rfl (by decide +kernel) ⟨Nat.le_of_ble_eq_true rfl, Nat.le_of_ble_eq_true rfl⟩) hK hP (hP.sub [0, 1] rfl) hS rfl rfl rfl rfl hl.1 (Nat.le_of_ble_eq_true rfl) dX6_mend_7 ⟨Nat.le_of_ble_eq_true rfl, Nat.le_of_ble_eq_true rfl⟩ rfl (fun r_ H locs hp hP hS => ?_)
  subst hp
  have hP : va_P D vwCl [(x0, .inr (cRm, [.int 0, .ref x1])), (x1, .inr (cRh, [.ref a0, .ref a1, .ref a2, .ref a3, .ref a4, .ref a5, .int 0, .int 0, .int 0, .int 0, .int 0, .int 5, .int 200, .int 30]))] H := hP
  refine lv_if_ne (tgt := 19) hx hb dX6_mend_10 (by decide) (fun c_10 => ?_) (fun c_10 => ?_)
  · exact absurd c_10 (by decide +kernel)
  · refine lv_aload_n hx hb dX6_mend_13 rfl (lv_at hl 0 rfl) ?_
    refine lv_iconst (v := 1) hx hb dX6_mend_14 (by decide) ?_
    refine rf_callW (As := [.int 1]) (V := [(x0, .inr (cRm, [.int 0, .ref x1]))]) (V2 := [(x0, .inr (cRm, [.int 1, .ref x1]))]) (q0 := 0) (ci := cRm) (r := (RX6, TX6, 2)) ⟨hx, hb, hml, hown, hts⟩ (rX6_no l D cI cB H.size x0 x1 0 1 A (hD.sub [0] (by decide) rfl)) (cwV 1 hts gX6_mend_X6_no rfl rfl rfl (by decide +kernel) ⟨Nat.le_of_ble_eq_true rfl, Nat.le_of_ble_eq_true rfl⟩) hK hP (hP.sub [0] rfl) hS rfl rfl rfl rfl hl.1 (Nat.le_of_ble_eq_true rfl) dX6_mend_15 ⟨Nat.le_of_ble_eq_true rfl, Nat.le_of_ble_eq_true rfl⟩ rfl (fun r_ H locs hp hP hS => ?_)
    subst hp
    have hP : va_P D vwCl [(x0, .inr (cRm, [.int 1, .ref x1]))] H := hP
    exact W.iret (v := 0) hx hb hr (fun U9 ht hW9 => ⟨⟨0, (), rfl, rfl, by show va_P D vwCl _ U9.heap; rw [ht]; exact hP.sub [0] rfl⟩, hS.F ht⟩) hS.2.2 dX6_mend_18
set_option maxHeartbeats 4000000 in
set_option maxRecDepth 100000 in
/-- the reference: melt -/
theorem rX6_melt (l : Launch) (D : va_G) (cI cB : ClassId) (sz : Nat) (x0 x1 a0 a1 a2 a3 a4 a5 : Nat) (t k : Int32) (A : Nat → Prop) (hD : va_D A [(x0, .inr (cRm, [.int t, .ref x1])), (x1, .inr (cRh, [.ref a0, .ref a1, .ref a2, .ref a3, .ref a4, .ref a5, .int 0, .int 0, .int 0, .int 0, .int 0, .int 5, .int 200, .int 30]))]) : rf_Mi l yX6_melt wsX6_melt ({ frames := 2, cells := 0, slots := 0, locals := 55 }) D [(cI, .int), (cB, .array .int)] sz [(x0, .inr (cRm, [.int t, .ref x1])), (x1, .inr (cRh, [.ref a0, .ref a1, .ref a2, .ref a3, .ref a4, .ref a5, .int 0, .int 0, .int 0, .int 0, .int 0, .int 5, .int 200, .int 30]))] [(x0, .inr (cRm, [.int 1, .ref x1]))] A [.ref x0, .int k] (fun r => r = 0) 0 0 := by
  refine Met.ofW (cc := cX6_melt) (maxL := 3) (ret := (some .int)) (by decide) rfl ?_
  intro p e s m args below meth c s₁ B hml hv
  obtain ⟨rfl, hsz, hP, hK⟩ := hv
  have hx := B.exec
  have hb := B.bytes
  have hr := B.returns
  have hts := atoms_spec (ws := wsX6_melt) B.pre
  have hown : s.vm.findClass RX6 = some m.cls := findClass_of_methodNamed B.named
  have hlocks := B.notSynchronized
  have hS : va_S A s.heap s.heap [] := va_S.rf
  have hP : va_P D vwCl [(x0, .inr (cRm, [.int t, .ref x1])), (x1, .inr (cRh, [.ref a0, .ref a1, .ref a2, .ref a3, .ref a4, .ref a5, .int 0, .int 0, .int 0, .int 0, .int 0, .int 5, .int 200, .int 30]))] s.heap := hP
  have hl := lv_entry ([.ref x0, .int k]) (n := 3) (Nat.le_of_ble_eq_true rfl)
  rw [lg_entry_eq]
  generalize (lg_sl ([.ref x0, .int k]) ++ List.replicate (3 - (lg_sl ([.ref x0, .int k])).length) Slot.unset).toArray = ls at hl ⊢
  have hl : lv_has ls 3 [(0, .ref x0), (1, .int k)] := hl
  refine lv_aload_n hx hb dX6_melt_0 rfl (lv_at hl 0 rfl) ?_
  refine lv_iconst (v := 0) hx hb dX6_melt_1 (by decide) ?_
  refine va_put (ci := cRm) (C := RX6) (T := TX6) (N := 2) (ty := .int) hx hb hts (by decide +kernel) tyX6 tyX6_ok nmX6 hown hK hP hD hS 0 rfl rfl 0 (by decide) (hts (.fieldLink RX6 16 "WaxrowModel" "thrown" "I") (by decide +kernel)) (fun _ h9 => h9) rfl (by decide +kernel) rfl rfl (Nat.le_of_ble_eq_true rfl) dX6_melt_2 (fun H locs hP hD hS => ?_)
  have hP : va_P D vwCl [(x0, .inr (cRm, [.int 0, .ref x1])), (x1, .inr (cRh, [.ref a0, .ref a1, .ref a2, .ref a3, .ref a4, .ref a5, .int 0, .int 0, .int 0, .int 0, .int 0, .int 5, .int 200, .int 30]))] H := hP
  have hD : va_D A [(x0, .inr (cRm, [.int 0, .ref x1])), (x1, .inr (cRh, [.ref a0, .ref a1, .ref a2, .ref a3, .ref a4, .ref a5, .int 0, .int 0, .int 0, .int 0, .int 0, .int 5, .int 200, .int 30]))] := hD
  refine lv_aload_n hx hb dX6_melt_5 rfl (lv_at hl 0 rfl) ?_
  refine lv_iload_n hx hb dX6_melt_6 rfl (lv_at hl 1 rfl) ?_
  refine rf_callR (As := [.int k]) (V := [(x0, .inr (cRm, [.int 0, .ref x1])), (x1, .inr (cRh, [.ref a0, .ref a1, .ref a2, .ref a3, .ref a4, .ref a5, .int 0, .int 0, .int 0, .int 0, .int 0, .int 5, .int 200, .int 30]))]) (q0 := 0) (ci := cRm) (r := (RX6, TX6, 2)) ⟨hx, hb, hml, hown, hts⟩ (rX6_isFigure l D cI cB H.size x0 x1 a0 a1 a2 a3 a4 a5 0 k) (cwV 1 hts gX6_melt_X6_isFigure rfl rfl rfl (by decide +kernel) ⟨Nat.le_of_ble_eq_true rfl, Nat.le_of_ble_eq_true rfl⟩) hK hP (hP.sub [0, 1] rfl) hS rfl rfl rfl rfl hl.1 (Nat.le_of_ble_eq_true rfl) dX6_melt_7 ⟨Nat.le_of_ble_eq_true rfl, Nat.le_of_ble_eq_true rfl⟩ rfl (fun r_ H locs hp hP hS => ?_)
  subst hp
  have hP : va_P D vwCl [(x0, .inr (cRm, [.int 0, .ref x1])), (x1, .inr (cRh, [.ref a0, .ref a1, .ref a2, .ref a3, .ref a4, .ref a5, .int 0, .int 0, .int 0, .int 0, .int 0, .int 5, .int 200, .int 30]))] H := hP
  refine lv_if_ne (tgt := 19) hx hb dX6_melt_10 (by decide) (fun c_10 => ?_) (fun c_10 => ?_)
  · exact absurd c_10 (by decide +kernel)
  · refine lv_aload_n hx hb dX6_melt_13 rfl (lv_at hl 0 rfl) ?_
    refine lv_iconst (v := 1) hx hb dX6_melt_14 (by decide) ?_
    refine rf_callW (As := [.int 1]) (V := [(x0, .inr (cRm, [.int 0, .ref x1]))]) (V2 := [(x0, .inr (cRm, [.int 1, .ref x1]))]) (q0 := 0) (ci := cRm) (r := (RX6, TX6, 2)) ⟨hx, hb, hml, hown, hts⟩ (rX6_no l D cI cB H.size x0 x1 0 1 A (hD.sub [0] (by decide) rfl)) (cwV 1 hts gX6_melt_X6_no rfl rfl rfl (by decide +kernel) ⟨Nat.le_of_ble_eq_true rfl, Nat.le_of_ble_eq_true rfl⟩) hK hP (hP.sub [0] rfl) hS rfl rfl rfl rfl hl.1 (Nat.le_of_ble_eq_true rfl) dX6_melt_15 ⟨Nat.le_of_ble_eq_true rfl, Nat.le_of_ble_eq_true rfl⟩ rfl (fun r_ H locs hp hP hS => ?_)
    subst hp
    have hP : va_P D vwCl [(x0, .inr (cRm, [.int 1, .ref x1]))] H := hP
    exact W.iret (v := 0) hx hb hr (fun U9 ht hW9 => ⟨⟨0, (), rfl, rfl, by show va_P D vwCl _ U9.heap; rw [ht]; exact hP.sub [0] rfl⟩, hS.F ht⟩) hS.2.2 dX6_melt_18
set_option maxHeartbeats 4000000 in
set_option maxRecDepth 100000 in
/-- the reference: tour -/
theorem rX6_tour (l : Launch) (D : va_G) (cI cB : ClassId) (sz : Nat) (x0 x1 a0 a1 a2 a3 a4 a5 : Nat) (t k u v : Int32) (A : Nat → Prop) (hD : va_D A [(x0, .inr (cRm, [.int t, .ref x1])), (x1, .inr (cRh, [.ref a0, .ref a1, .ref a2, .ref a3, .ref a4, .ref a5, .int 0, .int 0, .int 0, .int 0, .int 0, .int 5, .int 200, .int 30]))]) : rf_Mi l yX6_tour wsX6_tour ({ frames := 2, cells := 0, slots := 0, locals := 55 }) D [(cI, .int), (cB, .array .int)] sz [(x0, .inr (cRm, [.int t, .ref x1])), (x1, .inr (cRh, [.ref a0, .ref a1, .ref a2, .ref a3, .ref a4, .ref a5, .int 0, .int 0, .int 0, .int 0, .int 0, .int 5, .int 200, .int 30]))] [(x0, .inr (cRm, [.int 1, .ref x1]))] A [.ref x0, .int k, .int u, .int v] (fun r => r = 0) 0 0 := by
  refine Met.ofW (cc := cX6_tour) (maxL := 5) (ret := (some .int)) (by decide) rfl ?_
  intro p e s m args below meth c s₁ B hml hv
  obtain ⟨rfl, hsz, hP, hK⟩ := hv
  have hx := B.exec
  have hb := B.bytes
  have hr := B.returns
  have hts := atoms_spec (ws := wsX6_tour) B.pre
  have hown : s.vm.findClass RX6 = some m.cls := findClass_of_methodNamed B.named
  have hlocks := B.notSynchronized
  have hS : va_S A s.heap s.heap [] := va_S.rf
  have hP : va_P D vwCl [(x0, .inr (cRm, [.int t, .ref x1])), (x1, .inr (cRh, [.ref a0, .ref a1, .ref a2, .ref a3, .ref a4, .ref a5, .int 0, .int 0, .int 0, .int 0, .int 0, .int 5, .int 200, .int 30]))] s.heap := hP
  have hl := lv_entry ([.ref x0, .int k, .int u, .int v]) (n := 5) (Nat.le_of_ble_eq_true rfl)
  rw [lg_entry_eq]
  generalize (lg_sl ([.ref x0, .int k, .int u, .int v]) ++ List.replicate (5 - (lg_sl ([.ref x0, .int k, .int u, .int v])).length) Slot.unset).toArray = ls at hl ⊢
  have hl : lv_has ls 5 [(0, .ref x0), (1, .int k), (2, .int u), (3, .int v)] := hl
  refine lv_aload_n hx hb dX6_tour_0 rfl (lv_at hl 0 rfl) ?_
  refine lv_iconst (v := 0) hx hb dX6_tour_1 (by decide) ?_
  refine va_put (ci := cRm) (C := RX6) (T := TX6) (N := 2) (ty := .int) hx hb hts (by decide +kernel) tyX6 tyX6_ok nmX6 hown hK hP hD hS 0 rfl rfl 0 (by decide) (hts (.fieldLink RX6 16 "WaxrowModel" "thrown" "I") (by decide +kernel)) (fun _ h9 => h9) rfl (by decide +kernel) rfl rfl (Nat.le_of_ble_eq_true rfl) dX6_tour_2 (fun H locs hP hD hS => ?_)
  have hP : va_P D vwCl [(x0, .inr (cRm, [.int 0, .ref x1])), (x1, .inr (cRh, [.ref a0, .ref a1, .ref a2, .ref a3, .ref a4, .ref a5, .int 0, .int 0, .int 0, .int 0, .int 0, .int 5, .int 200, .int 30]))] H := hP
  have hD : va_D A [(x0, .inr (cRm, [.int 0, .ref x1])), (x1, .inr (cRh, [.ref a0, .ref a1, .ref a2, .ref a3, .ref a4, .ref a5, .int 0, .int 0, .int 0, .int 0, .int 0, .int 5, .int 200, .int 30]))] := hD
  refine lv_aload_n hx hb dX6_tour_5 rfl (lv_at hl 0 rfl) ?_
  refine lv_iload_n hx hb dX6_tour_6 rfl (lv_at hl 1 rfl) ?_
  refine rf_callR (As := [.int k]) (V := [(x0, .inr (cRm, [.int 0, .ref x1])), (x1, .inr (cRh, [.ref a0, .ref a1, .ref a2, .ref a3, .ref a4, .ref a5, .int 0, .int 0, .int 0, .int 0, .int 0, .int 5, .int 200, .int 30]))]) (q0 := 0) (ci := cRm) (r := (RX6, TX6, 2)) ⟨hx, hb, hml, hown, hts⟩ (rX6_isFigure l D cI cB H.size x0 x1 a0 a1 a2 a3 a4 a5 0 k) (cwV 1 hts gX6_tour_X6_isFigure rfl rfl rfl (by decide +kernel) ⟨Nat.le_of_ble_eq_true rfl, Nat.le_of_ble_eq_true rfl⟩) hK hP (hP.sub [0, 1] rfl) hS rfl rfl rfl rfl hl.1 (Nat.le_of_ble_eq_true rfl) dX6_tour_7 ⟨Nat.le_of_ble_eq_true rfl, Nat.le_of_ble_eq_true rfl⟩ rfl (fun r_ H locs hp hP hS => ?_)
  subst hp
  have hP : va_P D vwCl [(x0, .inr (cRm, [.int 0, .ref x1])), (x1, .inr (cRh, [.ref a0, .ref a1, .ref a2, .ref a3, .ref a4, .ref a5, .int 0, .int 0, .int 0, .int 0, .int 0, .int 5, .int 200, .int 30]))] H := hP
  refine lv_if_ne (tgt := 19) hx hb dX6_tour_10 (by decide) (fun c_10 => ?_) (fun c_10 => ?_)
  · exact absurd c_10 (by decide +kernel)
  · refine lv_aload_n hx hb dX6_tour_13 rfl (lv_at hl 0 rfl) ?_
    refine lv_iconst (v := 1) hx hb dX6_tour_14 (by decide) ?_
    refine rf_callW (As := [.int 1]) (V := [(x0, .inr (cRm, [.int 0, .ref x1]))]) (V2 := [(x0, .inr (cRm, [.int 1, .ref x1]))]) (q0 := 0) (ci := cRm) (r := (RX6, TX6, 2)) ⟨hx, hb, hml, hown, hts⟩ (rX6_no l D cI cB H.size x0 x1 0 1 A (hD.sub [0] (by decide) rfl)) (cwV 1 hts gX6_tour_X6_no rfl rfl rfl (by decide +kernel) ⟨Nat.le_of_ble_eq_true rfl, Nat.le_of_ble_eq_true rfl⟩) hK hP (hP.sub [0] rfl) hS rfl rfl rfl rfl hl.1 (Nat.le_of_ble_eq_true rfl) dX6_tour_15 ⟨Nat.le_of_ble_eq_true rfl, Nat.le_of_ble_eq_true rfl⟩ rfl (fun r_ H locs hp hP hS => ?_)
    subst hp
    have hP : va_P D vwCl [(x0, .inr (cRm, [.int 1, .ref x1]))] H := hP
    exact W.iret (v := 0) hx hb hr (fun U9 ht hW9 => ⟨⟨0, (), rfl, rfl, by show va_P D vwCl _ U9.heap; rw [ht]; exact hP.sub [0] rfl⟩, hS.F ht⟩) hS.2.2 dX6_tour_18
set_option maxHeartbeats 4000000 in
set_option maxRecDepth 100000 in
/-- the reference: show -/
theorem rX6_show (l : Launch) (D : va_G) (cI cB : ClassId) (sz : Nat) (x0 x1 a0 a1 a2 a3 a4 a5 : Nat) (t k u : Int32) (A : Nat → Prop) (hD : va_D A [(x0, .inr (cRm, [.int t, .ref x1])), (x1, .inr (cRh, [.ref a0, .ref a1, .ref a2, .ref a3, .ref a4, .ref a5, .int 0, .int 0, .int 0, .int 0, .int 0, .int 5, .int 200, .int 30]))]) : rf_Mi l yX6_show wsX6_show ({ frames := 2, cells := 0, slots := 0, locals := 55 }) D [(cI, .int), (cB, .array .int)] sz [(x0, .inr (cRm, [.int t, .ref x1])), (x1, .inr (cRh, [.ref a0, .ref a1, .ref a2, .ref a3, .ref a4, .ref a5, .int 0, .int 0, .int 0, .int 0, .int 0, .int 5, .int 200, .int 30]))] [(x0, .inr (cRm, [.int 1, .ref x1]))] A [.ref x0, .int k, .int u] (fun r => r = 0) 0 0 := by
  refine Met.ofW (cc := cX6_show) (maxL := 5) (ret := (some .int)) (by decide) rfl ?_
  intro p e s m args below meth c s₁ B hml hv
  obtain ⟨rfl, hsz, hP, hK⟩ := hv
  have hx := B.exec
  have hb := B.bytes
  have hr := B.returns
  have hts := atoms_spec (ws := wsX6_show) B.pre
  have hown : s.vm.findClass RX6 = some m.cls := findClass_of_methodNamed B.named
  have hlocks := B.notSynchronized
  have hS : va_S A s.heap s.heap [] := va_S.rf
  have hP : va_P D vwCl [(x0, .inr (cRm, [.int t, .ref x1])), (x1, .inr (cRh, [.ref a0, .ref a1, .ref a2, .ref a3, .ref a4, .ref a5, .int 0, .int 0, .int 0, .int 0, .int 0, .int 5, .int 200, .int 30]))] s.heap := hP
  have hl := lv_entry ([.ref x0, .int k, .int u]) (n := 5) (Nat.le_of_ble_eq_true rfl)
  rw [lg_entry_eq]
  generalize (lg_sl ([.ref x0, .int k, .int u]) ++ List.replicate (5 - (lg_sl ([.ref x0, .int k, .int u])).length) Slot.unset).toArray = ls at hl ⊢
  have hl : lv_has ls 5 [(0, .ref x0), (1, .int k), (2, .int u)] := hl
  refine lv_aload_n hx hb dX6_show_0 rfl (lv_at hl 0 rfl) ?_
  refine lv_iconst (v := 0) hx hb dX6_show_1 (by decide) ?_
  refine va_put (ci := cRm) (C := RX6) (T := TX6) (N := 2) (ty := .int) hx hb hts (by decide +kernel) tyX6 tyX6_ok nmX6 hown hK hP hD hS 0 rfl rfl 0 (by decide) (hts (.fieldLink RX6 16 "WaxrowModel" "thrown" "I") (by decide +kernel)) (fun _ h9 => h9) rfl (by decide +kernel) rfl rfl (Nat.le_of_ble_eq_true rfl) dX6_show_2 (fun H locs hP hD hS => ?_)
  have hP : va_P D vwCl [(x0, .inr (cRm, [.int 0, .ref x1])), (x1, .inr (cRh, [.ref a0, .ref a1, .ref a2, .ref a3, .ref a4, .ref a5, .int 0, .int 0, .int 0, .int 0, .int 0, .int 5, .int 200, .int 30]))] H := hP
  have hD : va_D A [(x0, .inr (cRm, [.int 0, .ref x1])), (x1, .inr (cRh, [.ref a0, .ref a1, .ref a2, .ref a3, .ref a4, .ref a5, .int 0, .int 0, .int 0, .int 0, .int 0, .int 5, .int 200, .int 30]))] := hD
  refine lv_aload_n hx hb dX6_show_5 rfl (lv_at hl 0 rfl) ?_
  refine lv_iload_n hx hb dX6_show_6 rfl (lv_at hl 1 rfl) ?_
  refine rf_callR (As := [.int k]) (V := [(x0, .inr (cRm, [.int 0, .ref x1])), (x1, .inr (cRh, [.ref a0, .ref a1, .ref a2, .ref a3, .ref a4, .ref a5, .int 0, .int 0, .int 0, .int 0, .int 0, .int 5, .int 200, .int 30]))]) (q0 := 0) (ci := cRm) (r := (RX6, TX6, 2)) ⟨hx, hb, hml, hown, hts⟩ (rX6_isFigure l D cI cB H.size x0 x1 a0 a1 a2 a3 a4 a5 0 k) (cwV 1 hts gX6_show_X6_isFigure rfl rfl rfl (by decide +kernel) ⟨Nat.le_of_ble_eq_true rfl, Nat.le_of_ble_eq_true rfl⟩) hK hP (hP.sub [0, 1] rfl) hS rfl rfl rfl rfl hl.1 (Nat.le_of_ble_eq_true rfl) dX6_show_7 ⟨Nat.le_of_ble_eq_true rfl, Nat.le_of_ble_eq_true rfl⟩ rfl (fun r_ H locs hp hP hS => ?_)
  subst hp
  have hP : va_P D vwCl [(x0, .inr (cRm, [.int 0, .ref x1])), (x1, .inr (cRh, [.ref a0, .ref a1, .ref a2, .ref a3, .ref a4, .ref a5, .int 0, .int 0, .int 0, .int 0, .int 0, .int 5, .int 200, .int 30]))] H := hP
  refine lv_if_eq (tgt := 21) hx hb dX6_show_10 (by decide) (fun c_10 => ?_) (fun c_10 => ?_)
  · refine lv_aload_n hx hb dX6_show_21 rfl (lv_at hl 0 rfl) ?_
    refine lv_iconst (v := 1) hx hb dX6_show_22 (by decide) ?_
    refine rf_callW (As := [.int 1]) (V := [(x0, .inr (cRm, [.int 0, .ref x1]))]) (V2 := [(x0, .inr (cRm, [.int 1, .ref x1]))]) (q0 := 0) (ci := cRm) (r := (RX6, TX6, 2)) ⟨hx, hb, hml, hown, hts⟩ (rX6_no l D cI cB H.size x0 x1 0 1 A (hD.sub [0] (by decide) rfl)) (cwV 1 hts gX6_show_X6_no rfl rfl rfl (by decide +kernel) ⟨Nat.le_of_ble_eq_true rfl, Nat.le_of_ble_eq_true rfl⟩) hK hP (hP.sub [0] rfl) hS rfl rfl rfl rfl hl.1 (Nat.le_of_ble_eq_true rfl) dX6_show_23 ⟨Nat.le_of_ble_eq_true rfl, Nat.le_of_ble_eq_true rfl⟩ rfl (fun r_ H locs hp hP hS => ?_)
    subst hp
    have hP : va_P D vwCl [(x0, .inr (cRm, [.int 1, .ref x1]))] H := hP
    exact W.iret (v := 0) hx hb hr (fun U9 ht hW9 => ⟨⟨0, (), rfl, rfl, by show va_P D vwCl _ U9.heap; rw [ht]; exact hP.sub [0] rfl⟩, hS.F ht⟩) hS.2.2 dX6_show_26
  · exact absurd (by decide +kernel) c_10
set_option maxHeartbeats 4000000 in
set_option maxRecDepth 100000 in
/-- the reference: take -/
theorem rX6_take (l : Launch) (D : va_G) (cI cB : ClassId) (sz : Nat) (x0 x1 a0 a1 a2 a3 a4 a5 : Nat) (t k : Int32) (A : Nat → Prop) (hD : va_D A [(x0, .inr (cRm, [.int t, .ref x1])), (x1, .inr (cRh, [.ref a0, .ref a1, .ref a2, .ref a3, .ref a4, .ref a5, .int 0, .int 0, .int 0, .int 0, .int 0, .int 5, .int 200, .int 30]))]) : rf_Mi l yX6_take wsX6_take ({ frames := 2, cells := 0, slots := 0, locals := 55 }) D [(cI, .int), (cB, .array .int)] sz [(x0, .inr (cRm, [.int t, .ref x1])), (x1, .inr (cRh, [.ref a0, .ref a1, .ref a2, .ref a3, .ref a4, .ref a5, .int 0, .int 0, .int 0, .int 0, .int 0, .int 5, .int 200, .int 30]))] [(x0, .inr (cRm, [.int 1, .ref x1]))] A [.ref x0, .int k] (fun r => r = 0) 0 0 := by
  refine Met.ofW (cc := cX6_take) (maxL := 3) (ret := (some .int)) (by decide) rfl ?_
  intro p e s m args below meth c s₁ B hml hv
  obtain ⟨rfl, hsz, hP, hK⟩ := hv
  have hx := B.exec
  have hb := B.bytes
  have hr := B.returns
  have hts := atoms_spec (ws := wsX6_take) B.pre
  have hown : s.vm.findClass RX6 = some m.cls := findClass_of_methodNamed B.named
  have hlocks := B.notSynchronized
  have hS : va_S A s.heap s.heap [] := va_S.rf
  have hP : va_P D vwCl [(x0, .inr (cRm, [.int t, .ref x1])), (x1, .inr (cRh, [.ref a0, .ref a1, .ref a2, .ref a3, .ref a4, .ref a5, .int 0, .int 0, .int 0, .int 0, .int 0, .int 5, .int 200, .int 30]))] s.heap := hP
  have hl := lv_entry ([.ref x0, .int k]) (n := 3) (Nat.le_of_ble_eq_true rfl)
  rw [lg_entry_eq]
  generalize (lg_sl ([.ref x0, .int k]) ++ List.replicate (3 - (lg_sl ([.ref x0, .int k])).length) Slot.unset).toArray = ls at hl ⊢
  have hl : lv_has ls 3 [(0, .ref x0), (1, .int k)] := hl
  refine lv_aload_n hx hb dX6_take_0 rfl (lv_at hl 0 rfl) ?_
  refine lv_iconst (v := 0) hx hb dX6_take_1 (by decide) ?_
  refine va_put (ci := cRm) (C := RX6) (T := TX6) (N := 2) (ty := .int) hx hb hts (by decide +kernel) tyX6 tyX6_ok nmX6 hown hK hP hD hS 0 rfl rfl 0 (by decide) (hts (.fieldLink RX6 16 "WaxrowModel" "thrown" "I") (by decide +kernel)) (fun _ h9 => h9) rfl (by decide +kernel) rfl rfl (Nat.le_of_ble_eq_true rfl) dX6_take_2 (fun H locs hP hD hS => ?_)
  have hP : va_P D vwCl [(x0, .inr (cRm, [.int 0, .ref x1])), (x1, .inr (cRh, [.ref a0, .ref a1, .ref a2, .ref a3, .ref a4, .ref a5, .int 0, .int 0, .int 0, .int 0, .int 0, .int 5, .int 200, .int 30]))] H := hP
  have hD : va_D A [(x0, .inr (cRm, [.int 0, .ref x1])), (x1, .inr (cRh, [.ref a0, .ref a1, .ref a2, .ref a3, .ref a4, .ref a5, .int 0, .int 0, .int 0, .int 0, .int 0, .int 5, .int 200, .int 30]))] := hD
  refine lv_aload_n hx hb dX6_take_5 rfl (lv_at hl 0 rfl) ?_
  refine lv_iload_n hx hb dX6_take_6 rfl (lv_at hl 1 rfl) ?_
  refine rf_callR (As := [.int k]) (V := [(x0, .inr (cRm, [.int 0, .ref x1])), (x1, .inr (cRh, [.ref a0, .ref a1, .ref a2, .ref a3, .ref a4, .ref a5, .int 0, .int 0, .int 0, .int 0, .int 0, .int 5, .int 200, .int 30]))]) (q0 := 0) (ci := cRm) (r := (RX6, TX6, 2)) ⟨hx, hb, hml, hown, hts⟩ (rX6_isFigure l D cI cB H.size x0 x1 a0 a1 a2 a3 a4 a5 0 k) (cwV 1 hts gX6_take_X6_isFigure rfl rfl rfl (by decide +kernel) ⟨Nat.le_of_ble_eq_true rfl, Nat.le_of_ble_eq_true rfl⟩) hK hP (hP.sub [0, 1] rfl) hS rfl rfl rfl rfl hl.1 (Nat.le_of_ble_eq_true rfl) dX6_take_7 ⟨Nat.le_of_ble_eq_true rfl, Nat.le_of_ble_eq_true rfl⟩ rfl (fun r_ H locs hp hP hS => ?_)
  subst hp
  have hP : va_P D vwCl [(x0, .inr (cRm, [.int 0, .ref x1])), (x1, .inr (cRh, [.ref a0, .ref a1, .ref a2, .ref a3, .ref a4, .ref a5, .int 0, .int 0, .int 0, .int 0, .int 0, .int 5, .int 200, .int 30]))] H := hP
  refine lv_if_ne (tgt := 19) hx hb dX6_take_10 (by decide) (fun c_10 => ?_) (fun c_10 => ?_)
  · exact absurd c_10 (by decide +kernel)
  · refine lv_aload_n hx hb dX6_take_13 rfl (lv_at hl 0 rfl) ?_
    refine lv_iconst (v := 1) hx hb dX6_take_14 (by decide) ?_
    refine rf_callW (As := [.int 1]) (V := [(x0, .inr (cRm, [.int 0, .ref x1]))]) (V2 := [(x0, .inr (cRm, [.int 1, .ref x1]))]) (q0 := 0) (ci := cRm) (r := (RX6, TX6, 2)) ⟨hx, hb, hml, hown, hts⟩ (rX6_no l D cI cB H.size x0 x1 0 1 A (hD.sub [0] (by decide) rfl)) (cwV 1 hts gX6_take_X6_no rfl rfl rfl (by decide +kernel) ⟨Nat.le_of_ble_eq_true rfl, Nat.le_of_ble_eq_true rfl⟩) hK hP (hP.sub [0] rfl) hS rfl rfl rfl rfl hl.1 (Nat.le_of_ble_eq_true rfl) dX6_take_15 ⟨Nat.le_of_ble_eq_true rfl, Nat.le_of_ble_eq_true rfl⟩ rfl (fun r_ H locs hp hP hS => ?_)
    subst hp
    have hP : va_P D vwCl [(x0, .inr (cRm, [.int 1, .ref x1]))] H := hP
    exact W.iret (v := 0) hx hb hr (fun U9 ht hW9 => ⟨⟨0, (), rfl, rfl, by show va_P D vwCl _ U9.heap; rw [ht]; exact hP.sub [0] rfl⟩, hS.F ht⟩) hS.2.2 dX6_take_18
set_option maxHeartbeats 4000000 in
set_option maxRecDepth 100000 in
/-- the reference: ofFigure -/
theorem rX6_ofFigure (l : Launch) (D : va_G) (cI cB : ClassId) (sz : Nat) (x0 x1 a0 a1 a2 a3 a4 a5 : Nat) (t k u : Int32) (A : Nat → Prop) (hD : va_D A [(x0, .inr (cRm, [.int t, .ref x1])), (x1, .inr (cRh, [.ref a0, .ref a1, .ref a2, .ref a3, .ref a4, .ref a5, .int 0, .int 0, .int 0, .int 0, .int 0, .int 5, .int 200, .int 30]))]) : rf_Mi l yX6_ofFigure wsX6_ofFigure ({ frames := 2, cells := 0, slots := 0, locals := 55 }) D [(cI, .int), (cB, .array .int)] sz [(x0, .inr (cRm, [.int t, .ref x1])), (x1, .inr (cRh, [.ref a0, .ref a1, .ref a2, .ref a3, .ref a4, .ref a5, .int 0, .int 0, .int 0, .int 0, .int 0, .int 5, .int 200, .int 30]))] [(x0, .inr (cRm, [.int 1, .ref x1]))] A [.ref x0, .int k, .int u] (fun r => r = 0) 0 0 := by
  refine Met.ofW (cc := cX6_ofFigure) (maxL := 3) (ret := (some .int)) (by decide) rfl ?_
  intro p e s m args below meth c s₁ B hml hv
  obtain ⟨rfl, hsz, hP, hK⟩ := hv
  have hx := B.exec
  have hb := B.bytes
  have hr := B.returns
  have hts := atoms_spec (ws := wsX6_ofFigure) B.pre
  have hown : s.vm.findClass RX6 = some m.cls := findClass_of_methodNamed B.named
  have hlocks := B.notSynchronized
  have hS : va_S A s.heap s.heap [] := va_S.rf
  have hP : va_P D vwCl [(x0, .inr (cRm, [.int t, .ref x1])), (x1, .inr (cRh, [.ref a0, .ref a1, .ref a2, .ref a3, .ref a4, .ref a5, .int 0, .int 0, .int 0, .int 0, .int 0, .int 5, .int 200, .int 30]))] s.heap := hP
  have hl := lv_entry ([.ref x0, .int k, .int u]) (n := 3) (Nat.le_of_ble_eq_true rfl)
  rw [lg_entry_eq]
  generalize (lg_sl ([.ref x0, .int k, .int u]) ++ List.replicate (3 - (lg_sl ([.ref x0, .int k, .int u])).length) Slot.unset).toArray = ls at hl ⊢
  have hl : lv_has ls 3 [(0, .ref x0), (1, .int k), (2, .int u)] := hl
  refine lv_aload_n hx hb dX6_ofFigure_0 rfl (lv_at hl 0 rfl) ?_
  refine lv_iconst (v := 0) hx hb dX6_ofFigure_1 (by decide) ?_
  refine va_put (ci := cRm) (C := RX6) (T := TX6) (N := 2) (ty := .int) hx hb hts (by decide +kernel) tyX6 tyX6_ok nmX6 hown hK hP hD hS 0 rfl rfl 0 (by decide) (hts (.fieldLink RX6 16 "WaxrowModel" "thrown" "I") (by decide +kernel)) (fun _ h9 => h9) rfl (by decide +kernel) rfl rfl (Nat.le_of_ble_eq_true rfl) dX6_ofFigure_2 (fun H locs hP hD hS => ?_)
  have hP : va_P D vwCl [(x0, .inr (cRm, [.int 0, .ref x1])), (x1, .inr (cRh, [.ref a0, .ref a1, .ref a2, .ref a3, .ref a4, .ref a5, .int 0, .int 0, .int 0, .int 0, .int 0, .int 5, .int 200, .int 30]))] H := hP
  have hD : va_D A [(x0, .inr (cRm, [.int 0, .ref x1])), (x1, .inr (cRh, [.ref a0, .ref a1, .ref a2, .ref a3, .ref a4, .ref a5, .int 0, .int 0, .int 0, .int 0, .int 0, .int 5, .int 200, .int 30]))] := hD
  refine lv_aload_n hx hb dX6_ofFigure_5 rfl (lv_at hl 0 rfl) ?_
  refine lv_iload_n hx hb dX6_ofFigure_6 rfl (lv_at hl 1 rfl) ?_
  refine rf_callR (As := [.int k]) (V := [(x0, .inr (cRm, [.int 0, .ref x1])), (x1, .inr (cRh, [.ref a0, .ref a1, .ref a2, .ref a3, .ref a4, .ref a5, .int 0, .int 0, .int 0, .int 0, .int 0, .int 5, .int 200, .int 30]))]) (q0 := 0) (ci := cRm) (r := (RX6, TX6, 2)) ⟨hx, hb, hml, hown, hts⟩ (rX6_isFigure l D cI cB H.size x0 x1 a0 a1 a2 a3 a4 a5 0 k) (cwV 1 hts gX6_ofFigure_X6_isFigure rfl rfl rfl (by decide +kernel) ⟨Nat.le_of_ble_eq_true rfl, Nat.le_of_ble_eq_true rfl⟩) hK hP (hP.sub [0, 1] rfl) hS rfl rfl rfl rfl hl.1 (Nat.le_of_ble_eq_true rfl) dX6_ofFigure_7 ⟨Nat.le_of_ble_eq_true rfl, Nat.le_of_ble_eq_true rfl⟩ rfl (fun r_ H locs hp hP hS => ?_)
  subst hp
  have hP : va_P D vwCl [(x0, .inr (cRm, [.int 0, .ref x1])), (x1, .inr (cRh, [.ref a0, .ref a1, .ref a2, .ref a3, .ref a4, .ref a5, .int 0, .int 0, .int 0, .int 0, .int 0, .int 5, .int 200, .int 30]))] H := hP
  refine lv_if_ne (tgt := 19) hx hb dX6_ofFigure_10 (by decide) (fun c_10 => ?_) (fun c_10 => ?_)
  · exact absurd c_10 (by decide +kernel)
  · refine lv_aload_n hx hb dX6_ofFigure_13 rfl (lv_at hl 0 rfl) ?_
    refine lv_iconst (v := 1) hx hb dX6_ofFigure_14 (by decide) ?_
    refine rf_callW (As := [.int 1]) (V := [(x0, .inr (cRm, [.int 0, .ref x1]))]) (V2 := [(x0, .inr (cRm, [.int 1, .ref x1]))]) (q0 := 0) (ci := cRm) (r := (RX6, TX6, 2)) ⟨hx, hb, hml, hown, hts⟩ (rX6_no l D cI cB H.size x0 x1 0 1 A (hD.sub [0] (by decide) rfl)) (cwV 1 hts gX6_ofFigure_X6_no rfl rfl rfl (by decide +kernel) ⟨Nat.le_of_ble_eq_true rfl, Nat.le_of_ble_eq_true rfl⟩) hK hP (hP.sub [0] rfl) hS rfl rfl rfl rfl hl.1 (Nat.le_of_ble_eq_true rfl) dX6_ofFigure_15 ⟨Nat.le_of_ble_eq_true rfl, Nat.le_of_ble_eq_true rfl⟩ rfl (fun r_ H locs hp hP hS => ?_)
    subst hp
    have hP : va_P D vwCl [(x0, .inr (cRm, [.int 1, .ref x1]))] H := hP
    exact W.iret (v := 0) hx hb hr (fun U9 ht hW9 => ⟨⟨0, (), rfl, rfl, by show va_P D vwCl _ U9.heap; rw [ht]; exact hP.sub [0] rfl⟩, hS.F ht⟩) hS.2.2 dX6_ofFigure_18
set_option maxHeartbeats 4000000 in
set_option maxRecDepth 100000 in
/-- the reference: readyIn -/
theorem rX6_readyIn (l : Launch) (D : va_G) (cI cB : ClassId) (sz : Nat) (x0 x1 a0 a1 a2 a3 a4 a5 : Nat) (t k : Int32) (A : Nat → Prop) (hD : va_D A [(x0, .inr (cRm, [.int t, .ref x1])), (x1, .inr (cRh, [.ref a0, .ref a1, .ref a2, .ref a3, .ref a4, .ref a5, .int 0, .int 0, .int 0, .int 0, .int 0, .int 5, .int 200, .int 30]))]) : rf_Mi l yX6_readyIn wsX6_readyIn ({ frames := 2, cells := 0, slots := 0, locals := 55 }) D [(cI, .int), (cB, .array .int)] sz [(x0, .inr (cRm, [.int t, .ref x1])), (x1, .inr (cRh, [.ref a0, .ref a1, .ref a2, .ref a3, .ref a4, .ref a5, .int 0, .int 0, .int 0, .int 0, .int 0, .int 5, .int 200, .int 30]))] [(x0, .inr (cRm, [.int 1, .ref x1]))] A [.ref x0, .int k] (fun r => r = 0) 0 0 := by
  refine Met.ofW (cc := cX6_readyIn) (maxL := 2) (ret := (some .int)) (by decide) rfl ?_
  intro p e s m args below meth c s₁ B hml hv
  obtain ⟨rfl, hsz, hP, hK⟩ := hv
  have hx := B.exec
  have hb := B.bytes
  have hr := B.returns
  have hts := atoms_spec (ws := wsX6_readyIn) B.pre
  have hown : s.vm.findClass RX6 = some m.cls := findClass_of_methodNamed B.named
  have hlocks := B.notSynchronized
  have hS : va_S A s.heap s.heap [] := va_S.rf
  have hP : va_P D vwCl [(x0, .inr (cRm, [.int t, .ref x1])), (x1, .inr (cRh, [.ref a0, .ref a1, .ref a2, .ref a3, .ref a4, .ref a5, .int 0, .int 0, .int 0, .int 0, .int 0, .int 5, .int 200, .int 30]))] s.heap := hP
  have hl := lv_entry ([.ref x0, .int k]) (n := 2) (Nat.le_of_ble_eq_true rfl)
  rw [lg_entry_eq]
  generalize (lg_sl ([.ref x0, .int k]) ++ List.replicate (2 - (lg_sl ([.ref x0, .int k])).length) Slot.unset).toArray = ls at hl ⊢
  have hl : lv_has ls 2 [(0, .ref x0), (1, .int k)] := hl
  refine lv_aload_n hx hb dX6_readyIn_0 rfl (lv_at hl 0 rfl) ?_
  refine lv_iconst (v := 0) hx hb dX6_readyIn_1 (by decide) ?_
  refine va_put (ci := cRm) (C := RX6) (T := TX6) (N := 2) (ty := .int) hx hb hts (by decide +kernel) tyX6 tyX6_ok nmX6 hown hK hP hD hS 0 rfl rfl 0 (by decide) (hts (.fieldLink RX6 16 "WaxrowModel" "thrown" "I") (by decide +kernel)) (fun _ h9 => h9) rfl (by decide +kernel) rfl rfl (Nat.le_of_ble_eq_true rfl) dX6_readyIn_2 (fun H locs hP hD hS => ?_)
  have hP : va_P D vwCl [(x0, .inr (cRm, [.int 0, .ref x1])), (x1, .inr (cRh, [.ref a0, .ref a1, .ref a2, .ref a3, .ref a4, .ref a5, .int 0, .int 0, .int 0, .int 0, .int 0, .int 5, .int 200, .int 30]))] H := hP
  have hD : va_D A [(x0, .inr (cRm, [.int 0, .ref x1])), (x1, .inr (cRh, [.ref a0, .ref a1, .ref a2, .ref a3, .ref a4, .ref a5, .int 0, .int 0, .int 0, .int 0, .int 0, .int 5, .int 200, .int 30]))] := hD
  refine lv_aload_n hx hb dX6_readyIn_5 rfl (lv_at hl 0 rfl) ?_
  refine lv_iload_n hx hb dX6_readyIn_6 rfl (lv_at hl 1 rfl) ?_
  refine rf_callR (As := [.int k]) (V := [(x0, .inr (cRm, [.int 0, .ref x1])), (x1, .inr (cRh, [.ref a0, .ref a1, .ref a2, .ref a3, .ref a4, .ref a5, .int 0, .int 0, .int 0, .int 0, .int 0, .int 5, .int 200, .int 30]))]) (q0 := 0) (ci := cRm) (r := (RX6, TX6, 2)) ⟨hx, hb, hml, hown, hts⟩ (rX6_isFigure l D cI cB H.size x0 x1 a0 a1 a2 a3 a4 a5 0 k) (cwV 1 hts gX6_readyIn_X6_isFigure rfl rfl rfl (by decide +kernel) ⟨Nat.le_of_ble_eq_true rfl, Nat.le_of_ble_eq_true rfl⟩) hK hP (hP.sub [0, 1] rfl) hS rfl rfl rfl rfl hl.1 (Nat.le_of_ble_eq_true rfl) dX6_readyIn_7 ⟨Nat.le_of_ble_eq_true rfl, Nat.le_of_ble_eq_true rfl⟩ rfl (fun r_ H locs hp hP hS => ?_)
  subst hp
  have hP : va_P D vwCl [(x0, .inr (cRm, [.int 0, .ref x1])), (x1, .inr (cRh, [.ref a0, .ref a1, .ref a2, .ref a3, .ref a4, .ref a5, .int 0, .int 0, .int 0, .int 0, .int 0, .int 5, .int 200, .int 30]))] H := hP
  refine lv_if_ne (tgt := 19) hx hb dX6_readyIn_10 (by decide) (fun c_10 => ?_) (fun c_10 => ?_)
  · exact absurd c_10 (by decide +kernel)
  · refine lv_aload_n hx hb dX6_readyIn_13 rfl (lv_at hl 0 rfl) ?_
    refine lv_iconst (v := 1) hx hb dX6_readyIn_14 (by decide) ?_
    refine rf_callW (As := [.int 1]) (V := [(x0, .inr (cRm, [.int 0, .ref x1]))]) (V2 := [(x0, .inr (cRm, [.int 1, .ref x1]))]) (q0 := 0) (ci := cRm) (r := (RX6, TX6, 2)) ⟨hx, hb, hml, hown, hts⟩ (rX6_no l D cI cB H.size x0 x1 0 1 A (hD.sub [0] (by decide) rfl)) (cwV 1 hts gX6_readyIn_X6_no rfl rfl rfl (by decide +kernel) ⟨Nat.le_of_ble_eq_true rfl, Nat.le_of_ble_eq_true rfl⟩) hK hP (hP.sub [0] rfl) hS rfl rfl rfl rfl hl.1 (Nat.le_of_ble_eq_true rfl) dX6_readyIn_15 ⟨Nat.le_of_ble_eq_true rfl, Nat.le_of_ble_eq_true rfl⟩ rfl (fun r_ H locs hp hP hS => ?_)
    subst hp
    have hP : va_P D vwCl [(x0, .inr (cRm, [.int 1, .ref x1]))] H := hP
    exact W.iret (v := 0) hx hb hr (fun U9 ht hW9 => ⟨⟨0, (), rfl, rfl, by show va_P D vwCl _ U9.heap; rw [ht]; exact hP.sub [0] rfl⟩, hS.F ht⟩) hS.2.2 dX6_readyIn_18
set_option maxHeartbeats 4000000 in
set_option maxRecDepth 100000 in
/-- the reference: meltsIn -/
theorem rX6_meltsIn (l : Launch) (D : va_G) (cI cB : ClassId) (sz : Nat) (x0 x1 a0 a1 a2 a3 a4 a5 : Nat) (t k u v : Int32) (A : Nat → Prop) (hD : va_D A [(x0, .inr (cRm, [.int t, .ref x1])), (x1, .inr (cRh, [.ref a0, .ref a1, .ref a2, .ref a3, .ref a4, .ref a5, .int 0, .int 0, .int 0, .int 0, .int 0, .int 5, .int 200, .int 30]))]) : rf_Mi l yX6_meltsIn wsX6_meltsIn ({ frames := 2, cells := 0, slots := 0, locals := 55 }) D [(cI, .int), (cB, .array .int)] sz [(x0, .inr (cRm, [.int t, .ref x1])), (x1, .inr (cRh, [.ref a0, .ref a1, .ref a2, .ref a3, .ref a4, .ref a5, .int 0, .int 0, .int 0, .int 0, .int 0, .int 5, .int 200, .int 30]))] [(x0, .inr (cRm, [.int 1, .ref x1]))] A [.ref x0, .int k, .int u, .int v] (fun r => r = 0) 0 0 := by
  refine Met.ofW (cc := cX6_meltsIn) (maxL := 4) (ret := (some .int)) (by decide) rfl ?_
  intro p e s m args below meth c s₁ B hml hv
  obtain ⟨rfl, hsz, hP, hK⟩ := hv
  have hx := B.exec
  have hb := B.bytes
  have hr := B.returns
  have hts := atoms_spec (ws := wsX6_meltsIn) B.pre
  have hown : s.vm.findClass RX6 = some m.cls := findClass_of_methodNamed B.named
  have hlocks := B.notSynchronized
  have hS : va_S A s.heap s.heap [] := va_S.rf
  have hP : va_P D vwCl [(x0, .inr (cRm, [.int t, .ref x1])), (x1, .inr (cRh, [.ref a0, .ref a1, .ref a2, .ref a3, .ref a4, .ref a5, .int 0, .int 0, .int 0, .int 0, .int 0, .int 5, .int 200, .int 30]))] s.heap := hP
  have hl := lv_entry ([.ref x0, .int k, .int u, .int v]) (n := 4) (Nat.le_of_ble_eq_true rfl)
  rw [lg_entry_eq]
  generalize (lg_sl ([.ref x0, .int k, .int u, .int v]) ++ List.replicate (4 - (lg_sl ([.ref x0, .int k, .int u, .int v])).length) Slot.unset).toArray = ls at hl ⊢
  have hl : lv_has ls 4 [(0, .ref x0), (1, .int k), (2, .int u), (3, .int v)] := hl
  refine lv_aload_n hx hb dX6_meltsIn_0 rfl (lv_at hl 0 rfl) ?_
  refine lv_iconst (v := 0) hx hb dX6_meltsIn_1 (by decide) ?_
  refine va_put (ci := cRm) (C := RX6) (T := TX6) (N := 2) (ty := .int) hx hb hts (by decide +kernel) tyX6 tyX6_ok nmX6 hown hK hP hD hS 0 rfl rfl 0 (by decide) (hts (.fieldLink RX6 16 "WaxrowModel" "thrown" "I") (by decide +kernel)) (fun _ h9 => h9) rfl (by decide +kernel) rfl rfl (Nat.le_of_ble_eq_true rfl) dX6_meltsIn_2 (fun H locs hP hD hS => ?_)
  have hP : va_P D vwCl [(x0, .inr (cRm, [.int 0, .ref x1])), (x1, .inr (cRh, [.ref a0, .ref a1, .ref a2, .ref a3, .ref a4, .ref a5, .int 0, .int 0, .int 0, .int 0, .int 0, .int 5, .int 200, .int 30]))] H := hP
  have hD : va_D A [(x0, .inr (cRm, [.int 0, .ref x1])), (x1, .inr (cRh, [.ref a0, .ref a1, .ref a2, .ref a3, .ref a4, .ref a5, .int 0, .int 0, .int 0, .int 0, .int 0, .int 5, .int 200, .int 30]))] := hD
  refine lv_aload_n hx hb dX6_meltsIn_5 rfl (lv_at hl 0 rfl) ?_
  refine lv_iload_n hx hb dX6_meltsIn_6 rfl (lv_at hl 1 rfl) ?_
  refine rf_callR (As := [.int k]) (V := [(x0, .inr (cRm, [.int 0, .ref x1])), (x1, .inr (cRh, [.ref a0, .ref a1, .ref a2, .ref a3, .ref a4, .ref a5, .int 0, .int 0, .int 0, .int 0, .int 0, .int 5, .int 200, .int 30]))]) (q0 := 0) (ci := cRm) (r := (RX6, TX6, 2)) ⟨hx, hb, hml, hown, hts⟩ (rX6_isFigure l D cI cB H.size x0 x1 a0 a1 a2 a3 a4 a5 0 k) (cwV 1 hts gX6_meltsIn_X6_isFigure rfl rfl rfl (by decide +kernel) ⟨Nat.le_of_ble_eq_true rfl, Nat.le_of_ble_eq_true rfl⟩) hK hP (hP.sub [0, 1] rfl) hS rfl rfl rfl rfl hl.1 (Nat.le_of_ble_eq_true rfl) dX6_meltsIn_7 ⟨Nat.le_of_ble_eq_true rfl, Nat.le_of_ble_eq_true rfl⟩ rfl (fun r_ H locs hp hP hS => ?_)
  subst hp
  have hP : va_P D vwCl [(x0, .inr (cRm, [.int 0, .ref x1])), (x1, .inr (cRh, [.ref a0, .ref a1, .ref a2, .ref a3, .ref a4, .ref a5, .int 0, .int 0, .int 0, .int 0, .int 0, .int 5, .int 200, .int 30]))] H := hP
  refine lv_if_ne (tgt := 19) hx hb dX6_meltsIn_10 (by decide) (fun c_10 => ?_) (fun c_10 => ?_)
  · exact absurd c_10 (by decide +kernel)
  · refine lv_aload_n hx hb dX6_meltsIn_13 rfl (lv_at hl 0 rfl) ?_
    refine lv_iconst (v := 1) hx hb dX6_meltsIn_14 (by decide) ?_
    refine rf_callW (As := [.int 1]) (V := [(x0, .inr (cRm, [.int 0, .ref x1]))]) (V2 := [(x0, .inr (cRm, [.int 1, .ref x1]))]) (q0 := 0) (ci := cRm) (r := (RX6, TX6, 2)) ⟨hx, hb, hml, hown, hts⟩ (rX6_no l D cI cB H.size x0 x1 0 1 A (hD.sub [0] (by decide) rfl)) (cwV 1 hts gX6_meltsIn_X6_no rfl rfl rfl (by decide +kernel) ⟨Nat.le_of_ble_eq_true rfl, Nat.le_of_ble_eq_true rfl⟩) hK hP (hP.sub [0] rfl) hS rfl rfl rfl rfl hl.1 (Nat.le_of_ble_eq_true rfl) dX6_meltsIn_15 ⟨Nat.le_of_ble_eq_true rfl, Nat.le_of_ble_eq_true rfl⟩ rfl (fun r_ H locs hp hP hS => ?_)
    subst hp
    have hP : va_P D vwCl [(x0, .inr (cRm, [.int 1, .ref x1]))] H := hP
    exact W.iret (v := 0) hx hb hr (fun U9 ht hW9 => ⟨⟨0, (), rfl, rfl, by show va_P D vwCl _ U9.heap; rw [ht]; exact hP.sub [0] rfl⟩, hS.F ht⟩) hS.2.2 dX6_meltsIn_18
set_option maxHeartbeats 4000000 in
set_option maxRecDepth 100000 in
/-- the reference: lamps -/
theorem rX6_lamps (l : Launch) (D : va_G) (cI cB : ClassId) (sz : Nat) (x0 x1 a0 a1 a2 a3 a4 a5 : Nat) (t k u : Int32) (A : Nat → Prop) (hD : va_D A [(x0, .inr (cRm, [.int t, .ref x1])), (x1, .inr (cRh, [.ref a0, .ref a1, .ref a2, .ref a3, .ref a4, .ref a5, .int 0, .int 0, .int 0, .int 0, .int 0, .int 5, .int 200, .int 30]))]) : rf_Mi l yX6_lamps wsX6_lamps ({ frames := 2, cells := 0, slots := 0, locals := 55 }) D [(cI, .int), (cB, .array .int)] sz [(x0, .inr (cRm, [.int t, .ref x1])), (x1, .inr (cRh, [.ref a0, .ref a1, .ref a2, .ref a3, .ref a4, .ref a5, .int 0, .int 0, .int 0, .int 0, .int 0, .int 5, .int 200, .int 30]))] [(x0, .inr (cRm, [.int 1, .ref x1]))] A [.ref x0, .int k, .int u] (fun r => r = 0) 0 0 := by
  refine Met.ofW (cc := cX6_lamps) (maxL := 4) (ret := (some .int)) (by decide) rfl ?_
  intro p e s m args below meth c s₁ B hml hv
  obtain ⟨rfl, hsz, hP, hK⟩ := hv
  have hx := B.exec
  have hb := B.bytes
  have hr := B.returns
  have hts := atoms_spec (ws := wsX6_lamps) B.pre
  have hown : s.vm.findClass RX6 = some m.cls := findClass_of_methodNamed B.named
  have hlocks := B.notSynchronized
  have hS : va_S A s.heap s.heap [] := va_S.rf
  have hP : va_P D vwCl [(x0, .inr (cRm, [.int t, .ref x1])), (x1, .inr (cRh, [.ref a0, .ref a1, .ref a2, .ref a3, .ref a4, .ref a5, .int 0, .int 0, .int 0, .int 0, .int 0, .int 5, .int 200, .int 30]))] s.heap := hP
  have hl := lv_entry ([.ref x0, .int k, .int u]) (n := 4) (Nat.le_of_ble_eq_true rfl)
  rw [lg_entry_eq]
  generalize (lg_sl ([.ref x0, .int k, .int u]) ++ List.replicate (4 - (lg_sl ([.ref x0, .int k, .int u])).length) Slot.unset).toArray = ls at hl ⊢
  have hl : lv_has ls 4 [(0, .ref x0), (1, .int k), (2, .int u)] := hl
  refine lv_aload_n hx hb dX6_lamps_0 rfl (lv_at hl 0 rfl) ?_
  refine lv_iconst (v := 0) hx hb dX6_lamps_1 (by decide) ?_
  refine va_put (ci := cRm) (C := RX6) (T := TX6) (N := 2) (ty := .int) hx hb hts (by decide +kernel) tyX6 tyX6_ok nmX6 hown hK hP hD hS 0 rfl rfl 0 (by decide) (hts (.fieldLink RX6 16 "WaxrowModel" "thrown" "I") (by decide +kernel)) (fun _ h9 => h9) rfl (by decide +kernel) rfl rfl (Nat.le_of_ble_eq_true rfl) dX6_lamps_2 (fun H locs hP hD hS => ?_)
  have hP : va_P D vwCl [(x0, .inr (cRm, [.int 0, .ref x1])), (x1, .inr (cRh, [.ref a0, .ref a1, .ref a2, .ref a3, .ref a4, .ref a5, .int 0, .int 0, .int 0, .int 0, .int 0, .int 5, .int 200, .int 30]))] H := hP
  have hD : va_D A [(x0, .inr (cRm, [.int 0, .ref x1])), (x1, .inr (cRh, [.ref a0, .ref a1, .ref a2, .ref a3, .ref a4, .ref a5, .int 0, .int 0, .int 0, .int 0, .int 0, .int 5, .int 200, .int 30]))] := hD
  refine lv_aload_n hx hb dX6_lamps_5 rfl (lv_at hl 0 rfl) ?_
  refine lv_iload_n hx hb dX6_lamps_6 rfl (lv_at hl 1 rfl) ?_
  refine rf_callR (As := [.int k]) (V := [(x0, .inr (cRm, [.int 0, .ref x1])), (x1, .inr (cRh, [.ref a0, .ref a1, .ref a2, .ref a3, .ref a4, .ref a5, .int 0, .int 0, .int 0, .int 0, .int 0, .int 5, .int 200, .int 30]))]) (q0 := 0) (ci := cRm) (r := (RX6, TX6, 2)) ⟨hx, hb, hml, hown, hts⟩ (rX6_isRoom l D cI cB H.size x0 x1 a0 a1 a2 a3 a4 a5 0 k) (cwV 1 hts gX6_lamps_X6_isRoom rfl rfl rfl (by decide +kernel) ⟨Nat.le_of_ble_eq_true rfl, Nat.le_of_ble_eq_true rfl⟩) hK hP (hP.sub [0, 1] rfl) hS rfl rfl rfl rfl hl.1 (Nat.le_of_ble_eq_true rfl) dX6_lamps_7 ⟨Nat.le_of_ble_eq_true rfl, Nat.le_of_ble_eq_true rfl⟩ rfl (fun r_ H locs hp hP hS => ?_)
  subst hp
  have hP : va_P D vwCl [(x0, .inr (cRm, [.int 0, .ref x1])), (x1, .inr (cRh, [.ref a0, .ref a1, .ref a2, .ref a3, .ref a4, .ref a5, .int 0, .int 0, .int 0, .int 0, .int 0, .int 5, .int 200, .int 30]))] H := hP
  refine lv_if_ne (tgt := 19) hx hb dX6_lamps_10 (by decide) (fun c_10 => ?_) (fun c_10 => ?_)
  · exact absurd c_10 (by decide +kernel)
  · refine lv_aload_n hx hb dX6_lamps_13 rfl (lv_at hl 0 rfl) ?_
    refine lv_iconst (v := 1) hx hb dX6_lamps_14 (by decide) ?_
    refine rf_callW (As := [.int 1]) (V := [(x0, .inr (cRm, [.int 0, .ref x1]))]) (V2 := [(x0, .inr (cRm, [.int 1, .ref x1]))]) (q0 := 0) (ci := cRm) (r := (RX6, TX6, 2)) ⟨hx, hb, hml, hown, hts⟩ (rX6_no l D cI cB H.size x0 x1 0 1 A (hD.sub [0] (by decide) rfl)) (cwV 1 hts gX6_lamps_X6_no rfl rfl rfl (by decide +kernel) ⟨Nat.le_of_ble_eq_true rfl, Nat.le_of_ble_eq_true rfl⟩) hK hP (hP.sub [0] rfl) hS rfl rfl rfl rfl hl.1 (Nat.le_of_ble_eq_true rfl) dX6_lamps_15 ⟨Nat.le_of_ble_eq_true rfl, Nat.le_of_ble_eq_true rfl⟩ rfl (fun r_ H locs hp hP hS => ?_)
    subst hp
    have hP : va_P D vwCl [(x0, .inr (cRm, [.int 1, .ref x1]))] H := hP
    exact W.iret (v := 0) hx hb hr (fun U9 ht hW9 => ⟨⟨0, (), rfl, rfl, by show va_P D vwCl _ U9.heap; rw [ht]; exact hP.sub [0] rfl⟩, hS.F ht⟩) hS.2.2 dX6_lamps_18
set_option maxHeartbeats 4000000 in
set_option maxRecDepth 100000 in
/-- the reference: clean -/
theorem rX6_clean (l : Launch) (D : va_G) (cI cB : ClassId) (sz : Nat) (x0 x1 a0 a1 a2 a3 a4 a5 : Nat) (t k : Int32) (A : Nat → Prop) (hD : va_D A [(x0, .inr (cRm, [.int t, .ref x1])), (x1, .inr (cRh, [.ref a0, .ref a1, .ref a2, .ref a3, .ref a4, .ref a5, .int 0, .int 0, .int 0, .int 0, .int 0, .int 5, .int 200, .int 30]))]) : rf_Mi l yX6_clean wsX6_clean ({ frames := 2, cells := 0, slots := 0, locals := 55 }) D [(cI, .int), (cB, .array .int)] sz [(x0, .inr (cRm, [.int t, .ref x1])), (x1, .inr (cRh, [.ref a0, .ref a1, .ref a2, .ref a3, .ref a4, .ref a5, .int 0, .int 0, .int 0, .int 0, .int 0, .int 5, .int 200, .int 30]))] [(x0, .inr (cRm, [.int 1, .ref x1]))] A [.ref x0, .int k] (fun r => r = 0) 0 0 := by
  refine Met.ofW (cc := cX6_clean) (maxL := 3) (ret := (some .int)) (by decide) rfl ?_
  intro p e s m args below meth c s₁ B hml hv
  obtain ⟨rfl, hsz, hP, hK⟩ := hv
  have hx := B.exec
  have hb := B.bytes
  have hr := B.returns
  have hts := atoms_spec (ws := wsX6_clean) B.pre
  have hown : s.vm.findClass RX6 = some m.cls := findClass_of_methodNamed B.named
  have hlocks := B.notSynchronized
  have hS : va_S A s.heap s.heap [] := va_S.rf
  have hP : va_P D vwCl [(x0, .inr (cRm, [.int t, .ref x1])), (x1, .inr (cRh, [.ref a0, .ref a1, .ref a2, .ref a3, .ref a4, .ref a5, .int 0, .int 0, .int 0, .int 0, .int 0, .int 5, .int 200, .int 30]))] s.heap := hP
  have hl := lv_entry ([.ref x0, .int k]) (n := 3) (Nat.le_of_ble_eq_true rfl)
  rw [lg_entry_eq]
  generalize (lg_sl ([.ref x0, .int k]) ++ List.replicate (3 - (lg_sl ([.ref x0, .int k])).length) Slot.unset).toArray = ls at hl ⊢
  have hl : lv_has ls 3 [(0, .ref x0), (1, .int k)] := hl
  refine lv_aload_n hx hb dX6_clean_0 rfl (lv_at hl 0 rfl) ?_
  refine lv_iconst (v := 0) hx hb dX6_clean_1 (by decide) ?_
  refine va_put (ci := cRm) (C := RX6) (T := TX6) (N := 2) (ty := .int) hx hb hts (by decide +kernel) tyX6 tyX6_ok nmX6 hown hK hP hD hS 0 rfl rfl 0 (by decide) (hts (.fieldLink RX6 16 "WaxrowModel" "thrown" "I") (by decide +kernel)) (fun _ h9 => h9) rfl (by decide +kernel) rfl rfl (Nat.le_of_ble_eq_true rfl) dX6_clean_2 (fun H locs hP hD hS => ?_)
  have hP : va_P D vwCl [(x0, .inr (cRm, [.int 0, .ref x1])), (x1, .inr (cRh, [.ref a0, .ref a1, .ref a2, .ref a3, .ref a4, .ref a5, .int 0, .int 0, .int 0, .int 0, .int 0, .int 5, .int 200, .int 30]))] H := hP
  have hD : va_D A [(x0, .inr (cRm, [.int 0, .ref x1])), (x1, .inr (cRh, [.ref a0, .ref a1, .ref a2, .ref a3, .ref a4, .ref a5, .int 0, .int 0, .int 0, .int 0, .int 0, .int 5, .int 200, .int 30]))] := hD
  refine lv_aload_n hx hb dX6_clean_5 rfl (lv_at hl 0 rfl) ?_
  refine lv_iload_n hx hb dX6_clean_6 rfl (lv_at hl 1 rfl) ?_
  refine rf_callR (As := [.int k]) (V := [(x0, .inr (cRm, [.int 0, .ref x1])), (x1, .inr (cRh, [.ref a0, .ref a1, .ref a2, .ref a3, .ref a4, .ref a5, .int 0, .int 0, .int 0, .int 0, .int 0, .int 5, .int 200, .int 30]))]) (q0 := 0) (ci := cRm) (r := (RX6, TX6, 2)) ⟨hx, hb, hml, hown, hts⟩ (rX6_isRoom l D cI cB H.size x0 x1 a0 a1 a2 a3 a4 a5 0 k) (cwV 1 hts gX6_clean_X6_isRoom rfl rfl rfl (by decide +kernel) ⟨Nat.le_of_ble_eq_true rfl, Nat.le_of_ble_eq_true rfl⟩) hK hP (hP.sub [0, 1] rfl) hS rfl rfl rfl rfl hl.1 (Nat.le_of_ble_eq_true rfl) dX6_clean_7 ⟨Nat.le_of_ble_eq_true rfl, Nat.le_of_ble_eq_true rfl⟩ rfl (fun r_ H locs hp hP hS => ?_)
  subst hp
  have hP : va_P D vwCl [(x0, .inr (cRm, [.int 0, .ref x1])), (x1, .inr (cRh, [.ref a0, .ref a1, .ref a2, .ref a3, .ref a4, .ref a5, .int 0, .int 0, .int 0, .int 0, .int 0, .int 5, .int 200, .int 30]))] H := hP
  refine lv_if_ne (tgt := 19) hx hb dX6_clean_10 (by decide) (fun c_10 => ?_) (fun c_10 => ?_)
  · exact absurd c_10 (by decide +kernel)
  · refine lv_aload_n hx hb dX6_clean_13 rfl (lv_at hl 0 rfl) ?_
    refine lv_iconst (v := 1) hx hb dX6_clean_14 (by decide) ?_
    refine rf_callW (As := [.int 1]) (V := [(x0, .inr (cRm, [.int 0, .ref x1]))]) (V2 := [(x0, .inr (cRm, [.int 1, .ref x1]))]) (q0 := 0) (ci := cRm) (r := (RX6, TX6, 2)) ⟨hx, hb, hml, hown, hts⟩ (rX6_no l D cI cB H.size x0 x1 0 1 A (hD.sub [0] (by decide) rfl)) (cwV 1 hts gX6_clean_X6_no rfl rfl rfl (by decide +kernel) ⟨Nat.le_of_ble_eq_true rfl, Nat.le_of_ble_eq_true rfl⟩) hK hP (hP.sub [0] rfl) hS rfl rfl rfl rfl hl.1 (Nat.le_of_ble_eq_true rfl) dX6_clean_15 ⟨Nat.le_of_ble_eq_true rfl, Nat.le_of_ble_eq_true rfl⟩ rfl (fun r_ H locs hp hP hS => ?_)
    subst hp
    have hP : va_P D vwCl [(x0, .inr (cRm, [.int 1, .ref x1]))] H := hP
    exact W.iret (v := 0) hx hb hr (fun U9 ht hW9 => ⟨⟨0, (), rfl, rfl, by show va_P D vwCl _ U9.heap; rw [ht]; exact hP.sub [0] rfl⟩, hS.F ht⟩) hS.2.2 dX6_clean_18
set_option maxHeartbeats 4000000 in
set_option maxRecDepth 100000 in
/-- the reference: ofRoom -/
theorem rX6_ofRoom (l : Launch) (D : va_G) (cI cB : ClassId) (sz : Nat) (x0 x1 a0 a1 a2 a3 a4 a5 : Nat) (t k u : Int32) (A : Nat → Prop) (hD : va_D A [(x0, .inr (cRm, [.int t, .ref x1])), (x1, .inr (cRh, [.ref a0, .ref a1, .ref a2, .ref a3, .ref a4, .ref a5, .int 0, .int 0, .int 0, .int 0, .int 0, .int 5, .int 200, .int 30]))]) : rf_Mi l yX6_ofRoom wsX6_ofRoom ({ frames := 2, cells := 0, slots := 0, locals := 55 }) D [(cI, .int), (cB, .array .int)] sz [(x0, .inr (cRm, [.int t, .ref x1])), (x1, .inr (cRh, [.ref a0, .ref a1, .ref a2, .ref a3, .ref a4, .ref a5, .int 0, .int 0, .int 0, .int 0, .int 0, .int 5, .int 200, .int 30]))] [(x0, .inr (cRm, [.int 1, .ref x1]))] A [.ref x0, .int k, .int u] (fun r => r = 0) 0 0 := by
  refine Met.ofW (cc := cX6_ofRoom) (maxL := 3) (ret := (some .int)) (by decide) rfl ?_
  intro p e s m args below meth c s₁ B hml hv
  obtain ⟨rfl, hsz, hP, hK⟩ := hv
  have hx := B.exec
  have hb := B.bytes
  have hr := B.returns
  have hts := atoms_spec (ws := wsX6_ofRoom) B.pre
  have hown : s.vm.findClass RX6 = some m.cls := findClass_of_methodNamed B.named
  have hlocks := B.notSynchronized
  have hS : va_S A s.heap s.heap [] := va_S.rf
  have hP : va_P D vwCl [(x0, .inr (cRm, [.int t, .ref x1])), (x1, .inr (cRh, [.ref a0, .ref a1, .ref a2, .ref a3, .ref a4, .ref a5, .int 0, .int 0, .int 0, .int 0, .int 0, .int 5, .int 200, .int 30]))] s.heap := hP
  have hl := lv_entry ([.ref x0, .int k, .int u]) (n := 3) (Nat.le_of_ble_eq_true rfl)
  rw [lg_entry_eq]
  generalize (lg_sl ([.ref x0, .int k, .int u]) ++ List.replicate (3 - (lg_sl ([.ref x0, .int k, .int u])).length) Slot.unset).toArray = ls at hl ⊢
  have hl : lv_has ls 3 [(0, .ref x0), (1, .int k), (2, .int u)] := hl
  refine lv_aload_n hx hb dX6_ofRoom_0 rfl (lv_at hl 0 rfl) ?_
  refine lv_iconst (v := 0) hx hb dX6_ofRoom_1 (by decide) ?_
  refine va_put (ci := cRm) (C := RX6) (T := TX6) (N := 2) (ty := .int) hx hb hts (by decide +kernel) tyX6 tyX6_ok nmX6 hown hK hP hD hS 0 rfl rfl 0 (by decide) (hts (.fieldLink RX6 16 "WaxrowModel" "thrown" "I") (by decide +kernel)) (fun _ h9 => h9) rfl (by decide +kernel) rfl rfl (Nat.le_of_ble_eq_true rfl) dX6_ofRoom_2 (fun H locs hP hD hS => ?_)
  have hP : va_P D vwCl [(x0, .inr (cRm, [.int 0, .ref x1])), (x1, .inr (cRh, [.ref a0, .ref a1, .ref a2, .ref a3, .ref a4, .ref a5, .int 0, .int 0, .int 0, .int 0, .int 0, .int 5, .int 200, .int 30]))] H := hP
  have hD : va_D A [(x0, .inr (cRm, [.int 0, .ref x1])), (x1, .inr (cRh, [.ref a0, .ref a1, .ref a2, .ref a3, .ref a4, .ref a5, .int 0, .int 0, .int 0, .int 0, .int 0, .int 5, .int 200, .int 30]))] := hD
  refine lv_aload_n hx hb dX6_ofRoom_5 rfl (lv_at hl 0 rfl) ?_
  refine lv_iload_n hx hb dX6_ofRoom_6 rfl (lv_at hl 1 rfl) ?_
  refine rf_callR (As := [.int k]) (V := [(x0, .inr (cRm, [.int 0, .ref x1])), (x1, .inr (cRh, [.ref a0, .ref a1, .ref a2, .ref a3, .ref a4, .ref a5, .int 0, .int 0, .int 0, .int 0, .int 0, .int 5, .int 200, .int 30]))]) (q0 := 0) (ci := cRm) (r := (RX6, TX6, 2)) ⟨hx, hb, hml, hown, hts⟩ (rX6_isRoom l D cI cB H.size x0 x1 a0 a1 a2 a3 a4 a5 0 k) (cwV 1 hts gX6_ofRoom_X6_isRoom rfl rfl rfl (by decide +kernel) ⟨Nat.le_of_ble_eq_true rfl, Nat.le_of_ble_eq_true rfl⟩) hK hP (hP.sub [0, 1] rfl) hS rfl rfl rfl rfl hl.1 (Nat.le_of_ble_eq_true rfl) dX6_ofRoom_7 ⟨Nat.le_of_ble_eq_true rfl, Nat.le_of_ble_eq_true rfl⟩ rfl (fun r_ H locs hp hP hS => ?_)
  subst hp
  have hP : va_P D vwCl [(x0, .inr (cRm, [.int 0, .ref x1])), (x1, .inr (cRh, [.ref a0, .ref a1, .ref a2, .ref a3, .ref a4, .ref a5, .int 0, .int 0, .int 0, .int 0, .int 0, .int 5, .int 200, .int 30]))] H := hP
  refine lv_if_ne (tgt := 19) hx hb dX6_ofRoom_10 (by decide) (fun c_10 => ?_) (fun c_10 => ?_)
  · exact absurd c_10 (by decide +kernel)
  · refine lv_aload_n hx hb dX6_ofRoom_13 rfl (lv_at hl 0 rfl) ?_
    refine lv_iconst (v := 1) hx hb dX6_ofRoom_14 (by decide) ?_
    refine rf_callW (As := [.int 1]) (V := [(x0, .inr (cRm, [.int 0, .ref x1]))]) (V2 := [(x0, .inr (cRm, [.int 1, .ref x1]))]) (q0 := 0) (ci := cRm) (r := (RX6, TX6, 2)) ⟨hx, hb, hml, hown, hts⟩ (rX6_no l D cI cB H.size x0 x1 0 1 A (hD.sub [0] (by decide) rfl)) (cwV 1 hts gX6_ofRoom_X6_no rfl rfl rfl (by decide +kernel) ⟨Nat.le_of_ble_eq_true rfl, Nat.le_of_ble_eq_true rfl⟩) hK hP (hP.sub [0] rfl) hS rfl rfl rfl rfl hl.1 (Nat.le_of_ble_eq_true rfl) dX6_ofRoom_15 ⟨Nat.le_of_ble_eq_true rfl, Nat.le_of_ble_eq_true rfl⟩ rfl (fun r_ H locs hp hP hS => ?_)
    subst hp
    have hP : va_P D vwCl [(x0, .inr (cRm, [.int 1, .ref x1]))] H := hP
    exact W.iret (v := 0) hx hb hr (fun U9 ht hW9 => ⟨⟨0, (), rfl, rfl, by show va_P D vwCl _ U9.heap; rw [ht]; exact hP.sub [0] rfl⟩, hS.F ht⟩) hS.2.2 dX6_ofRoom_18
