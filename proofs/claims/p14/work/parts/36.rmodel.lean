/-! THE REFERENCE ITSELF: its object beside its house -/
def mm_W (D : va_G) (d : hs_Dm) (cB : ClassId) (L : hs_Lo) (m0 : Nat) (th : Int32) (ρ : hs_St) (A : Nat → Prop) (H : Heap) : Prop := va_at D vwCl (m0, .inr (cMm, [.int th, .ref (L 0 0)])) H ∧ mh_W D d.1 cB L ρ A H ∧ A m0 ∧ ∀ k i, mh_ix k i → L k i ≠ m0
def mm_C (D : va_G) (d : hs_Dm) (cB : ClassId) (L : hs_Lo) (m0 : Nat) (th : Int32) (ρ : hs_St) (A : Nat → Prop) (sz : Nat) (U : State) : Prop := U.heap.size = sz ∧ mm_W D d cB L m0 th ρ A U.heap ∧ mh_K D d cB U
theorem mm_blind {D : va_G} {d : hs_Dm} {cB : ClassId} {L : hs_Lo} {m0 : Nat} {th : Int32} {ρ : hs_St} {A : Nat → Prop} {sz : Nat} {av : List Value} : FrameBlind (va_Pc av (mm_C D d cB L m0 th ρ A sz)) := fun a U g mk q => by
  obtain ⟨q0, q1, q2, q3, q4, q5, q6, q7, q8, q9⟩ := q
  exact ⟨q0, q1, q2, va_K.moved (u := U) (U := U.calling g mk a) (Vm.Alike.refl U.vm) q3, va_K.moved (u := U) (U := U.calling g mk a) (Vm.Alike.refl U.vm) q4, va_Nw.same (u := U) (U := U.calling g mk a) rfl rfl q5, va_Nw.same (u := U) (U := U.calling g mk a) rfl rfl q6, va_Nw.same (u := U) (U := U.calling g mk a) rfl rfl q7, over_moved (u := U) (E := U.calling g mk a) (Vm.Alike.refl U.vm) q8, va_Nw.same (u := U) (U := U.calling g mk a) rfl rfl q9⟩
abbrev mm_X : Type := Int32 × hs_St
abbrev mm_Mi (l : Launch) (y : MethodName) (ws : List Cond) (rm : Room) (D : va_G) (d : hs_Dm) (cB : ClassId) (L : hs_Lo) (m0 : Nat) (th : Int32) (ρ : hs_St) (A : Nat → Prop) (sz : Nat) (av : List Value) (post : Int32 → mm_X → Prop) (mc ms : Nat) : Prop := Met l y ws rm (va_Pc av (mm_C D d cB L m0 th ρ A sz)) (va_Qi post (fun (X : mm_X) t => mm_W D d cB L m0 X.1 X.2 A t.heap) A) mc ms A
theorem mm_P {D : va_G} {q : Nat × va_E} {H : Heap} (h : va_at D vwCl q H) : va_P D vwCl [q] H := fun k q2 hk => by
  cases k with
  | zero => cases hk; exact h
  | succ k => simp at hk
section MMR
variable {p : Program} {l : Launch} {e : Env} {R : Room} {s : State} {m : MethodId} {args : Array Value} {below : List Frame} {meth : Method} {c0 : Code} {H : Heap} {locs : List Loc} {cells slots : Nat} {Q : State → Prop}
variable {cc : ByteArray} {pc : Nat} {ls : Array Slot} {rest : List Value} {D : va_G} {d : hs_Dm} {cB : ClassId} {L : hs_Lo} {m0 : Nat} {th : Int32} {A : Nat → Prop} {ρ : hs_St} {H0 : Heap}
variable {y : MethodName} {bytes : ByteArray} {maxL nL na index mc ms : Nat} {ret : Option FieldType} {ws : List Cond} {rm : Room} {Ts : List Cond} {own : String} {As st : List Value}
/-- its house -/
theorem mm_house (hexec : p.tables.exec = Jvm.exec) (hb : c0.code = cc) (hts : ∀ w ∈ Ts, w.before args s = true) (hin : ∀ w ∈ u_ws RX6 TX6 2, w ∈ Ts) (hown : s.vm.findClass own = some m.cls) (hK : va_K D vwCl (hs_ty d) s) (hM : mm_W D d cB L m0 th ρ A H) (hlink : (Cond.fieldLink own index RX6 (TX6 1).2.1 (TX6 1).2.2.1).before args s = true) (hdg : decode cc pc = .ok (.getfield index, 3))
    (kk : W p l e R s m args below meth c0 H locs cells slots Q (F0 m (pc + 3) ls (.ref (L 0 0) :: rest))) : W p l e R s m args below meth c0 H locs cells slots Q (F0 m pc ls (.ref m0 :: rest)) :=
  va_get (D := D) (ci := cMm) (C := RX6) (T := TX6) (N := 2) hexec hb hts hin hown hK (mm_P hM.1) 0 rfl rfl 1 (by decide) hlink (fun x h => h) (v := .ref (L 0 0)) rfl hdg kk
/-- which exception the latest call had -/
theorem mm_putt (hexec : p.tables.exec = Jvm.exec) (hb : c0.code = cc) (hts : ∀ w ∈ Ts, w.before args s = true) (hin : ∀ w ∈ u_ws RX6 TX6 2, w ∈ Ts) (hown : s.vm.findClass own = some m.cls) (hK : va_K D vwCl (hs_ty d) s) (hM : mm_W D d cB L m0 th ρ A H) (hS0 : va_S A H0 H locs) (hlink : (Cond.fieldLink own index RX6 (TX6 0).2.1 (TX6 0).2.2.1).before args s = true) (x : Int32)
    (hdg : decode cc pc = .ok (.putfield index, 3)) (kk : ∀ (H1 : Heap) (locs1 : List Loc), mm_W D d cB L m0 x ρ A H1 → va_S A H0 H1 locs1 → H1.size = H.size → W p l e R s m args below meth c0 H1 locs1 cells slots Q (F0 m (pc + 3) ls rest)) : W p l e R s m args below meth c0 H locs cells slots Q (F0 m pc ls (.int x :: .ref m0 :: rest)) := by
  have hc : vwCl[cMm]? = some (RX6, TX6, 2) := rfl
  have hj : 0 < 2 := by decide
  have hap := va_apart (own := own) hts hin tyX6 tyX6_ok nmX6 hK hc
  obtain ⟨hP, hW, hAm, hne⟩ := hM
  obtain ⟨r, h1, cell, q1, q2, q3, q4⟩ := hP
  have hr : r = (RX6, TX6, 2) := Option.some.inj (h1.symm.trans hc)
  subst hr
  obtain ⟨hS, hfc, kC, hkC, hkind⟩ := hK.1 cMm _ hc
  obtain ⟨cf, kf, fi, f, hi, hsl⟩ := hS 0 hj
  have hlay := hts _ (hin _ (u_in_lay hj))
  unfold u_lay at hlay
  rw [if_neg (by decide)] at hlay
  have hst := (u_facts hfc hkC (u_lays hts hin hj) hi).1
  have h6 := u_store hfc hkC hkind hlay hi (show parseFieldDescriptor (TX6 0).2.2.1 = some .int by decide +kernel) (show narrow .int (.int x) = .int x from rfl) (show fits .int (.int x) = true from rfl)
  have hi2 := hi
  rw [show (TX6 0).1 = RX6 from rfl] at hi2
  refine W.putK hexec hb (f := f) ⟨hown, hlink, ⟨_, _, _, hi2⟩, hst⟩ (by rw [q2]; exact h6) q1 q3 (by rw [hsl]; exact k2_hasslot (q4 0 hj)) rfl rfl hdg fun H' e1 e2 e3 => ?_
  rw [hsl] at e1 ⊢
  have e3 : ∀ q : Nat, q ≠ m0 → H'[q]? = H[q]? := e3
  exact kk H' _ ⟨⟨_, hc, t_OB.to (V := updV (vp_V _) 0 (.int x)) ⟨_, e1, q2, q3, t_set q4 hap hj (.int x)⟩ (fun n _ => vp_updV_set hj (.int x) n)⟩, hW.kept (fun q _ ⟨k, i, hx, e⟩ => e3 q (by rw [e]; exact hne k i hx)), hAm, hne⟩ (hS0.put e2 e3 hAm) e2
/-- the reference calls itself -/
theorem mm_calli {post : Int32 → mm_X → Prop} (S : CallFix p m c0 cc nL s args Ts own) (hC : mm_Mi l y ws rm D d cB L m0 th ρ A H.size (.ref m0 :: As) post mc ms) (cw : CallW R s args own RX6 index y bytes maxL ret ws rm mc ms na) (hKK : mh_K D d cB s) (hM : mm_W D d cB L m0 th ρ A H) (hS : va_S A s.heap H locs) (hn : As.length = na) (hsize : ls.size = nL) (hrest : (rest.map fun v => v.category).sum ≤ 8) (hdg : decode cc pc = .ok (.invokevirtual index, 3)) (hf : cells + mc ≤ R.cells ∧ slots + ms ≤ R.slots) (hst : st = As.reverse ++ .ref m0 :: rest)
    (kk : ∀ (r : Int32) (X : mm_X) (H1 : Heap) (locs1 : List Loc), post r X → mm_W D d cB L m0 X.1 X.2 A H1 → H.size ≤ H1.size → va_S A s.heap H1 locs1 → W p l e R s m args below meth c0 H1 locs1 (cells + mc) (slots + ms) Q (F0 m (pc + 3) ls (.int r :: rest))) : W p l e R s m args below meth c0 H locs cells slots Q (F0 m pc ls st) := by
  subst hst
  exact va_calli (va_runV S hC cw ⟨mm_blind, va_recv hKK.1 (mm_P hM.1) (q0 := 0) (show vwCl[cMm]? = some (RX6, TX6, 2) from rfl) rfl, fun U hU hW9 => ⟨rfl, by rw [hU], by rw [hU]; exact hM, hKK.on hW9⟩⟩ rfl hn hsize rfl (lv_room hrest) hdg hf) hS (fun q _ h => h) (fun q h => h) (fun r X t H1 locs1 ht _ hp hB1 hz hq hS1 => kk r X H1 locs1 hp (by rw [ht] at hB1; exact hB1) hz hS1)
/-- a static method of its own that neither reads nor writes -/
theorem mm_pure {post : Int32 → Prop} (S : CallFix p m c0 cc nL s args Ts own) (hC : Met l y ws rm (va_Pc As (fun _ => True)) (va_Qi (fun r (_ : Unit) => post r) (fun _ _ => True) (fun _ => False)) 0 0 (fun _ => False)) (cw : CallB R s args own index y bytes maxL ret ws rm 0 0 na ∧ (Cond.static y).before args s = true) (hM : mm_W D d cB L m0 th ρ A H) (hS : va_S A s.heap H locs) (hn : As.length = na) (hsize : ls.size = nL) (hrest : (rest.map fun v => v.category).sum ≤ 8) (hdg : decode cc pc = .ok (.invokestatic index, 3)) (hf : cells + 0 ≤ R.cells ∧ slots + 0 ≤ R.slots) (hst : st = As.reverse ++ rest)
    (kk : ∀ (r : Int32) (H1 : Heap) (locs1 : List Loc), post r → mm_W D d cB L m0 th ρ A H1 → H.size ≤ H1.size → va_S A s.heap H1 locs1 → W p l e R s m args below meth c0 H1 locs1 cells slots Q (F0 m (pc + 3) ls (.int r :: rest))) : W p l e R s m args below meth c0 H locs cells slots Q (F0 m pc ls st) := by
  subst hst
  refine va_calli (va_runS S hC cw ⟨fun a U g mk q => q, fun U hU hW2 => ⟨rfl, trivial⟩⟩ rfl hn hsize rfl (lv_room hrest) hdg hf) hS (fun q _ h => h.elim) (fun q h => h.elim) (fun r u t H1 locs1 ht _ hp _ hz hq hS1 => ?_)
  have oq : ∀ q : Nat, q < H.size → H1[q]? = H[q]? := fun q h => hq q h (fun z => z)
  exact kk r H1 locs1 hp ⟨hM.1.kept (oq _ hM.1.lt), hM.2.1.all oq, hM.2.2⟩ hz hS1
end MMR
