/-! THE LAW'S HELPERS, over any house: what is thrown is caught there -/
/-- which exception isn't which; the text that comes with one -/
def hl_N (U : State) : Prop := va_Nc "java/lang/IllegalArgumentException" "java/lang/IndexOutOfBoundsException" U ∧ va_Nc "java/lang/IllegalStateException" "java/lang/IndexOutOfBoundsException" U ∧ va_Nc "java/lang/IllegalStateException" "java/lang/IllegalArgumentException" U ∧ ∃ sa, vk_R RX4 115 "a figure cannot swap heads with itself" sa U
theorem hl_N.on {s U : State} (h : hl_N s) (hW : s.WarmedH U.vm) (hr : ∀ sa, vk_R RX4 115 "a figure cannot swap heads with itself" sa s → vk_R RX4 115 "a figure cannot swap heads with itself" sa U) : hl_N U := ⟨h.1.moved hW.alike, h.2.1.moved hW.alike, h.2.2.1.moved hW.alike, h.2.2.2.elim fun sa k => ⟨sa, hr sa k⟩⟩
def hl_C (D : va_G) (d : hs_Dm) (w : Nat) (L L2 : hs_Lo) (σ : hs_St) (A B : Nat → Prop) (o : Nat) (cL : ClassId) (f : Nat → Int64) (U : State) : Prop := hs_W D d L σ A U.heap ∧ va_K D vwCl (hs_ty d) U ∧ hx_E d.2.2.2.2 B U ∧ va_at D vwCl (w, .inr (cWx, [.ref (L 0 0), .ref (L2 0 0)])) U.heap ∧ va_P D vwCl [(o, .inl (cL, 1, .inr (.inl f)))] U.heap ∧ va_K D vwCl [(cL, .long)] U ∧ hl_N U
theorem hx_E.blind {tw : Nat} {A : Nat → Prop} {U : State} (g : JFrame) (mk : MethodId) (a : Array Value) (h : hx_E tw A U) : hx_E tw A (U.calling g mk a) := by
  obtain ⟨⟨k1, k2, k3, k4, k5⟩, ⟨h1, h2⟩, ⟨h3, h4, h5⟩, ⟨h6, h7, h8⟩, ⟨⟨a1, g1⟩, ⟨a2, g2⟩, ⟨a3, g3⟩⟩⟩ := h
  exact ⟨⟨va_Nw.same (u := U) (U := U.calling g mk a) rfl rfl k1, va_Nw.same (u := U) (U := U.calling g mk a) rfl rfl k2, va_Nw.same (u := U) (U := U.calling g mk a) rfl rfl k3, va_Z.moved (u := U) (U := U.calling g mk a) (Vm.Alike.refl U.vm) k4, va_T.moved (u := U) (U := U.calling g mk a) (Vm.Alike.refl U.vm) k5⟩, ⟨vx_Zq.moved (u := U) (U := U.calling g mk a) (Vm.Alike.refl U.vm) h1, vx_Zq.moved (u := U) (U := U.calling g mk a) (Vm.Alike.refl U.vm) h2⟩, ⟨va_Nw.same (u := U) (U := U.calling g mk a) rfl rfl h3, va_Nw.same (u := U) (U := U.calling g mk a) rfl rfl h4, va_Nw.same (u := U) (U := U.calling g mk a) rfl rfl h5⟩, ⟨va_Nw.same (u := U) (U := U.calling g mk a) rfl rfl h6, va_Nw.same (u := U) (U := U.calling g mk a) rfl rfl h7, va_Nw.same (u := U) (U := U.calling g mk a) rfl rfl h8⟩, ⟨⟨a1, vk_R.same (u := U) (U := U.calling g mk a) rfl g1⟩, ⟨a2, vk_R.same (u := U) (U := U.calling g mk a) rfl g2⟩, ⟨a3, vk_R.same (u := U) (U := U.calling g mk a) rfl g3⟩⟩⟩
theorem hl_N.blind {U : State} (g : JFrame) (mk : MethodId) (a : Array Value) (h : hl_N U) : hl_N (U.calling g mk a) := ⟨va_Nc.moved (u := U) (U := U.calling g mk a) (Vm.Alike.refl U.vm) h.1, va_Nc.moved (u := U) (U := U.calling g mk a) (Vm.Alike.refl U.vm) h.2.1, va_Nc.moved (u := U) (U := U.calling g mk a) (Vm.Alike.refl U.vm) h.2.2.1, h.2.2.2.elim fun sa k => ⟨sa, vk_R.same (u := U) (U := U.calling g mk a) rfl k⟩⟩
theorem hl_blind {D : va_G} {d : hs_Dm} {w : Nat} {L L2 : hs_Lo} {σ : hs_St} {A B : Nat → Prop} {o : Nat} {cL : ClassId} {f : Nat → Int64} {av : List Value} : FrameBlind (va_Pc av (hl_C D d w L L2 σ A B o cL f)) := fun a U g mk q => by
  obtain ⟨q0, q1, q3, q4, q5, q6, q7, q8⟩ := q
  exact ⟨q0, q1, va_K.moved (u := U) (U := U.calling g mk a) (Vm.Alike.refl U.vm) q3, q4.blind g mk a, q5, q6, va_K.moved (u := U) (U := U.calling g mk a) (Vm.Alike.refl U.vm) q7, q8.blind g mk a⟩
abbrev hl_M (l : Launch) (y : MethodName) (ws : List Cond) (D : va_G) (d : hs_Dm) (w : Nat) (L L2 : hs_Lo) (σ : hs_St) (A B : Nat → Prop) (o : Nat) (cL : ClassId) (f : Nat → Int64) (av : List Value) (c : cl_X) : Prop := Met l y ws ({ frames := 10, cells := 1, slots := 6, locals := 260 }) (va_Pc av (hl_C D d w L L2 σ A B o cL f)) (va_Qi (fun r (g : Nat → Int64) => r = c.1 ∧ (c.1 = 0 → g 0 = c.2.1.toInt64)) (fun g t => hs_W D d L c.2.2 A t.heap ∧ va_P D vwCl [(o, .inl (cL, 1, .inr (.inl g)))] t.heap) B) 1 6 B
/-- with the other house, too -/
def hl_C2 (D : va_G) (d : hs_Dm) (w : Nat) (L L2 : hs_Lo) (σ σ2 : hs_St) (A A2 B : Nat → Prop) (o : Nat) (cL : ClassId) (f : Nat → Int64) (U : State) : Prop := hl_C D d w L L2 σ A B o cL f U ∧ hs_W D d L2 σ2 A2 U.heap
theorem hl_blind2 {D : va_G} {d : hs_Dm} {w : Nat} {L L2 : hs_Lo} {σ σ2 : hs_St} {A A2 B : Nat → Prop} {o : Nat} {cL : ClassId} {f : Nat → Int64} {av : List Value} : FrameBlind (va_Pc av (hl_C2 D d w L L2 σ σ2 A A2 B o cL f)) := fun a U g mk q => by
  obtain ⟨q0, q1, q2⟩ := q
  obtain ⟨r0, r1⟩ := hl_blind (av := av) a U g mk ⟨q0, q1⟩
  exact ⟨r0, r1, q2⟩
abbrev hl_M2 (l : Launch) (y : MethodName) (ws : List Cond) (D : va_G) (d : hs_Dm) (w : Nat) (L L2 : hs_Lo) (σ σ2 : hs_St) (A A2 B : Nat → Prop) (o : Nat) (cL : ClassId) (f : Nat → Int64) (R : Nat) (av : List Value) (c : cl_X) : Prop := Met l y ws ({ frames := 10, cells := 1, slots := 6, locals := 260 }) (va_Pc av (hl_C2 D d w L L2 σ σ2 A A2 B o cL f)) (va_Qi (fun r (X : (Nat → Int64) × hs_St) => r = c.1 ∧ (c.1 = 0 → X.1 0 = c.2.1.toInt64) ∧ tr_ok R X.2) (fun X t => hs_W D d L c.2.2 A t.heap ∧ va_P D vwCl [(o, .inl (cL, 1, .inr (.inl X.1)))] t.heap ∧ hs_W D d L2 X.2 A2 t.heap) B) 1 6 B
theorem va_D1 {B : Nat → Prop} {a : Nat} {e : va_E} (h : B a) : va_D B [(a, e)] := ⟨fun i j p q h1 h2 _ => by
  have z1 : i < 1 := (List.getElem?_eq_some_iff.mp h1).1
  have z2 : j < 1 := (List.getElem?_eq_some_iff.mp h2).1
  omega, fun k q hk => by
  have hz : k < 1 := (List.getElem?_eq_some_iff.mp hk).1
  rw [show k = 0 by omega] at hk
  cases hk
  exact h⟩
theorem va_P1 {D : va_G} {cl : List vw_C} {q : Nat × va_E} {H : Heap} (h : va_at D cl q H) : va_P D cl [q] H := fun k q hk => by
  have hz : k < 1 := (List.getElem?_eq_some_iff.mp hk).1
  rw [show k = 0 by omega] at hk
  cases hk
  exact h
theorem rf_keep1 {D : va_G} {cl : List vw_C} {a : Nat} {e : va_E} {H H1 : Heap} (h : va_P D cl [(a, e)] H) (hq : a < H.size → H1[a]? = H[a]?) : va_P D cl [(a, e)] H1 := h.kept (fun k q hk => by
  have hl := (h k q hk).lt
  have hz : k < 1 := (List.getElem?_eq_some_iff.mp hk).1
  rw [show k = 0 by omega] at hk
  cases hk
  exact hq hl)
section HLR
variable {p : Program} {l : Launch} {e : Env} {R : Room} {s : State} {m : MethodId} {args : Array Value} {below : List Frame} {meth : Method} {c : Code} {H : Heap} {locs : List Loc} {cells slots : Nat} {Q : State → Prop}
variable {cc : ByteArray} {pc : Nat} {ls : Array Slot} {rest : List Value} {D : va_G} {d : hs_Dm} {L L2 : hs_Lo} {σ σ2 : hs_St} {A A2 B : Nat → Prop} {w o : Nat} {H0 : Heap} {cL : ClassId} {f : Nat → Int64}
variable {y : MethodName} {bytes : ByteArray} {maxL nL n index : Nat} {ret : Option FieldType} {ws : List Cond} {rm : Room} {Ts : List Cond} {own X : String} {As st : List Value} {post : Int32 → hs_St → Prop}
theorem hl_call (S : CallFix p m c cc nL s args Ts own) (hM : wx_Mi l y ws rm D d w L L2 σ A (.ref w :: As) post) (cw : CallW R s args own RX4 index y bytes maxL ret ws rm 0 0 n) (hK : va_K D vwCl (hs_ty d) s) (hX : hx_E d.2.2.2.2 B s) (hW : hs_W D d L σ A s.heap) (hAB : ∀ q, A q → B q) (hV : va_at D vwCl (w, .inr (cWx, [.ref (L 0 0), .ref (L2 0 0)])) s.heap) (hn : As.length = n) (hsize : ls.size = nL) (hrest : (rest.map fun v => v.category).sum ≤ 8) (hdg : decode cc pc = .ok (.invokevirtual index, 3)) (hf : cells ≤ R.cells ∧ slots ≤ R.slots) (hst : st = As.reverse ++ .ref w :: rest)
    (kk : ∀ (r : Int32) (τ : hs_St) (H1 : Heap) (locs1 : List Loc), post r τ → hs_W D d L τ A H1 → (∀ q : Nat, q < s.heap.size → ¬ A q → H1[q]? = s.heap[q]?) → va_S B s.heap H1 locs1 → W p l e R s m args below meth c H1 locs1 cells slots Q (F0 m (pc + 3) ls (.int r :: rest))) : W p l e R s m args below meth c s.heap [] cells slots Q (F0 m pc ls st) := by
  subst hst
  exact va_calli (va_runV S hM cw ⟨wx_blind, va_recv hK (va_P1 hV) (q0 := 0) (show vwCl[cWx]? = some (RX4, TX4, 2) from rfl) rfl, fun U hU hW9 => ⟨rfl, ⟨⟨by rw [hU]; exact hW, va_K.moved hW9.alike hK⟩, (hX.on hW9 hU va_S.rf).narrow hAB⟩, by rw [hU]; exact hV⟩⟩ rfl hn hsize rfl (lv_room hrest) hdg hf) (va_S.rf (A := B)) (fun q _ h => hAB q h) (fun q h => hAB q h) (fun r τ t H1 locs1 ht _ hp hB _ hq hS1 => kk r τ H1 locs1 hp (by rw [← ht]; exact hB.1) hq hS1)
theorem hl_call2 (S : CallFix p m c cc nL s args Ts own) (hM : tw_Mi l y ws rm D d w L σ A L2 σ2 A2 (.ref w :: As) post) (cw : CallW R s args own RX4 index y bytes maxL ret ws rm 0 0 n) (hK : va_K D vwCl (hs_ty d) s) (hX : hx_E d.2.2.2.2 B s) (hW : hs_W D d L σ A s.heap) (hW2 : hs_W D d L2 σ2 A2 s.heap) (hAB : ∀ q, tw_A A A2 q → B q) (hV : va_at D vwCl (w, .inr (cWx, [.ref (L 0 0), .ref (L2 0 0)])) s.heap) (hn : As.length = n) (hsize : ls.size = nL) (hrest : (rest.map fun v => v.category).sum ≤ 8) (hdg : decode cc pc = .ok (.invokevirtual index, 3)) (hf : cells ≤ R.cells ∧ slots ≤ R.slots) (hst : st = As.reverse ++ .ref w :: rest)
    (kk : ∀ (r : Int32) (τ : hs_St) (H1 : Heap) (locs1 : List Loc), post r τ → hs_W D d L σ A H1 → hs_W D d L2 τ A2 H1 → (∀ q : Nat, q < s.heap.size → ¬ tw_A A A2 q → H1[q]? = s.heap[q]?) → va_S B s.heap H1 locs1 → W p l e R s m args below meth c H1 locs1 cells slots Q (F0 m (pc + 3) ls (.int r :: rest))) : W p l e R s m args below meth c s.heap [] cells slots Q (F0 m pc ls st) := by
  subst hst
  exact va_calli (va_runV S hM cw ⟨tw_blind, va_recv hK (va_P1 hV) (q0 := 0) (show vwCl[cWx]? = some (RX4, TX4, 2) from rfl) rfl, fun U hU hW9 => ⟨rfl, ⟨by rw [hU]; exact hW, by rw [hU]; exact hW2, va_K.moved hW9.alike hK⟩, (hX.on hW9 hU va_S.rf).narrow hAB, by rw [hU]; exact hV⟩⟩ rfl hn hsize rfl (lv_room hrest) hdg hf) (va_S.rf (A := B)) (fun q _ h => hAB q h) (fun q h => hAB q h) (fun r τ t H1 locs1 ht _ hp hB _ hq hS1 => kk r τ H1 locs1 hp (by rw [← ht]; exact hB.1) (by rw [← ht]; exact hB.2.1) hq hS1)
theorem hl_callT {Pc : State → Prop} (S : CallFix p m c cc nL s args Ts own) (hM : vx_Met l y ws rm (va_Pc (.ref w :: As) Pc) (fun _ _ _ _ => False) (vx_X (fun _ : Unit => True) (fun E _ t => E = X ∧ hs_B D d L σ A t) A) 1 6 A) (hbl : FrameBlind (va_Pc (.ref w :: As) Pc)) (hPc : ∀ U : State, U.heap = s.heap → s.WarmedH U.vm → Pc U) (cw : CallW R s args own RX4 index y bytes maxL ret ws rm 1 6 n) (hK : va_K D vwCl (hs_ty d) s) (hAB : ∀ q, A q → B q) (hV : va_at D vwCl (w, .inr (cWx, [.ref (L 0 0), .ref (L2 0 0)])) s.heap) (hn : As.length = n) (hsize : ls.size = nL) (hrest : (rest.map fun v => v.category).sum ≤ 8) (hdg : decode cc pc = .ok (.invokevirtual index, 3)) (hf : cells + 1 ≤ R.cells ∧ slots + 6 ≤ R.slots) (hst : st = As.reverse ++ .ref w :: rest)
    (kx : ∀ (ce : Cell) (q9 : Addr) (H1 : Heap) (locs1 : List Loc), hs_W D d L σ A H1 → (∀ q : Nat, q < s.heap.size → ¬ A q → H1[q]? = s.heap[q]?) → va_S B s.heap H1 locs1 → H1[q9]? = some ce → ce.vm = .none → s.vm.findClass X = some ce.cls → vx_W p l e R s m args below meth c H1 locs1 (cells + 1) (slots + 6) Q (F0 m pc ls rest) q9) : W p l e R s m args below meth c s.heap [] cells slots Q (F0 m pc ls st) := by
  subst hst
  have hr := vx_runV (g := F0 m pc ls (As.reverse ++ .ref w :: rest)) (H := s.heap) (locs := []) (cells := cells) (slots := slots) (e := e) (below := below) (meth := meth) S hM cw ⟨hbl, va_recv hK (va_P1 hV) (q0 := 0) (show vwCl[cWx]? = some (RX4, TX4, 2) from rfl) rfl, fun U hU hW9 => ⟨rfl, hPc U hU hW9⟩⟩ rfl hn hsize rfl (lv_room hrest) hdg hf
  intro T hT X0
  rcases hr T hT X0 with ⟨v, st₀, t, T', L9, h0, X', hL, e1, e2, hbad, st⟩ | ⟨q, st₀, t, T', L9, E, ce, h0, X', hL, e1, e2, ⟨u, hp, ⟨hE, hb⟩, hF⟩, hce, hcv, hcl, st⟩
  · exact hbad.elim
  · subst hE
    obtain ⟨k1, k2, k3⟩ := vx_keep (A0 := B) h0 e1 (va_S.rf (A := B)) (fun q _ h => hAB q h) (fun q h => hAB q h) hL hF
    obtain ⟨t2, a1, b1⟩ := kx ce q T'.heap L9 (by rw [e1]; exact hb.1) k2 k3 (by rw [e1]; exact hce) hcv hcl T' rfl X'
    exact ⟨t2, st.trans a1, b1⟩
/-- the answer, put down -/
theorem hl_last (hexec : p.tables.exec = Jvm.exec) (hb : c.code = cc) (hKL : va_K D vwCl [(cL, .long)] s) (hP : va_P D vwCl [(o, .inl (cL, 1, .inr (.inl f)))] H) (hoB : B o) (hS : va_S B H0 H locs) {x : Int64} (hdg : decode cc pc = .ok (.lastore, 1))
    (kk : ∀ (H1 : Heap) (locs1 : List Loc) (g : Nat → Int64), g 0 = x → va_P D vwCl [(o, .inl (cL, 1, .inr (.inl g)))] H1 → (∀ q : Nat, q ≠ o → H1[q]? = H[q]?) → va_S B H0 H1 locs1 → W p l e R s m args below meth c H1 locs1 cells slots Q (F0 m (pc + 1) ls rest)) : W p l e R s m args below meth c H locs cells slots Q (F0 m pc ls (.long x :: .int 0 :: .ref o :: rest)) := by
  refine W.last hexec hb (hP 0 _ rfl) ((hKL.2 0 _ rfl).1 1 (fun j => .long (f j))) (fun q => by cases q) (by show ¬ ((0 : Int32) < 0 ∨ (arrV _ _ _).slots.size ≤ _); rw [arrV_size]; show ¬ ((0 : Int32) < 0 ∨ 1 ≤ (0 : Int32).toNatClampNeg); decide) rfl rfl hdg fun H1 e z oq => ?_
  refine kk H1 _ (vp_updL f 0 x) (by simp [vp_updL]) (va_P1 ?_) oq (hS.put z oq hoB)
  show H1[o]? = some (vp_cell _ _)
  rw [e]
  rw [vp_cell_l, vp_cell_l, arrV_store]
  congr 2
  funext q
  by_cases hq : q = 0
  · subst hq
    simp [updV, vp_updL]
  · simp [updV, vp_updL, hq]
end HLR
set_option maxHeartbeats 4000000 in
set_option maxRecDepth 100000 in
/-- the law: person -/
theorem hL_person (l : Launch) (D : va_G) (d : hs_Dm) (w : Nat) (L L2 : hs_Lo) (σ : hs_St) (A B : Nat → Prop) (o : Nat) (cL : ClassId) (f : Nat → Int64) (hwB : ¬ B w) (hAB : ∀ q, A q → B q) (hoB : B o) (hoA : ¬ A o) (hl0 : l.stackTraces = false) (P F R : Nat) (hok : hs_ok P F R σ) (x y z : Int32) : hl_M l yL_person wsL_person D d w L L2 σ A B o cL f [.ref w, .int x, .int y, .int z, .ref o] (cl_person P σ x y z) := by
  refine va_MetW (cc := cL_person) (maxL := 6) (ret := (some .int)) (hh := [(0, 12, 15, 13), (0, 12, 19, 15)]) (by decide) rfl ?_
  intro p e s m args below meth c s₁ B0 hml hv
  obtain ⟨rfl, hW, hK, hX, hV, hP, hKL, hN⟩ := hv
  have hx := B0.exec
  have hb := B0.bytes
  have hr := B0.returns
  have hts := atoms_spec (ws := wsL_person) B0.pre
  have hown : s.vm.findClass RL = some m.cls := findClass_of_methodNamed B0.named
  have hlocks := B0.notSynchronized
  have htab := vx_table (x := yL_person) B0 (hts (.codeWith yL_person cL_person 6 (some .int) [(0, 12, 15, 13), (0, 12, 19, 15)]) List.mem_cons_self)
  have hl := lv_entry ([.ref w, .int x, .int y, .int z, .ref o]) (n := 6) (Nat.le_of_ble_eq_true rfl)
  rw [lg_entry_eq]
  generalize (lg_sl ([.ref w, .int x, .int y, .int z, .ref o]) ++ List.replicate (6 - (lg_sl ([.ref w, .int x, .int y, .int z, .ref o])).length) Slot.unset).toArray = ls at hl ⊢
  have hl : lv_has ls 6 [(0, .ref w), (1, .int x), (2, .int y), (3, .int z), (4, .ref o)] := hl
  refine lv_aload hx hb dL_person_0 (lv_at hl 4 rfl) ?_
  refine lv_iconst (v := 0) hx hb dL_person_2 (by decide) ?_
  refine lv_aload_n hx hb dL_person_3 rfl (lv_at hl 0 rfl) ?_
  refine lv_iload_n hx hb dL_person_4 rfl (lv_at hl 1 rfl) ?_
  refine lv_iload_n hx hb dL_person_5 rfl (lv_at hl 2 rfl) ?_
  refine lv_iload_n hx hb dL_person_6 rfl (lv_at hl 3 rfl) ?_
  rcases oX4_person l D d L σ A w L2 (fun z => hwB (hAB w z)) hl0 P F R hok x y z with ⟨ec, hT⟩ | ⟨ec, hT⟩ | ⟨ec, post_, hM, hpost⟩
  · rw [ec]
    refine hl_callT (As := [.int x, .int y, .int z]) (rest := [.int 0, .ref o]) (L2 := L2) ⟨hx, hb, hml, hown, hts⟩ hT wx_blind (fun U hU hW9 => ⟨⟨⟨by rw [hU]; exact hW, va_K.moved hW9.alike hK⟩, (hX.on hW9 hU va_S.rf).narrow hAB⟩, by rw [hU]; exact hV⟩) (cwV 3 hts gL_person_X4_person rfl rfl rfl (by decide +kernel) ⟨Nat.le_of_ble_eq_true rfl, Nat.le_of_ble_eq_true rfl⟩) hK hAB hV rfl hl.1 (Nat.le_of_ble_eq_true rfl) dL_person_7 ⟨Nat.le_of_ble_eq_true rfl, Nat.le_of_ble_eq_true rfl⟩ rfl (fun ce q9 H locs hW hq hS hce hcv hcl => ?_)
    have hP := rf_keep1 hP (fun z => hq o z hoA)
    refine vx_catch (name := "java/lang/IllegalArgumentException") hown [] ⟨0, 12, 15, 13⟩ [⟨0, 12, 19, 15⟩] (by rw [htab]; rfl) (fun z hz => nomatch hz) (by decide) (by decide) (hts (.classLink RL 13 "java/lang/IllegalArgumentException") (by decide +kernel)) (va_Nw.use rfl hX.2.2.2.1.2.1) hce hcv hcl ?_
    refine lv_astore (lv' := [(5, .ref q9), (0, .ref w), (1, .int x), (2, .int y), (3, .int z), (4, .ref o)]) hx hb dL_person_15 hl (by decide) rfl (fun ls hl => ?_)
    refine lv_iconst (v := 1) hx hb dL_person_17 (by decide) ?_
    exact W.iret (v := 1) hx hb hr (fun U9 ht hW9 => ⟨⟨1, f, rfl, ⟨rfl, fun z => absurd (show (1 : Int32) = 0 from z) (by decide)⟩, by show hs_W D d L _ A U9.heap ∧ va_P D vwCl _ U9.heap; rw [ht]; exact ⟨hW, hP⟩⟩, hS.F ht⟩) hS.2.2 dL_person_18
  · rw [ec]
    refine hl_callT (As := [.int x, .int y, .int z]) (rest := [.int 0, .ref o]) (L2 := L2) ⟨hx, hb, hml, hown, hts⟩ hT wx_blind (fun U hU hW9 => ⟨⟨⟨by rw [hU]; exact hW, va_K.moved hW9.alike hK⟩, (hX.on hW9 hU va_S.rf).narrow hAB⟩, by rw [hU]; exact hV⟩) (cwV 3 hts gL_person_X4_person rfl rfl rfl (by decide +kernel) ⟨Nat.le_of_ble_eq_true rfl, Nat.le_of_ble_eq_true rfl⟩) hK hAB hV rfl hl.1 (Nat.le_of_ble_eq_true rfl) dL_person_7 ⟨Nat.le_of_ble_eq_true rfl, Nat.le_of_ble_eq_true rfl⟩ rfl (fun ce q9 H locs hW hq hS hce hcv hcl => ?_)
    have hP := rf_keep1 hP (fun z => hq o z hoA)
    refine vx_catch (name := "java/lang/IllegalStateException") hown [⟨0, 12, 15, 13⟩] ⟨0, 12, 19, 15⟩ [] (by rw [htab]; rfl) (fun z hz => by
      rcases List.mem_cons.mp hz with rfl | hz
      · exact Or.inr ⟨by decide, "java/lang/IllegalArgumentException", hts (.classLink RL 13 "java/lang/IllegalArgumentException") (by decide +kernel), hN.2.2.1⟩
      · exact absurd hz List.not_mem_nil) (by decide) (by decide) (hts (.classLink RL 15 "java/lang/IllegalStateException") (by decide +kernel)) (va_Nw.use rfl hX.2.2.2.1.2.2) hce hcv hcl ?_
    refine lv_astore (lv' := [(5, .ref q9), (0, .ref w), (1, .int x), (2, .int y), (3, .int z), (4, .ref o)]) hx hb dL_person_19 hl (by decide) rfl (fun ls hl => ?_)
    refine lv_iconst (v := 2) hx hb dL_person_21 (by decide) ?_
    exact W.iret (v := 2) hx hb hr (fun U9 ht hW9 => ⟨⟨2, f, rfl, ⟨rfl, fun z => absurd (show (2 : Int32) = 0 from z) (by decide)⟩, by show hs_W D d L _ A U9.heap ∧ va_P D vwCl _ U9.heap; rw [ht]; exact ⟨hW, hP⟩⟩, hS.F ht⟩) hS.2.2 dL_person_22
  · refine hl_call (As := [.int x, .int y, .int z]) (rest := [.int 0, .ref o]) ⟨hx, hb, hml, hown, hts⟩ hM (cwV 3 hts gL_person_X4_person rfl rfl rfl (by decide +kernel) ⟨Nat.le_of_ble_eq_true rfl, Nat.le_of_ble_eq_true rfl⟩) hK hX hW hAB hV rfl hl.1 (Nat.le_of_ble_eq_true rfl) dL_person_7 ⟨Nat.zero_le _, Nat.zero_le _⟩ rfl (fun r_ τ_ H locs hp hW hq hS => ?_)
    obtain ⟨e1, e2⟩ := hpost _ _ hp
    have hP := rf_keep1 hP (fun z => hq o z hoA)
    refine lv_i2l hx hb dL_person_10 rfl ?_
    refine hl_last hx hb hKL hP hoB hS dL_person_11 (fun H1 locs g hg0 hP oq hS => ?_)
    have hW := hW.kept (fun q _ h2 => oq q (fun z => hoA (by rw [← z]; exact h2)))
    refine lv_goto (tgt := 23) hx hb dL_person_12 (by decide) ?_
    refine lv_iconst (v := 0) hx hb dL_person_23 (by decide) ?_
    refine W.widen (k := 1) (n := 6) (Nat.le_of_ble_eq_true rfl) (Nat.le_of_ble_eq_true rfl) ?_
    exact W.iret (v := 0) hx hb hr (fun U9 ht hW9 => ⟨⟨0, g, rfl, ⟨ec.symm, fun _ => by rw [hg0, e1]⟩, by show hs_W D d L _ A U9.heap ∧ va_P D vwCl _ U9.heap; rw [ht, e2]; exact ⟨hW, hP⟩⟩, hS.F ht⟩) hS.2.2 dL_person_24
set_option maxHeartbeats 4000000 in
set_option maxRecDepth 100000 in
/-- the law: trend -/
theorem hL_trend (l : Launch) (D : va_G) (d : hs_Dm) (w : Nat) (L L2 : hs_Lo) (σ : hs_St) (A B : Nat → Prop) (o : Nat) (cL : ClassId) (f : Nat → Int64) (hwB : ¬ B w) (hAB : ∀ q, A q → B q) (hoB : B o) (hoA : ¬ A o) (hl0 : l.stackTraces = false) (P F R : Nat) (hok : hs_ok P F R σ) (x y z : Int32) : hl_M l yL_trend wsL_trend D d w L L2 σ A B o cL f [.ref w, .int x, .int y, .int z, .ref o] (cl_trend P σ x y z) := by
  refine va_MetW (cc := cL_trend) (maxL := 6) (ret := (some .int)) (hh := [(0, 12, 15, 20), (0, 12, 19, 13)]) (by decide) rfl ?_
  intro p e s m args below meth c s₁ B0 hml hv
  obtain ⟨rfl, hW, hK, hX, hV, hP, hKL, hN⟩ := hv
  have hx := B0.exec
  have hb := B0.bytes
  have hr := B0.returns
  have hts := atoms_spec (ws := wsL_trend) B0.pre
  have hown : s.vm.findClass RL = some m.cls := findClass_of_methodNamed B0.named
  have hlocks := B0.notSynchronized
  have htab := vx_table (x := yL_trend) B0 (hts (.codeWith yL_trend cL_trend 6 (some .int) [(0, 12, 15, 20), (0, 12, 19, 13)]) List.mem_cons_self)
  have hl := lv_entry ([.ref w, .int x, .int y, .int z, .ref o]) (n := 6) (Nat.le_of_ble_eq_true rfl)
  rw [lg_entry_eq]
  generalize (lg_sl ([.ref w, .int x, .int y, .int z, .ref o]) ++ List.replicate (6 - (lg_sl ([.ref w, .int x, .int y, .int z, .ref o])).length) Slot.unset).toArray = ls at hl ⊢
  have hl : lv_has ls 6 [(0, .ref w), (1, .int x), (2, .int y), (3, .int z), (4, .ref o)] := hl
  refine lv_aload hx hb dL_trend_0 (lv_at hl 4 rfl) ?_
  refine lv_iconst (v := 0) hx hb dL_trend_2 (by decide) ?_
  refine lv_aload_n hx hb dL_trend_3 rfl (lv_at hl 0 rfl) ?_
  refine lv_iload_n hx hb dL_trend_4 rfl (lv_at hl 1 rfl) ?_
  refine lv_iload_n hx hb dL_trend_5 rfl (lv_at hl 2 rfl) ?_
  refine lv_iload_n hx hb dL_trend_6 rfl (lv_at hl 3 rfl) ?_
  rcases oX4_trend l D d L σ A w L2 (fun z => hwB (hAB w z)) hl0 P F R hok x y z with ⟨ec, hT⟩ | ⟨ec, hT⟩ | ⟨ec, post_, hM, hpost⟩
  · rw [ec]
    refine hl_callT (As := [.int x, .int y, .int z]) (rest := [.int 0, .ref o]) (L2 := L2) ⟨hx, hb, hml, hown, hts⟩ hT wx_blind (fun U hU hW9 => ⟨⟨⟨by rw [hU]; exact hW, va_K.moved hW9.alike hK⟩, (hX.on hW9 hU va_S.rf).narrow hAB⟩, by rw [hU]; exact hV⟩) (cwV 3 hts gL_trend_X4_trend rfl rfl rfl (by decide +kernel) ⟨Nat.le_of_ble_eq_true rfl, Nat.le_of_ble_eq_true rfl⟩) hK hAB hV rfl hl.1 (Nat.le_of_ble_eq_true rfl) dL_trend_7 ⟨Nat.le_of_ble_eq_true rfl, Nat.le_of_ble_eq_true rfl⟩ rfl (fun ce q9 H locs hW hq hS hce hcv hcl => ?_)
    have hP := rf_keep1 hP (fun z => hq o z hoA)
    refine vx_catch (name := "java/lang/IndexOutOfBoundsException") hown [] ⟨0, 12, 15, 20⟩ [⟨0, 12, 19, 13⟩] (by rw [htab]; rfl) (fun z hz => nomatch hz) (by decide) (by decide) (hts (.classLink RL 20 "java/lang/IndexOutOfBoundsException") (by decide +kernel)) (va_Nw.use rfl hX.2.2.2.1.1) hce hcv hcl ?_
    refine lv_astore (lv' := [(5, .ref q9), (0, .ref w), (1, .int x), (2, .int y), (3, .int z), (4, .ref o)]) hx hb dL_trend_15 hl (by decide) rfl (fun ls hl => ?_)
    refine lv_iconst (v := 1) hx hb dL_trend_17 (by decide) ?_
    exact W.iret (v := 1) hx hb hr (fun U9 ht hW9 => ⟨⟨1, f, rfl, ⟨rfl, fun z => absurd (show (1 : Int32) = 0 from z) (by decide)⟩, by show hs_W D d L _ A U9.heap ∧ va_P D vwCl _ U9.heap; rw [ht]; exact ⟨hW, hP⟩⟩, hS.F ht⟩) hS.2.2 dL_trend_18
  · rw [ec]
    refine hl_callT (As := [.int x, .int y, .int z]) (rest := [.int 0, .ref o]) (L2 := L2) ⟨hx, hb, hml, hown, hts⟩ hT wx_blind (fun U hU hW9 => ⟨⟨⟨by rw [hU]; exact hW, va_K.moved hW9.alike hK⟩, (hX.on hW9 hU va_S.rf).narrow hAB⟩, by rw [hU]; exact hV⟩) (cwV 3 hts gL_trend_X4_trend rfl rfl rfl (by decide +kernel) ⟨Nat.le_of_ble_eq_true rfl, Nat.le_of_ble_eq_true rfl⟩) hK hAB hV rfl hl.1 (Nat.le_of_ble_eq_true rfl) dL_trend_7 ⟨Nat.le_of_ble_eq_true rfl, Nat.le_of_ble_eq_true rfl⟩ rfl (fun ce q9 H locs hW hq hS hce hcv hcl => ?_)
    have hP := rf_keep1 hP (fun z => hq o z hoA)
    refine vx_catch (name := "java/lang/IllegalArgumentException") hown [⟨0, 12, 15, 20⟩] ⟨0, 12, 19, 13⟩ [] (by rw [htab]; rfl) (fun z hz => by
      rcases List.mem_cons.mp hz with rfl | hz
      · exact Or.inr ⟨by decide, "java/lang/IndexOutOfBoundsException", hts (.classLink RL 20 "java/lang/IndexOutOfBoundsException") (by decide +kernel), hN.1⟩
      · exact absurd hz List.not_mem_nil) (by decide) (by decide) (hts (.classLink RL 13 "java/lang/IllegalArgumentException") (by decide +kernel)) (va_Nw.use rfl hX.2.2.2.1.2.1) hce hcv hcl ?_
    refine lv_astore (lv' := [(5, .ref q9), (0, .ref w), (1, .int x), (2, .int y), (3, .int z), (4, .ref o)]) hx hb dL_trend_19 hl (by decide) rfl (fun ls hl => ?_)
    refine lv_iconst (v := 2) hx hb dL_trend_21 (by decide) ?_
    exact W.iret (v := 2) hx hb hr (fun U9 ht hW9 => ⟨⟨2, f, rfl, ⟨rfl, fun z => absurd (show (2 : Int32) = 0 from z) (by decide)⟩, by show hs_W D d L _ A U9.heap ∧ va_P D vwCl _ U9.heap; rw [ht]; exact ⟨hW, hP⟩⟩, hS.F ht⟩) hS.2.2 dL_trend_22
  · refine hl_call (As := [.int x, .int y, .int z]) (rest := [.int 0, .ref o]) ⟨hx, hb, hml, hown, hts⟩ hM (cwV 3 hts gL_trend_X4_trend rfl rfl rfl (by decide +kernel) ⟨Nat.le_of_ble_eq_true rfl, Nat.le_of_ble_eq_true rfl⟩) hK hX hW hAB hV rfl hl.1 (Nat.le_of_ble_eq_true rfl) dL_trend_7 ⟨Nat.zero_le _, Nat.zero_le _⟩ rfl (fun r_ τ_ H locs hp hW hq hS => ?_)
    obtain ⟨e1, e2⟩ := hpost _ _ hp
    have hP := rf_keep1 hP (fun z => hq o z hoA)
    refine lv_i2l hx hb dL_trend_10 rfl ?_
    refine hl_last hx hb hKL hP hoB hS dL_trend_11 (fun H1 locs g hg0 hP oq hS => ?_)
    have hW := hW.kept (fun q _ h2 => oq q (fun z => hoA (by rw [← z]; exact h2)))
    refine lv_goto (tgt := 23) hx hb dL_trend_12 (by decide) ?_
    refine lv_iconst (v := 0) hx hb dL_trend_23 (by decide) ?_
    refine W.widen (k := 1) (n := 6) (Nat.le_of_ble_eq_true rfl) (Nat.le_of_ble_eq_true rfl) ?_
    exact W.iret (v := 0) hx hb hr (fun U9 ht hW9 => ⟨⟨0, g, rfl, ⟨ec.symm, fun _ => by rw [hg0, e1]⟩, by show hs_W D d L _ A U9.heap ∧ va_P D vwCl _ U9.heap; rw [ht, e2]; exact ⟨hW, hP⟩⟩, hS.F ht⟩) hS.2.2 dL_trend_24
set_option maxHeartbeats 4000000 in
set_option maxRecDepth 100000 in
/-- the law: news -/
theorem hL_news (l : Launch) (D : va_G) (d : hs_Dm) (w : Nat) (L L2 : hs_Lo) (σ : hs_St) (A B : Nat → Prop) (o : Nat) (cL : ClassId) (f : Nat → Int64) (hwB : ¬ B w) (hAB : ∀ q, A q → B q) (hoB : B o) (hoA : ¬ A o) (hl0 : l.stackTraces = false) (P F R : Nat) (hok : hs_ok P F R σ) (x y : Int32) : hl_M l yL_news wsL_news D d w L L2 σ A B o cL f [.ref w, .int x, .int y, .ref o] (cl_news P σ x y) := by
  refine va_MetW (cc := cL_news) (maxL := 5) (ret := (some .int)) (hh := [(0, 10, 13, 20), (0, 10, 17, 13)]) (by decide) rfl ?_
  intro p e s m args below meth c s₁ B0 hml hv
  obtain ⟨rfl, hW, hK, hX, hV, hP, hKL, hN⟩ := hv
  have hx := B0.exec
  have hb := B0.bytes
  have hr := B0.returns
  have hts := atoms_spec (ws := wsL_news) B0.pre
  have hown : s.vm.findClass RL = some m.cls := findClass_of_methodNamed B0.named
  have hlocks := B0.notSynchronized
  have htab := vx_table (x := yL_news) B0 (hts (.codeWith yL_news cL_news 5 (some .int) [(0, 10, 13, 20), (0, 10, 17, 13)]) List.mem_cons_self)
  have hl := lv_entry ([.ref w, .int x, .int y, .ref o]) (n := 5) (Nat.le_of_ble_eq_true rfl)
  rw [lg_entry_eq]
  generalize (lg_sl ([.ref w, .int x, .int y, .ref o]) ++ List.replicate (5 - (lg_sl ([.ref w, .int x, .int y, .ref o])).length) Slot.unset).toArray = ls at hl ⊢
  have hl : lv_has ls 5 [(0, .ref w), (1, .int x), (2, .int y), (3, .ref o)] := hl
  refine lv_aload_n hx hb dL_news_0 rfl (lv_at hl 3 rfl) ?_
  refine lv_iconst (v := 0) hx hb dL_news_1 (by decide) ?_
  refine lv_aload_n hx hb dL_news_2 rfl (lv_at hl 0 rfl) ?_
  refine lv_iload_n hx hb dL_news_3 rfl (lv_at hl 1 rfl) ?_
  refine lv_iload_n hx hb dL_news_4 rfl (lv_at hl 2 rfl) ?_
  rcases oX4_news l D d L σ A w L2 (fun z => hwB (hAB w z)) hl0 P F R hok x y with ⟨ec, hT⟩ | ⟨ec, hT⟩ | ⟨ec, post_, hM, hpost⟩
  · rw [ec]
    refine hl_callT (As := [.int x, .int y]) (rest := [.int 0, .ref o]) (L2 := L2) ⟨hx, hb, hml, hown, hts⟩ hT wx_blind (fun U hU hW9 => ⟨⟨⟨by rw [hU]; exact hW, va_K.moved hW9.alike hK⟩, (hX.on hW9 hU va_S.rf).narrow hAB⟩, by rw [hU]; exact hV⟩) (cwV 2 hts gL_news_X4_news rfl rfl rfl (by decide +kernel) ⟨Nat.le_of_ble_eq_true rfl, Nat.le_of_ble_eq_true rfl⟩) hK hAB hV rfl hl.1 (Nat.le_of_ble_eq_true rfl) dL_news_5 ⟨Nat.le_of_ble_eq_true rfl, Nat.le_of_ble_eq_true rfl⟩ rfl (fun ce q9 H locs hW hq hS hce hcv hcl => ?_)
    have hP := rf_keep1 hP (fun z => hq o z hoA)
    refine vx_catch (name := "java/lang/IndexOutOfBoundsException") hown [] ⟨0, 10, 13, 20⟩ [⟨0, 10, 17, 13⟩] (by rw [htab]; rfl) (fun z hz => nomatch hz) (by decide) (by decide) (hts (.classLink RL 20 "java/lang/IndexOutOfBoundsException") (by decide +kernel)) (va_Nw.use rfl hX.2.2.2.1.1) hce hcv hcl ?_
    refine lv_astore (lv' := [(4, .ref q9), (0, .ref w), (1, .int x), (2, .int y), (3, .ref o)]) hx hb dL_news_13 hl (by decide) rfl (fun ls hl => ?_)
    refine lv_iconst (v := 1) hx hb dL_news_15 (by decide) ?_
    exact W.iret (v := 1) hx hb hr (fun U9 ht hW9 => ⟨⟨1, f, rfl, ⟨rfl, fun z => absurd (show (1 : Int32) = 0 from z) (by decide)⟩, by show hs_W D d L _ A U9.heap ∧ va_P D vwCl _ U9.heap; rw [ht]; exact ⟨hW, hP⟩⟩, hS.F ht⟩) hS.2.2 dL_news_16
  · rw [ec]
    refine hl_callT (As := [.int x, .int y]) (rest := [.int 0, .ref o]) (L2 := L2) ⟨hx, hb, hml, hown, hts⟩ hT wx_blind (fun U hU hW9 => ⟨⟨⟨by rw [hU]; exact hW, va_K.moved hW9.alike hK⟩, (hX.on hW9 hU va_S.rf).narrow hAB⟩, by rw [hU]; exact hV⟩) (cwV 2 hts gL_news_X4_news rfl rfl rfl (by decide +kernel) ⟨Nat.le_of_ble_eq_true rfl, Nat.le_of_ble_eq_true rfl⟩) hK hAB hV rfl hl.1 (Nat.le_of_ble_eq_true rfl) dL_news_5 ⟨Nat.le_of_ble_eq_true rfl, Nat.le_of_ble_eq_true rfl⟩ rfl (fun ce q9 H locs hW hq hS hce hcv hcl => ?_)
    have hP := rf_keep1 hP (fun z => hq o z hoA)
    refine vx_catch (name := "java/lang/IllegalArgumentException") hown [⟨0, 10, 13, 20⟩] ⟨0, 10, 17, 13⟩ [] (by rw [htab]; rfl) (fun z hz => by
      rcases List.mem_cons.mp hz with rfl | hz
      · exact Or.inr ⟨by decide, "java/lang/IndexOutOfBoundsException", hts (.classLink RL 20 "java/lang/IndexOutOfBoundsException") (by decide +kernel), hN.1⟩
      · exact absurd hz List.not_mem_nil) (by decide) (by decide) (hts (.classLink RL 13 "java/lang/IllegalArgumentException") (by decide +kernel)) (va_Nw.use rfl hX.2.2.2.1.2.1) hce hcv hcl ?_
    refine lv_astore (lv' := [(4, .ref q9), (0, .ref w), (1, .int x), (2, .int y), (3, .ref o)]) hx hb dL_news_17 hl (by decide) rfl (fun ls hl => ?_)
    refine lv_iconst (v := 2) hx hb dL_news_19 (by decide) ?_
    exact W.iret (v := 2) hx hb hr (fun U9 ht hW9 => ⟨⟨2, f, rfl, ⟨rfl, fun z => absurd (show (2 : Int32) = 0 from z) (by decide)⟩, by show hs_W D d L _ A U9.heap ∧ va_P D vwCl _ U9.heap; rw [ht]; exact ⟨hW, hP⟩⟩, hS.F ht⟩) hS.2.2 dL_news_20
  · refine hl_call (As := [.int x, .int y]) (rest := [.int 0, .ref o]) ⟨hx, hb, hml, hown, hts⟩ hM (cwV 2 hts gL_news_X4_news rfl rfl rfl (by decide +kernel) ⟨Nat.le_of_ble_eq_true rfl, Nat.le_of_ble_eq_true rfl⟩) hK hX hW hAB hV rfl hl.1 (Nat.le_of_ble_eq_true rfl) dL_news_5 ⟨Nat.zero_le _, Nat.zero_le _⟩ rfl (fun r_ τ_ H locs hp hW hq hS => ?_)
    obtain ⟨e1, e2⟩ := hpost _ _ hp
    have hP := rf_keep1 hP (fun z => hq o z hoA)
    refine lv_i2l hx hb dL_news_8 rfl ?_
    refine hl_last hx hb hKL hP hoB hS dL_news_9 (fun H1 locs g hg0 hP oq hS => ?_)
    have hW := hW.kept (fun q _ h2 => oq q (fun z => hoA (by rw [← z]; exact h2)))
    refine lv_goto (tgt := 21) hx hb dL_news_10 (by decide) ?_
    refine lv_iconst (v := 0) hx hb dL_news_21 (by decide) ?_
    refine W.widen (k := 1) (n := 6) (Nat.le_of_ble_eq_true rfl) (Nat.le_of_ble_eq_true rfl) ?_
    exact W.iret (v := 0) hx hb hr (fun U9 ht hW9 => ⟨⟨0, g, rfl, ⟨ec.symm, fun _ => by rw [hg0, e1]⟩, by show hs_W D d L _ A U9.heap ∧ va_P D vwCl _ U9.heap; rw [ht, e2]; exact ⟨hW, hP⟩⟩, hS.F ht⟩) hS.2.2 dL_news_22
set_option maxHeartbeats 4000000 in
set_option maxRecDepth 100000 in
/-- the law: consent -/
theorem hL_consent (l : Launch) (D : va_G) (d : hs_Dm) (w : Nat) (L L2 : hs_Lo) (σ : hs_St) (A B : Nat → Prop) (o : Nat) (cL : ClassId) (f : Nat → Int64) (hwB : ¬ B w) (hAB : ∀ q, A q → B q) (hoB : B o) (hoA : ¬ A o) (hl0 : l.stackTraces = false) (P F R : Nat) (hok : hs_ok P F R σ) (x y : Int32) (hy : y = 0 ∨ y = 1) : hl_M l yL_consent wsL_consent D d w L L2 σ A B o cL f [.ref w, .int x, .int y, .ref o] (cl_consent P F σ x y) := by
  refine va_MetW (cc := cL_consent) (maxL := 5) (ret := (some .int)) (hh := [(0, 10, 13, 20)]) (by decide) rfl ?_
  intro p e s m args below meth c s₁ B0 hml hv
  obtain ⟨rfl, hW, hK, hX, hV, hP, hKL, hN⟩ := hv
  have hx := B0.exec
  have hb := B0.bytes
  have hr := B0.returns
  have hts := atoms_spec (ws := wsL_consent) B0.pre
  have hown : s.vm.findClass RL = some m.cls := findClass_of_methodNamed B0.named
  have hlocks := B0.notSynchronized
  have htab := vx_table (x := yL_consent) B0 (hts (.codeWith yL_consent cL_consent 5 (some .int) [(0, 10, 13, 20)]) List.mem_cons_self)
  have hl := lv_entry ([.ref w, .int x, .int y, .ref o]) (n := 5) (Nat.le_of_ble_eq_true rfl)
  rw [lg_entry_eq]
  generalize (lg_sl ([.ref w, .int x, .int y, .ref o]) ++ List.replicate (5 - (lg_sl ([.ref w, .int x, .int y, .ref o])).length) Slot.unset).toArray = ls at hl ⊢
  have hl : lv_has ls 5 [(0, .ref w), (1, .int x), (2, .int y), (3, .ref o)] := hl
  refine lv_aload_n hx hb dL_consent_0 rfl (lv_at hl 3 rfl) ?_
  refine lv_iconst (v := 0) hx hb dL_consent_1 (by decide) ?_
  refine lv_aload_n hx hb dL_consent_2 rfl (lv_at hl 0 rfl) ?_
  refine lv_iload_n hx hb dL_consent_3 rfl (lv_at hl 1 rfl) ?_
  refine lv_iload_n hx hb dL_consent_4 rfl (lv_at hl 2 rfl) ?_
  rcases oX4_consent l D d L σ A w L2 (fun z => hwB (hAB w z)) hl0 P F R hok x y hy with ⟨ec, hT⟩ | ⟨ec, post_, hM, hpost⟩
  · rw [ec]
    refine hl_callT (As := [.int x, .int y]) (rest := [.int 0, .ref o]) (L2 := L2) ⟨hx, hb, hml, hown, hts⟩ hT wx_blind (fun U hU hW9 => ⟨⟨⟨by rw [hU]; exact hW, va_K.moved hW9.alike hK⟩, (hX.on hW9 hU va_S.rf).narrow hAB⟩, by rw [hU]; exact hV⟩) (cwV 2 hts gL_consent_X4_consent rfl rfl rfl (by decide +kernel) ⟨Nat.le_of_ble_eq_true rfl, Nat.le_of_ble_eq_true rfl⟩) hK hAB hV rfl hl.1 (Nat.le_of_ble_eq_true rfl) dL_consent_5 ⟨Nat.le_of_ble_eq_true rfl, Nat.le_of_ble_eq_true rfl⟩ rfl (fun ce q9 H locs hW hq hS hce hcv hcl => ?_)
    have hP := rf_keep1 hP (fun z => hq o z hoA)
    refine vx_catch (name := "java/lang/IndexOutOfBoundsException") hown [] ⟨0, 10, 13, 20⟩ [] (by rw [htab]; rfl) (fun z hz => nomatch hz) (by decide) (by decide) (hts (.classLink RL 20 "java/lang/IndexOutOfBoundsException") (by decide +kernel)) (va_Nw.use rfl hX.2.2.2.1.1) hce hcv hcl ?_
    refine lv_astore (lv' := [(4, .ref q9), (0, .ref w), (1, .int x), (2, .int y), (3, .ref o)]) hx hb dL_consent_13 hl (by decide) rfl (fun ls hl => ?_)
    refine lv_iconst (v := 1) hx hb dL_consent_15 (by decide) ?_
    exact W.iret (v := 1) hx hb hr (fun U9 ht hW9 => ⟨⟨1, f, rfl, ⟨rfl, fun z => absurd (show (1 : Int32) = 0 from z) (by decide)⟩, by show hs_W D d L _ A U9.heap ∧ va_P D vwCl _ U9.heap; rw [ht]; exact ⟨hW, hP⟩⟩, hS.F ht⟩) hS.2.2 dL_consent_16
  · refine hl_call (As := [.int x, .int y]) (rest := [.int 0, .ref o]) ⟨hx, hb, hml, hown, hts⟩ hM (cwV 2 hts gL_consent_X4_consent rfl rfl rfl (by decide +kernel) ⟨Nat.le_of_ble_eq_true rfl, Nat.le_of_ble_eq_true rfl⟩) hK hX hW hAB hV rfl hl.1 (Nat.le_of_ble_eq_true rfl) dL_consent_5 ⟨Nat.zero_le _, Nat.zero_le _⟩ rfl (fun r_ τ_ H locs hp hW hq hS => ?_)
    obtain ⟨e1, e2⟩ := hpost _ _ hp
    have hP := rf_keep1 hP (fun z => hq o z hoA)
    refine lv_i2l hx hb dL_consent_8 rfl ?_
    refine hl_last hx hb hKL hP hoB hS dL_consent_9 (fun H1 locs g hg0 hP oq hS => ?_)
    have hW := hW.kept (fun q _ h2 => oq q (fun z => hoA (by rw [← z]; exact h2)))
    refine lv_goto (tgt := 17) hx hb dL_consent_10 (by decide) ?_
    refine lv_iconst (v := 0) hx hb dL_consent_17 (by decide) ?_
    refine W.widen (k := 1) (n := 6) (Nat.le_of_ble_eq_true rfl) (Nat.le_of_ble_eq_true rfl) ?_
    exact W.iret (v := 0) hx hb hr (fun U9 ht hW9 => ⟨⟨0, g, rfl, ⟨ec.symm, fun _ => by rw [hg0, e1]⟩, by show hs_W D d L _ A U9.heap ∧ va_P D vwCl _ U9.heap; rw [ht, e2]; exact ⟨hW, hP⟩⟩, hS.F ht⟩) hS.2.2 dL_consent_18
set_option maxHeartbeats 4000000 in
set_option maxRecDepth 100000 in
/-- the law: measure -/
theorem hL_measure (l : Launch) (D : va_G) (d : hs_Dm) (w : Nat) (L L2 : hs_Lo) (σ : hs_St) (A B : Nat → Prop) (o : Nat) (cL : ClassId) (f : Nat → Int64) (hwB : ¬ B w) (hAB : ∀ q, A q → B q) (hoB : B o) (hoA : ¬ A o) (hl0 : l.stackTraces = false) (P F R : Nat) (hok : hs_ok P F R σ) (x y v u : Int32) : hl_M l yL_measure wsL_measure D d w L L2 σ A B o cL f [.ref w, .int x, .int y, .int v, .int u, .ref o] (cl_measure P σ x y v u) := by
  refine va_MetW (cc := cL_measure) (maxL := 7) (ret := (some .int)) (hh := [(0, 14, 17, 20), (0, 14, 21, 13)]) (by decide) rfl ?_
  intro p e s m args below meth c s₁ B0 hml hv
  obtain ⟨rfl, hW, hK, hX, hV, hP, hKL, hN⟩ := hv
  have hx := B0.exec
  have hb := B0.bytes
  have hr := B0.returns
  have hts := atoms_spec (ws := wsL_measure) B0.pre
  have hown : s.vm.findClass RL = some m.cls := findClass_of_methodNamed B0.named
  have hlocks := B0.notSynchronized
  have htab := vx_table (x := yL_measure) B0 (hts (.codeWith yL_measure cL_measure 7 (some .int) [(0, 14, 17, 20), (0, 14, 21, 13)]) List.mem_cons_self)
  have hl := lv_entry ([.ref w, .int x, .int y, .int v, .int u, .ref o]) (n := 7) (Nat.le_of_ble_eq_true rfl)
  rw [lg_entry_eq]
  generalize (lg_sl ([.ref w, .int x, .int y, .int v, .int u, .ref o]) ++ List.replicate (7 - (lg_sl ([.ref w, .int x, .int y, .int v, .int u, .ref o])).length) Slot.unset).toArray = ls at hl ⊢
  have hl : lv_has ls 7 [(0, .ref w), (1, .int x), (2, .int y), (3, .int v), (4, .int u), (5, .ref o)] := hl
  refine lv_aload hx hb dL_measure_0 (lv_at hl 5 rfl) ?_
  refine lv_iconst (v := 0) hx hb dL_measure_2 (by decide) ?_
  refine lv_aload_n hx hb dL_measure_3 rfl (lv_at hl 0 rfl) ?_
  refine lv_iload_n hx hb dL_measure_4 rfl (lv_at hl 1 rfl) ?_
  refine lv_iload_n hx hb dL_measure_5 rfl (lv_at hl 2 rfl) ?_
  refine lv_iload_n hx hb dL_measure_6 rfl (lv_at hl 3 rfl) ?_
  refine lv_iload hx hb dL_measure_7 (lv_at hl 4 rfl) ?_
  rcases oX4_measure l D d L σ A w L2 (fun z => hwB (hAB w z)) hl0 P F R hok x y v u with ⟨ec, hT⟩ | ⟨ec, hT⟩ | ⟨ec, post_, hM, hpost⟩
  · rw [ec]
    refine hl_callT (As := [.int x, .int y, .int v, .int u]) (rest := [.int 0, .ref o]) (L2 := L2) ⟨hx, hb, hml, hown, hts⟩ hT wx_blind (fun U hU hW9 => ⟨⟨⟨by rw [hU]; exact hW, va_K.moved hW9.alike hK⟩, (hX.on hW9 hU va_S.rf).narrow hAB⟩, by rw [hU]; exact hV⟩) (cwV 4 hts gL_measure_X4_measure rfl rfl rfl (by decide +kernel) ⟨Nat.le_of_ble_eq_true rfl, Nat.le_of_ble_eq_true rfl⟩) hK hAB hV rfl hl.1 (Nat.le_of_ble_eq_true rfl) dL_measure_9 ⟨Nat.le_of_ble_eq_true rfl, Nat.le_of_ble_eq_true rfl⟩ rfl (fun ce q9 H locs hW hq hS hce hcv hcl => ?_)
    have hP := rf_keep1 hP (fun z => hq o z hoA)
    refine vx_catch (name := "java/lang/IndexOutOfBoundsException") hown [] ⟨0, 14, 17, 20⟩ [⟨0, 14, 21, 13⟩] (by rw [htab]; rfl) (fun z hz => nomatch hz) (by decide) (by decide) (hts (.classLink RL 20 "java/lang/IndexOutOfBoundsException") (by decide +kernel)) (va_Nw.use rfl hX.2.2.2.1.1) hce hcv hcl ?_
    refine lv_astore (lv' := [(6, .ref q9), (0, .ref w), (1, .int x), (2, .int y), (3, .int v), (4, .int u), (5, .ref o)]) hx hb dL_measure_17 hl (by decide) rfl (fun ls hl => ?_)
    refine lv_iconst (v := 1) hx hb dL_measure_19 (by decide) ?_
    exact W.iret (v := 1) hx hb hr (fun U9 ht hW9 => ⟨⟨1, f, rfl, ⟨rfl, fun z => absurd (show (1 : Int32) = 0 from z) (by decide)⟩, by show hs_W D d L _ A U9.heap ∧ va_P D vwCl _ U9.heap; rw [ht]; exact ⟨hW, hP⟩⟩, hS.F ht⟩) hS.2.2 dL_measure_20
  · rw [ec]
    refine hl_callT (As := [.int x, .int y, .int v, .int u]) (rest := [.int 0, .ref o]) (L2 := L2) ⟨hx, hb, hml, hown, hts⟩ hT wx_blind (fun U hU hW9 => ⟨⟨⟨by rw [hU]; exact hW, va_K.moved hW9.alike hK⟩, (hX.on hW9 hU va_S.rf).narrow hAB⟩, by rw [hU]; exact hV⟩) (cwV 4 hts gL_measure_X4_measure rfl rfl rfl (by decide +kernel) ⟨Nat.le_of_ble_eq_true rfl, Nat.le_of_ble_eq_true rfl⟩) hK hAB hV rfl hl.1 (Nat.le_of_ble_eq_true rfl) dL_measure_9 ⟨Nat.le_of_ble_eq_true rfl, Nat.le_of_ble_eq_true rfl⟩ rfl (fun ce q9 H locs hW hq hS hce hcv hcl => ?_)
    have hP := rf_keep1 hP (fun z => hq o z hoA)
    refine vx_catch (name := "java/lang/IllegalArgumentException") hown [⟨0, 14, 17, 20⟩] ⟨0, 14, 21, 13⟩ [] (by rw [htab]; rfl) (fun z hz => by
      rcases List.mem_cons.mp hz with rfl | hz
      · exact Or.inr ⟨by decide, "java/lang/IndexOutOfBoundsException", hts (.classLink RL 20 "java/lang/IndexOutOfBoundsException") (by decide +kernel), hN.1⟩
      · exact absurd hz List.not_mem_nil) (by decide) (by decide) (hts (.classLink RL 13 "java/lang/IllegalArgumentException") (by decide +kernel)) (va_Nw.use rfl hX.2.2.2.1.2.1) hce hcv hcl ?_
    refine lv_astore (lv' := [(6, .ref q9), (0, .ref w), (1, .int x), (2, .int y), (3, .int v), (4, .int u), (5, .ref o)]) hx hb dL_measure_21 hl (by decide) rfl (fun ls hl => ?_)
    refine lv_iconst (v := 2) hx hb dL_measure_23 (by decide) ?_
    exact W.iret (v := 2) hx hb hr (fun U9 ht hW9 => ⟨⟨2, f, rfl, ⟨rfl, fun z => absurd (show (2 : Int32) = 0 from z) (by decide)⟩, by show hs_W D d L _ A U9.heap ∧ va_P D vwCl _ U9.heap; rw [ht]; exact ⟨hW, hP⟩⟩, hS.F ht⟩) hS.2.2 dL_measure_24
  · refine hl_call (As := [.int x, .int y, .int v, .int u]) (rest := [.int 0, .ref o]) ⟨hx, hb, hml, hown, hts⟩ hM (cwV 4 hts gL_measure_X4_measure rfl rfl rfl (by decide +kernel) ⟨Nat.le_of_ble_eq_true rfl, Nat.le_of_ble_eq_true rfl⟩) hK hX hW hAB hV rfl hl.1 (Nat.le_of_ble_eq_true rfl) dL_measure_9 ⟨Nat.zero_le _, Nat.zero_le _⟩ rfl (fun r_ τ_ H locs hp hW hq hS => ?_)
    obtain ⟨e1, e2⟩ := hpost _ _ hp
    have hP := rf_keep1 hP (fun z => hq o z hoA)
    refine lv_i2l hx hb dL_measure_12 rfl ?_
    refine hl_last hx hb hKL hP hoB hS dL_measure_13 (fun H1 locs g hg0 hP oq hS => ?_)
    have hW := hW.kept (fun q _ h2 => oq q (fun z => hoA (by rw [← z]; exact h2)))
    refine lv_goto (tgt := 25) hx hb dL_measure_14 (by decide) ?_
    refine lv_iconst (v := 0) hx hb dL_measure_25 (by decide) ?_
    refine W.widen (k := 1) (n := 6) (Nat.le_of_ble_eq_true rfl) (Nat.le_of_ble_eq_true rfl) ?_
    exact W.iret (v := 0) hx hb hr (fun U9 ht hW9 => ⟨⟨0, g, rfl, ⟨ec.symm, fun _ => by rw [hg0, e1]⟩, by show hs_W D d L _ A U9.heap ∧ va_P D vwCl _ U9.heap; rw [ht, e2]; exact ⟨hW, hP⟩⟩, hS.F ht⟩) hS.2.2 dL_measure_26
set_option maxHeartbeats 4000000 in
set_option maxRecDepth 100000 in
/-- the law: pay -/
theorem hL_pay (l : Launch) (D : va_G) (d : hs_Dm) (w : Nat) (L L2 : hs_Lo) (σ : hs_St) (A B : Nat → Prop) (o : Nat) (cL : ClassId) (f : Nat → Int64) (hwB : ¬ B w) (hAB : ∀ q, A q → B q) (hoB : B o) (hoA : ¬ A o) (hl0 : l.stackTraces = false) (P F R : Nat) (hok : hs_ok P F R σ) (x : Int32) : hl_M l yL_pay wsL_pay D d w L L2 σ A B o cL f [.ref w, .int x, .ref o] (cl_pay P σ x) := by
  refine va_MetW (cc := cL_pay) (maxL := 4) (ret := (some .int)) (hh := [(0, 9, 12, 20)]) (by decide) rfl ?_
  intro p e s m args below meth c s₁ B0 hml hv
  obtain ⟨rfl, hW, hK, hX, hV, hP, hKL, hN⟩ := hv
  have hx := B0.exec
  have hb := B0.bytes
  have hr := B0.returns
  have hts := atoms_spec (ws := wsL_pay) B0.pre
  have hown : s.vm.findClass RL = some m.cls := findClass_of_methodNamed B0.named
  have hlocks := B0.notSynchronized
  have htab := vx_table (x := yL_pay) B0 (hts (.codeWith yL_pay cL_pay 4 (some .int) [(0, 9, 12, 20)]) List.mem_cons_self)
  have hl := lv_entry ([.ref w, .int x, .ref o]) (n := 4) (Nat.le_of_ble_eq_true rfl)
  rw [lg_entry_eq]
  generalize (lg_sl ([.ref w, .int x, .ref o]) ++ List.replicate (4 - (lg_sl ([.ref w, .int x, .ref o])).length) Slot.unset).toArray = ls at hl ⊢
  have hl : lv_has ls 4 [(0, .ref w), (1, .int x), (2, .ref o)] := hl
  refine lv_aload_n hx hb dL_pay_0 rfl (lv_at hl 2 rfl) ?_
  refine lv_iconst (v := 0) hx hb dL_pay_1 (by decide) ?_
  refine lv_aload_n hx hb dL_pay_2 rfl (lv_at hl 0 rfl) ?_
  refine lv_iload_n hx hb dL_pay_3 rfl (lv_at hl 1 rfl) ?_
  rcases oX4_pay l D d L σ A w L2 (fun z => hwB (hAB w z)) hl0 P F R hok x with ⟨ec, hT⟩ | ⟨ec, post_, hM, hpost⟩
  · rw [ec]
    refine hl_callT (As := [.int x]) (rest := [.int 0, .ref o]) (L2 := L2) ⟨hx, hb, hml, hown, hts⟩ hT wx_blind (fun U hU hW9 => ⟨⟨⟨by rw [hU]; exact hW, va_K.moved hW9.alike hK⟩, (hX.on hW9 hU va_S.rf).narrow hAB⟩, by rw [hU]; exact hV⟩) (cwV 1 hts gL_pay_X4_pay rfl rfl rfl (by decide +kernel) ⟨Nat.le_of_ble_eq_true rfl, Nat.le_of_ble_eq_true rfl⟩) hK hAB hV rfl hl.1 (Nat.le_of_ble_eq_true rfl) dL_pay_4 ⟨Nat.le_of_ble_eq_true rfl, Nat.le_of_ble_eq_true rfl⟩ rfl (fun ce q9 H locs hW hq hS hce hcv hcl => ?_)
    have hP := rf_keep1 hP (fun z => hq o z hoA)
    refine vx_catch (name := "java/lang/IndexOutOfBoundsException") hown [] ⟨0, 9, 12, 20⟩ [] (by rw [htab]; rfl) (fun z hz => nomatch hz) (by decide) (by decide) (hts (.classLink RL 20 "java/lang/IndexOutOfBoundsException") (by decide +kernel)) (va_Nw.use rfl hX.2.2.2.1.1) hce hcv hcl ?_
    refine lv_astore_n (lv' := [(3, .ref q9), (0, .ref w), (1, .int x), (2, .ref o)]) hx hb dL_pay_12 rfl hl (by decide) rfl (fun ls hl => ?_)
    refine lv_iconst (v := 1) hx hb dL_pay_13 (by decide) ?_
    exact W.iret (v := 1) hx hb hr (fun U9 ht hW9 => ⟨⟨1, f, rfl, ⟨rfl, fun z => absurd (show (1 : Int32) = 0 from z) (by decide)⟩, by show hs_W D d L _ A U9.heap ∧ va_P D vwCl _ U9.heap; rw [ht]; exact ⟨hW, hP⟩⟩, hS.F ht⟩) hS.2.2 dL_pay_14
  · refine hl_call (As := [.int x]) (rest := [.int 0, .ref o]) ⟨hx, hb, hml, hown, hts⟩ hM (cwV 1 hts gL_pay_X4_pay rfl rfl rfl (by decide +kernel) ⟨Nat.le_of_ble_eq_true rfl, Nat.le_of_ble_eq_true rfl⟩) hK hX hW hAB hV rfl hl.1 (Nat.le_of_ble_eq_true rfl) dL_pay_4 ⟨Nat.zero_le _, Nat.zero_le _⟩ rfl (fun r_ τ_ H locs hp hW hq hS => ?_)
    obtain ⟨e1, e2⟩ := hpost _ _ hp
    have hP := rf_keep1 hP (fun z => hq o z hoA)
    refine lv_i2l hx hb dL_pay_7 rfl ?_
    refine hl_last hx hb hKL hP hoB hS dL_pay_8 (fun H1 locs g hg0 hP oq hS => ?_)
    have hW := hW.kept (fun q _ h2 => oq q (fun z => hoA (by rw [← z]; exact h2)))
    refine lv_goto (tgt := 15) hx hb dL_pay_9 (by decide) ?_
    refine lv_iconst (v := 0) hx hb dL_pay_15 (by decide) ?_
    refine W.widen (k := 1) (n := 6) (Nat.le_of_ble_eq_true rfl) (Nat.le_of_ble_eq_true rfl) ?_
    exact W.iret (v := 0) hx hb hr (fun U9 ht hW9 => ⟨⟨0, g, rfl, ⟨ec.symm, fun _ => by rw [hg0, e1]⟩, by show hs_W D d L _ A U9.heap ∧ va_P D vwCl _ U9.heap; rw [ht, e2]; exact ⟨hW, hP⟩⟩, hS.F ht⟩) hS.2.2 dL_pay_16
set_option maxHeartbeats 4000000 in
set_option maxRecDepth 100000 in
/-- the law: figure -/
theorem hL_figure (l : Launch) (D : va_G) (d : hs_Dm) (w : Nat) (L L2 : hs_Lo) (σ : hs_St) (A B : Nat → Prop) (o : Nat) (cL : ClassId) (f : Nat → Int64) (hwB : ¬ B w) (hAB : ∀ q, A q → B q) (hoB : B o) (hoA : ¬ A o) (hl0 : l.stackTraces = false) (P F R : Nat) (hok : hs_ok P F R σ) (x : Int32) : hl_M l yL_figure wsL_figure D d w L L2 σ A B o cL f [.ref w, .int x, .ref o] (cl_figure P F σ x) := by
  refine va_MetW (cc := cL_figure) (maxL := 4) (ret := (some .int)) (hh := [(0, 9, 12, 20), (0, 9, 15, 15)]) (by decide) rfl ?_
  intro p e s m args below meth c s₁ B0 hml hv
  obtain ⟨rfl, hW, hK, hX, hV, hP, hKL, hN⟩ := hv
  have hx := B0.exec
  have hb := B0.bytes
  have hr := B0.returns
  have hts := atoms_spec (ws := wsL_figure) B0.pre
  have hown : s.vm.findClass RL = some m.cls := findClass_of_methodNamed B0.named
  have hlocks := B0.notSynchronized
  have htab := vx_table (x := yL_figure) B0 (hts (.codeWith yL_figure cL_figure 4 (some .int) [(0, 9, 12, 20), (0, 9, 15, 15)]) List.mem_cons_self)
  have hl := lv_entry ([.ref w, .int x, .ref o]) (n := 4) (Nat.le_of_ble_eq_true rfl)
  rw [lg_entry_eq]
  generalize (lg_sl ([.ref w, .int x, .ref o]) ++ List.replicate (4 - (lg_sl ([.ref w, .int x, .ref o])).length) Slot.unset).toArray = ls at hl ⊢
  have hl : lv_has ls 4 [(0, .ref w), (1, .int x), (2, .ref o)] := hl
  refine lv_aload_n hx hb dL_figure_0 rfl (lv_at hl 2 rfl) ?_
  refine lv_iconst (v := 0) hx hb dL_figure_1 (by decide) ?_
  refine lv_aload_n hx hb dL_figure_2 rfl (lv_at hl 0 rfl) ?_
  refine lv_iload_n hx hb dL_figure_3 rfl (lv_at hl 1 rfl) ?_
  rcases oX4_figure l D d L σ A w L2 (fun z => hwB (hAB w z)) hl0 P F R hok x with ⟨ec, hT⟩ | ⟨ec, hT⟩ | ⟨ec, post_, hM, hpost⟩
  · rw [ec]
    refine hl_callT (As := [.int x]) (rest := [.int 0, .ref o]) (L2 := L2) ⟨hx, hb, hml, hown, hts⟩ hT wx_blind (fun U hU hW9 => ⟨⟨⟨by rw [hU]; exact hW, va_K.moved hW9.alike hK⟩, (hX.on hW9 hU va_S.rf).narrow hAB⟩, by rw [hU]; exact hV⟩) (cwV 1 hts gL_figure_X4_figure rfl rfl rfl (by decide +kernel) ⟨Nat.le_of_ble_eq_true rfl, Nat.le_of_ble_eq_true rfl⟩) hK hAB hV rfl hl.1 (Nat.le_of_ble_eq_true rfl) dL_figure_4 ⟨Nat.le_of_ble_eq_true rfl, Nat.le_of_ble_eq_true rfl⟩ rfl (fun ce q9 H locs hW hq hS hce hcv hcl => ?_)
    have hP := rf_keep1 hP (fun z => hq o z hoA)
    refine vx_catch (name := "java/lang/IndexOutOfBoundsException") hown [] ⟨0, 9, 12, 20⟩ [⟨0, 9, 15, 15⟩] (by rw [htab]; rfl) (fun z hz => nomatch hz) (by decide) (by decide) (hts (.classLink RL 20 "java/lang/IndexOutOfBoundsException") (by decide +kernel)) (va_Nw.use rfl hX.2.2.2.1.1) hce hcv hcl ?_
    refine lv_astore_n (lv' := [(3, .ref q9), (0, .ref w), (1, .int x), (2, .ref o)]) hx hb dL_figure_12 rfl hl (by decide) rfl (fun ls hl => ?_)
    refine lv_iconst (v := 1) hx hb dL_figure_13 (by decide) ?_
    exact W.iret (v := 1) hx hb hr (fun U9 ht hW9 => ⟨⟨1, f, rfl, ⟨rfl, fun z => absurd (show (1 : Int32) = 0 from z) (by decide)⟩, by show hs_W D d L _ A U9.heap ∧ va_P D vwCl _ U9.heap; rw [ht]; exact ⟨hW, hP⟩⟩, hS.F ht⟩) hS.2.2 dL_figure_14
  · rw [ec]
    refine hl_callT (As := [.int x]) (rest := [.int 0, .ref o]) (L2 := L2) ⟨hx, hb, hml, hown, hts⟩ hT wx_blind (fun U hU hW9 => ⟨⟨⟨by rw [hU]; exact hW, va_K.moved hW9.alike hK⟩, (hX.on hW9 hU va_S.rf).narrow hAB⟩, by rw [hU]; exact hV⟩) (cwV 1 hts gL_figure_X4_figure rfl rfl rfl (by decide +kernel) ⟨Nat.le_of_ble_eq_true rfl, Nat.le_of_ble_eq_true rfl⟩) hK hAB hV rfl hl.1 (Nat.le_of_ble_eq_true rfl) dL_figure_4 ⟨Nat.le_of_ble_eq_true rfl, Nat.le_of_ble_eq_true rfl⟩ rfl (fun ce q9 H locs hW hq hS hce hcv hcl => ?_)
    have hP := rf_keep1 hP (fun z => hq o z hoA)
    refine vx_catch (name := "java/lang/IllegalStateException") hown [⟨0, 9, 12, 20⟩] ⟨0, 9, 15, 15⟩ [] (by rw [htab]; rfl) (fun z hz => by
      rcases List.mem_cons.mp hz with rfl | hz
      · exact Or.inr ⟨by decide, "java/lang/IndexOutOfBoundsException", hts (.classLink RL 20 "java/lang/IndexOutOfBoundsException") (by decide +kernel), hN.2.1⟩
      · exact absurd hz List.not_mem_nil) (by decide) (by decide) (hts (.classLink RL 15 "java/lang/IllegalStateException") (by decide +kernel)) (va_Nw.use rfl hX.2.2.2.1.2.2) hce hcv hcl ?_
    refine lv_astore_n (lv' := [(3, .ref q9), (0, .ref w), (1, .int x), (2, .ref o)]) hx hb dL_figure_15 rfl hl (by decide) rfl (fun ls hl => ?_)
    refine lv_iconst (v := 2) hx hb dL_figure_16 (by decide) ?_
    exact W.iret (v := 2) hx hb hr (fun U9 ht hW9 => ⟨⟨2, f, rfl, ⟨rfl, fun z => absurd (show (2 : Int32) = 0 from z) (by decide)⟩, by show hs_W D d L _ A U9.heap ∧ va_P D vwCl _ U9.heap; rw [ht]; exact ⟨hW, hP⟩⟩, hS.F ht⟩) hS.2.2 dL_figure_17
  · refine hl_call (As := [.int x]) (rest := [.int 0, .ref o]) ⟨hx, hb, hml, hown, hts⟩ hM (cwV 1 hts gL_figure_X4_figure rfl rfl rfl (by decide +kernel) ⟨Nat.le_of_ble_eq_true rfl, Nat.le_of_ble_eq_true rfl⟩) hK hX hW hAB hV rfl hl.1 (Nat.le_of_ble_eq_true rfl) dL_figure_4 ⟨Nat.zero_le _, Nat.zero_le _⟩ rfl (fun r_ τ_ H locs hp hW hq hS => ?_)
    obtain ⟨e1, e2⟩ := hpost _ _ hp
    have hP := rf_keep1 hP (fun z => hq o z hoA)
    refine lv_i2l hx hb dL_figure_7 rfl ?_
    refine hl_last hx hb hKL hP hoB hS dL_figure_8 (fun H1 locs g hg0 hP oq hS => ?_)
    have hW := hW.kept (fun q _ h2 => oq q (fun z => hoA (by rw [← z]; exact h2)))
    refine lv_goto (tgt := 18) hx hb dL_figure_9 (by decide) ?_
    refine lv_iconst (v := 0) hx hb dL_figure_18 (by decide) ?_
    refine W.widen (k := 1) (n := 6) (Nat.le_of_ble_eq_true rfl) (Nat.le_of_ble_eq_true rfl) ?_
    exact W.iret (v := 0) hx hb hr (fun U9 ht hW9 => ⟨⟨0, g, rfl, ⟨ec.symm, fun _ => by rw [hg0, e1]⟩, by show hs_W D d L _ A U9.heap ∧ va_P D vwCl _ U9.heap; rw [ht, e2]; exact ⟨hW, hP⟩⟩, hS.F ht⟩) hS.2.2 dL_figure_19
set_option maxHeartbeats 4000000 in
set_option maxRecDepth 100000 in
/-- the law: work -/
theorem hL_work (l : Launch) (D : va_G) (d : hs_Dm) (w : Nat) (L L2 : hs_Lo) (σ : hs_St) (A B : Nat → Prop) (o : Nat) (cL : ClassId) (f : Nat → Int64) (hwB : ¬ B w) (hAB : ∀ q, A q → B q) (hoB : B o) (hoA : ¬ A o) (hl0 : l.stackTraces = false) (P F R : Nat) (hok : hs_ok P F R σ) (x y : Int32) : hl_M l yL_work wsL_work D d w L L2 σ A B o cL f [.ref w, .int x, .int y, .ref o] (cl_work F σ x y) := by
  refine va_MetW (cc := cL_work) (maxL := 5) (ret := (some .int)) (hh := [(0, 10, 13, 20), (0, 10, 17, 13), (0, 10, 21, 15)]) (by decide) rfl ?_
  intro p e s m args below meth c s₁ B0 hml hv
  obtain ⟨rfl, hW, hK, hX, hV, hP, hKL, hN⟩ := hv
  have hx := B0.exec
  have hb := B0.bytes
  have hr := B0.returns
  have hts := atoms_spec (ws := wsL_work) B0.pre
  have hown : s.vm.findClass RL = some m.cls := findClass_of_methodNamed B0.named
  have hlocks := B0.notSynchronized
  have htab := vx_table (x := yL_work) B0 (hts (.codeWith yL_work cL_work 5 (some .int) [(0, 10, 13, 20), (0, 10, 17, 13), (0, 10, 21, 15)]) List.mem_cons_self)
  have hl := lv_entry ([.ref w, .int x, .int y, .ref o]) (n := 5) (Nat.le_of_ble_eq_true rfl)
  rw [lg_entry_eq]
  generalize (lg_sl ([.ref w, .int x, .int y, .ref o]) ++ List.replicate (5 - (lg_sl ([.ref w, .int x, .int y, .ref o])).length) Slot.unset).toArray = ls at hl ⊢
  have hl : lv_has ls 5 [(0, .ref w), (1, .int x), (2, .int y), (3, .ref o)] := hl
  refine lv_aload_n hx hb dL_work_0 rfl (lv_at hl 3 rfl) ?_
  refine lv_iconst (v := 0) hx hb dL_work_1 (by decide) ?_
  refine lv_aload_n hx hb dL_work_2 rfl (lv_at hl 0 rfl) ?_
  refine lv_iload_n hx hb dL_work_3 rfl (lv_at hl 1 rfl) ?_
  refine lv_iload_n hx hb dL_work_4 rfl (lv_at hl 2 rfl) ?_
  rcases oX4_work l D d L σ A w L2 (fun z => hwB (hAB w z)) hl0 P F R hok x y with ⟨ec, hT⟩ | ⟨ec, hT⟩ | ⟨ec, hT⟩ | ⟨ec, post_, hM, hpost⟩
  · rw [ec]
    refine hl_callT (As := [.int x, .int y]) (rest := [.int 0, .ref o]) (L2 := L2) ⟨hx, hb, hml, hown, hts⟩ hT wx_blind (fun U hU hW9 => ⟨⟨⟨by rw [hU]; exact hW, va_K.moved hW9.alike hK⟩, (hX.on hW9 hU va_S.rf).narrow hAB⟩, by rw [hU]; exact hV⟩) (cwV 2 hts gL_work_X4_work rfl rfl rfl (by decide +kernel) ⟨Nat.le_of_ble_eq_true rfl, Nat.le_of_ble_eq_true rfl⟩) hK hAB hV rfl hl.1 (Nat.le_of_ble_eq_true rfl) dL_work_5 ⟨Nat.le_of_ble_eq_true rfl, Nat.le_of_ble_eq_true rfl⟩ rfl (fun ce q9 H locs hW hq hS hce hcv hcl => ?_)
    have hP := rf_keep1 hP (fun z => hq o z hoA)
    refine vx_catch (name := "java/lang/IndexOutOfBoundsException") hown [] ⟨0, 10, 13, 20⟩ [⟨0, 10, 17, 13⟩, ⟨0, 10, 21, 15⟩] (by rw [htab]; rfl) (fun z hz => nomatch hz) (by decide) (by decide) (hts (.classLink RL 20 "java/lang/IndexOutOfBoundsException") (by decide +kernel)) (va_Nw.use rfl hX.2.2.2.1.1) hce hcv hcl ?_
    refine lv_astore (lv' := [(4, .ref q9), (0, .ref w), (1, .int x), (2, .int y), (3, .ref o)]) hx hb dL_work_13 hl (by decide) rfl (fun ls hl => ?_)
    refine lv_iconst (v := 1) hx hb dL_work_15 (by decide) ?_
    exact W.iret (v := 1) hx hb hr (fun U9 ht hW9 => ⟨⟨1, f, rfl, ⟨rfl, fun z => absurd (show (1 : Int32) = 0 from z) (by decide)⟩, by show hs_W D d L _ A U9.heap ∧ va_P D vwCl _ U9.heap; rw [ht]; exact ⟨hW, hP⟩⟩, hS.F ht⟩) hS.2.2 dL_work_16
  · rw [ec]
    refine hl_callT (As := [.int x, .int y]) (rest := [.int 0, .ref o]) (L2 := L2) ⟨hx, hb, hml, hown, hts⟩ hT wx_blind (fun U hU hW9 => ⟨⟨⟨by rw [hU]; exact hW, va_K.moved hW9.alike hK⟩, (hX.on hW9 hU va_S.rf).narrow hAB⟩, by rw [hU]; exact hV⟩) (cwV 2 hts gL_work_X4_work rfl rfl rfl (by decide +kernel) ⟨Nat.le_of_ble_eq_true rfl, Nat.le_of_ble_eq_true rfl⟩) hK hAB hV rfl hl.1 (Nat.le_of_ble_eq_true rfl) dL_work_5 ⟨Nat.le_of_ble_eq_true rfl, Nat.le_of_ble_eq_true rfl⟩ rfl (fun ce q9 H locs hW hq hS hce hcv hcl => ?_)
    have hP := rf_keep1 hP (fun z => hq o z hoA)
    refine vx_catch (name := "java/lang/IllegalArgumentException") hown [⟨0, 10, 13, 20⟩] ⟨0, 10, 17, 13⟩ [⟨0, 10, 21, 15⟩] (by rw [htab]; rfl) (fun z hz => by
      rcases List.mem_cons.mp hz with rfl | hz
      · exact Or.inr ⟨by decide, "java/lang/IndexOutOfBoundsException", hts (.classLink RL 20 "java/lang/IndexOutOfBoundsException") (by decide +kernel), hN.1⟩
      · exact absurd hz List.not_mem_nil) (by decide) (by decide) (hts (.classLink RL 13 "java/lang/IllegalArgumentException") (by decide +kernel)) (va_Nw.use rfl hX.2.2.2.1.2.1) hce hcv hcl ?_
    refine lv_astore (lv' := [(4, .ref q9), (0, .ref w), (1, .int x), (2, .int y), (3, .ref o)]) hx hb dL_work_17 hl (by decide) rfl (fun ls hl => ?_)
    refine lv_iconst (v := 2) hx hb dL_work_19 (by decide) ?_
    exact W.iret (v := 2) hx hb hr (fun U9 ht hW9 => ⟨⟨2, f, rfl, ⟨rfl, fun z => absurd (show (2 : Int32) = 0 from z) (by decide)⟩, by show hs_W D d L _ A U9.heap ∧ va_P D vwCl _ U9.heap; rw [ht]; exact ⟨hW, hP⟩⟩, hS.F ht⟩) hS.2.2 dL_work_20
  · rw [ec]
    refine hl_callT (As := [.int x, .int y]) (rest := [.int 0, .ref o]) (L2 := L2) ⟨hx, hb, hml, hown, hts⟩ hT wx_blind (fun U hU hW9 => ⟨⟨⟨by rw [hU]; exact hW, va_K.moved hW9.alike hK⟩, (hX.on hW9 hU va_S.rf).narrow hAB⟩, by rw [hU]; exact hV⟩) (cwV 2 hts gL_work_X4_work rfl rfl rfl (by decide +kernel) ⟨Nat.le_of_ble_eq_true rfl, Nat.le_of_ble_eq_true rfl⟩) hK hAB hV rfl hl.1 (Nat.le_of_ble_eq_true rfl) dL_work_5 ⟨Nat.le_of_ble_eq_true rfl, Nat.le_of_ble_eq_true rfl⟩ rfl (fun ce q9 H locs hW hq hS hce hcv hcl => ?_)
    have hP := rf_keep1 hP (fun z => hq o z hoA)
    refine vx_catch (name := "java/lang/IllegalStateException") hown [⟨0, 10, 13, 20⟩, ⟨0, 10, 17, 13⟩] ⟨0, 10, 21, 15⟩ [] (by rw [htab]; rfl) (fun z hz => by
      rcases List.mem_cons.mp hz with rfl | hz
      · exact Or.inr ⟨by decide, "java/lang/IndexOutOfBoundsException", hts (.classLink RL 20 "java/lang/IndexOutOfBoundsException") (by decide +kernel), hN.2.1⟩
      rcases List.mem_cons.mp hz with rfl | hz
      · exact Or.inr ⟨by decide, "java/lang/IllegalArgumentException", hts (.classLink RL 13 "java/lang/IllegalArgumentException") (by decide +kernel), hN.2.2.1⟩
      · exact absurd hz List.not_mem_nil) (by decide) (by decide) (hts (.classLink RL 15 "java/lang/IllegalStateException") (by decide +kernel)) (va_Nw.use rfl hX.2.2.2.1.2.2) hce hcv hcl ?_
    refine lv_astore (lv' := [(4, .ref q9), (0, .ref w), (1, .int x), (2, .int y), (3, .ref o)]) hx hb dL_work_21 hl (by decide) rfl (fun ls hl => ?_)
    refine lv_iconst (v := 3) hx hb dL_work_23 (by decide) ?_
    exact W.iret (v := 3) hx hb hr (fun U9 ht hW9 => ⟨⟨3, f, rfl, ⟨rfl, fun z => absurd (show (3 : Int32) = 0 from z) (by decide)⟩, by show hs_W D d L _ A U9.heap ∧ va_P D vwCl _ U9.heap; rw [ht]; exact ⟨hW, hP⟩⟩, hS.F ht⟩) hS.2.2 dL_work_24
  · refine hl_call (As := [.int x, .int y]) (rest := [.int 0, .ref o]) ⟨hx, hb, hml, hown, hts⟩ hM (cwV 2 hts gL_work_X4_work rfl rfl rfl (by decide +kernel) ⟨Nat.le_of_ble_eq_true rfl, Nat.le_of_ble_eq_true rfl⟩) hK hX hW hAB hV rfl hl.1 (Nat.le_of_ble_eq_true rfl) dL_work_5 ⟨Nat.zero_le _, Nat.zero_le _⟩ rfl (fun r_ τ_ H locs hp hW hq hS => ?_)
    obtain ⟨e1, e2⟩ := hpost _ _ hp
    have hP := rf_keep1 hP (fun z => hq o z hoA)
    refine lv_i2l hx hb dL_work_8 rfl ?_
    refine hl_last hx hb hKL hP hoB hS dL_work_9 (fun H1 locs g hg0 hP oq hS => ?_)
    have hW := hW.kept (fun q _ h2 => oq q (fun z => hoA (by rw [← z]; exact h2)))
    refine lv_goto (tgt := 25) hx hb dL_work_10 (by decide) ?_
    refine lv_iconst (v := 0) hx hb dL_work_25 (by decide) ?_
    refine W.widen (k := 1) (n := 6) (Nat.le_of_ble_eq_true rfl) (Nat.le_of_ble_eq_true rfl) ?_
    exact W.iret (v := 0) hx hb hr (fun U9 ht hW9 => ⟨⟨0, g, rfl, ⟨ec.symm, fun _ => by rw [hg0, e1]⟩, by show hs_W D d L _ A U9.heap ∧ va_P D vwCl _ U9.heap; rw [ht, e2]; exact ⟨hW, hP⟩⟩, hS.F ht⟩) hS.2.2 dL_work_26
set_option maxHeartbeats 4000000 in
set_option maxRecDepth 100000 in
/-- the law: swap -/
theorem hL_swap (l : Launch) (D : va_G) (d : hs_Dm) (w : Nat) (L L2 : hs_Lo) (σ : hs_St) (A B : Nat → Prop) (o : Nat) (cL : ClassId) (f : Nat → Int64) (hwB : ¬ B w) (hAB : ∀ q, A q → B q) (hoB : B o) (hoA : ¬ A o) (hl0 : l.stackTraces = false) (P F R : Nat) (hok : hs_ok P F R σ) (x y : Int32) : hl_M l yL_swap wsL_swap D d w L L2 σ A B o cL f [.ref w, .int x, .int y, .ref o] (cl_swap F σ x y) := by
  refine va_MetW (cc := cL_swap) (maxL := 5) (ret := (some .int)) (hh := [(0, 10, 13, 20), (0, 10, 17, 13), (0, 10, 21, 15)]) (by decide) rfl ?_
  intro p e s m args below meth c s₁ B0 hml hv
  obtain ⟨rfl, hW, hK, hX, hV, hP, hKL, hN⟩ := hv
  have hx := B0.exec
  have hb := B0.bytes
  have hr := B0.returns
  have hts := atoms_spec (ws := wsL_swap) B0.pre
  have hown : s.vm.findClass RL = some m.cls := findClass_of_methodNamed B0.named
  have hlocks := B0.notSynchronized
  have htab := vx_table (x := yL_swap) B0 (hts (.codeWith yL_swap cL_swap 5 (some .int) [(0, 10, 13, 20), (0, 10, 17, 13), (0, 10, 21, 15)]) List.mem_cons_self)
  have hl := lv_entry ([.ref w, .int x, .int y, .ref o]) (n := 5) (Nat.le_of_ble_eq_true rfl)
  rw [lg_entry_eq]
  generalize (lg_sl ([.ref w, .int x, .int y, .ref o]) ++ List.replicate (5 - (lg_sl ([.ref w, .int x, .int y, .ref o])).length) Slot.unset).toArray = ls at hl ⊢
  have hl : lv_has ls 5 [(0, .ref w), (1, .int x), (2, .int y), (3, .ref o)] := hl
  refine lv_aload_n hx hb dL_swap_0 rfl (lv_at hl 3 rfl) ?_
  refine lv_iconst (v := 0) hx hb dL_swap_1 (by decide) ?_
  refine lv_aload_n hx hb dL_swap_2 rfl (lv_at hl 0 rfl) ?_
  refine lv_iload_n hx hb dL_swap_3 rfl (lv_at hl 1 rfl) ?_
  refine lv_iload_n hx hb dL_swap_4 rfl (lv_at hl 2 rfl) ?_
  rcases oX4_swap l D d L σ A w L2 (fun z => hwB (hAB w z)) hl0 P F R hok x y with ⟨ec, hT⟩ | ⟨ec, hT⟩ | ⟨ec, hT⟩ | ⟨ec, post_, hM, hpost⟩
  · rw [ec]
    refine hl_callT (As := [.int x, .int y]) (rest := [.int 0, .ref o]) (L2 := L2) ⟨hx, hb, hml, hown, hts⟩ hT wx_blind (fun U hU hW9 => ⟨⟨⟨by rw [hU]; exact hW, va_K.moved hW9.alike hK⟩, (hX.on hW9 hU va_S.rf).narrow hAB⟩, by rw [hU]; exact hV⟩) (cwV 2 hts gL_swap_X4_swap rfl rfl rfl (by decide +kernel) ⟨Nat.le_of_ble_eq_true rfl, Nat.le_of_ble_eq_true rfl⟩) hK hAB hV rfl hl.1 (Nat.le_of_ble_eq_true rfl) dL_swap_5 ⟨Nat.le_of_ble_eq_true rfl, Nat.le_of_ble_eq_true rfl⟩ rfl (fun ce q9 H locs hW hq hS hce hcv hcl => ?_)
    have hP := rf_keep1 hP (fun z => hq o z hoA)
    refine vx_catch (name := "java/lang/IndexOutOfBoundsException") hown [] ⟨0, 10, 13, 20⟩ [⟨0, 10, 17, 13⟩, ⟨0, 10, 21, 15⟩] (by rw [htab]; rfl) (fun z hz => nomatch hz) (by decide) (by decide) (hts (.classLink RL 20 "java/lang/IndexOutOfBoundsException") (by decide +kernel)) (va_Nw.use rfl hX.2.2.2.1.1) hce hcv hcl ?_
    refine lv_astore (lv' := [(4, .ref q9), (0, .ref w), (1, .int x), (2, .int y), (3, .ref o)]) hx hb dL_swap_13 hl (by decide) rfl (fun ls hl => ?_)
    refine lv_iconst (v := 1) hx hb dL_swap_15 (by decide) ?_
    exact W.iret (v := 1) hx hb hr (fun U9 ht hW9 => ⟨⟨1, f, rfl, ⟨rfl, fun z => absurd (show (1 : Int32) = 0 from z) (by decide)⟩, by show hs_W D d L _ A U9.heap ∧ va_P D vwCl _ U9.heap; rw [ht]; exact ⟨hW, hP⟩⟩, hS.F ht⟩) hS.2.2 dL_swap_16
  · rw [ec]
    refine hl_callT (As := [.int x, .int y]) (rest := [.int 0, .ref o]) (L2 := L2) ⟨hx, hb, hml, hown, hts⟩ hT wx_blinds (fun U hU hW9 => ⟨⟨⟨⟨by rw [hU]; exact hW, va_K.moved hW9.alike hK⟩, (hX.on hW9 hU va_S.rf).narrow hAB⟩, by rw [hU]; exact hV⟩, hN.2.2.2.elim fun sa k => ⟨sa, vk_R.warm hW9 k⟩⟩) (cwV 2 hts gL_swap_X4_swap rfl rfl rfl (by decide +kernel) ⟨Nat.le_of_ble_eq_true rfl, Nat.le_of_ble_eq_true rfl⟩) hK hAB hV rfl hl.1 (Nat.le_of_ble_eq_true rfl) dL_swap_5 ⟨Nat.le_of_ble_eq_true rfl, Nat.le_of_ble_eq_true rfl⟩ rfl (fun ce q9 H locs hW hq hS hce hcv hcl => ?_)
    have hP := rf_keep1 hP (fun z => hq o z hoA)
    refine vx_catch (name := "java/lang/IllegalArgumentException") hown [⟨0, 10, 13, 20⟩] ⟨0, 10, 17, 13⟩ [⟨0, 10, 21, 15⟩] (by rw [htab]; rfl) (fun z hz => by
      rcases List.mem_cons.mp hz with rfl | hz
      · exact Or.inr ⟨by decide, "java/lang/IndexOutOfBoundsException", hts (.classLink RL 20 "java/lang/IndexOutOfBoundsException") (by decide +kernel), hN.1⟩
      · exact absurd hz List.not_mem_nil) (by decide) (by decide) (hts (.classLink RL 13 "java/lang/IllegalArgumentException") (by decide +kernel)) (va_Nw.use rfl hX.2.2.2.1.2.1) hce hcv hcl ?_
    refine lv_astore (lv' := [(4, .ref q9), (0, .ref w), (1, .int x), (2, .int y), (3, .ref o)]) hx hb dL_swap_17 hl (by decide) rfl (fun ls hl => ?_)
    refine lv_iconst (v := 2) hx hb dL_swap_19 (by decide) ?_
    exact W.iret (v := 2) hx hb hr (fun U9 ht hW9 => ⟨⟨2, f, rfl, ⟨rfl, fun z => absurd (show (2 : Int32) = 0 from z) (by decide)⟩, by show hs_W D d L _ A U9.heap ∧ va_P D vwCl _ U9.heap; rw [ht]; exact ⟨hW, hP⟩⟩, hS.F ht⟩) hS.2.2 dL_swap_20
  · rw [ec]
    refine hl_callT (As := [.int x, .int y]) (rest := [.int 0, .ref o]) (L2 := L2) ⟨hx, hb, hml, hown, hts⟩ hT wx_blind (fun U hU hW9 => ⟨⟨⟨by rw [hU]; exact hW, va_K.moved hW9.alike hK⟩, (hX.on hW9 hU va_S.rf).narrow hAB⟩, by rw [hU]; exact hV⟩) (cwV 2 hts gL_swap_X4_swap rfl rfl rfl (by decide +kernel) ⟨Nat.le_of_ble_eq_true rfl, Nat.le_of_ble_eq_true rfl⟩) hK hAB hV rfl hl.1 (Nat.le_of_ble_eq_true rfl) dL_swap_5 ⟨Nat.le_of_ble_eq_true rfl, Nat.le_of_ble_eq_true rfl⟩ rfl (fun ce q9 H locs hW hq hS hce hcv hcl => ?_)
    have hP := rf_keep1 hP (fun z => hq o z hoA)
    refine vx_catch (name := "java/lang/IllegalStateException") hown [⟨0, 10, 13, 20⟩, ⟨0, 10, 17, 13⟩] ⟨0, 10, 21, 15⟩ [] (by rw [htab]; rfl) (fun z hz => by
      rcases List.mem_cons.mp hz with rfl | hz
      · exact Or.inr ⟨by decide, "java/lang/IndexOutOfBoundsException", hts (.classLink RL 20 "java/lang/IndexOutOfBoundsException") (by decide +kernel), hN.2.1⟩
      rcases List.mem_cons.mp hz with rfl | hz
      · exact Or.inr ⟨by decide, "java/lang/IllegalArgumentException", hts (.classLink RL 13 "java/lang/IllegalArgumentException") (by decide +kernel), hN.2.2.1⟩
      · exact absurd hz List.not_mem_nil) (by decide) (by decide) (hts (.classLink RL 15 "java/lang/IllegalStateException") (by decide +kernel)) (va_Nw.use rfl hX.2.2.2.1.2.2) hce hcv hcl ?_
    refine lv_astore (lv' := [(4, .ref q9), (0, .ref w), (1, .int x), (2, .int y), (3, .ref o)]) hx hb dL_swap_21 hl (by decide) rfl (fun ls hl => ?_)
    refine lv_iconst (v := 3) hx hb dL_swap_23 (by decide) ?_
    exact W.iret (v := 3) hx hb hr (fun U9 ht hW9 => ⟨⟨3, f, rfl, ⟨rfl, fun z => absurd (show (3 : Int32) = 0 from z) (by decide)⟩, by show hs_W D d L _ A U9.heap ∧ va_P D vwCl _ U9.heap; rw [ht]; exact ⟨hW, hP⟩⟩, hS.F ht⟩) hS.2.2 dL_swap_24
  · refine hl_call (As := [.int x, .int y]) (rest := [.int 0, .ref o]) ⟨hx, hb, hml, hown, hts⟩ hM (cwV 2 hts gL_swap_X4_swap rfl rfl rfl (by decide +kernel) ⟨Nat.le_of_ble_eq_true rfl, Nat.le_of_ble_eq_true rfl⟩) hK hX hW hAB hV rfl hl.1 (Nat.le_of_ble_eq_true rfl) dL_swap_5 ⟨Nat.zero_le _, Nat.zero_le _⟩ rfl (fun r_ τ_ H locs hp hW hq hS => ?_)
    obtain ⟨e1, e2⟩ := hpost _ _ hp
    have hP := rf_keep1 hP (fun z => hq o z hoA)
    refine lv_i2l hx hb dL_swap_8 rfl ?_
    refine hl_last hx hb hKL hP hoB hS dL_swap_9 (fun H1 locs g hg0 hP oq hS => ?_)
    have hW := hW.kept (fun q _ h2 => oq q (fun z => hoA (by rw [← z]; exact h2)))
    refine lv_goto (tgt := 25) hx hb dL_swap_10 (by decide) ?_
    refine lv_iconst (v := 0) hx hb dL_swap_25 (by decide) ?_
    refine W.widen (k := 1) (n := 6) (Nat.le_of_ble_eq_true rfl) (Nat.le_of_ble_eq_true rfl) ?_
    exact W.iret (v := 0) hx hb hr (fun U9 ht hW9 => ⟨⟨0, g, rfl, ⟨ec.symm, fun _ => by rw [hg0, e1]⟩, by show hs_W D d L _ A U9.heap ∧ va_P D vwCl _ U9.heap; rw [ht, e2]; exact ⟨hW, hP⟩⟩, hS.F ht⟩) hS.2.2 dL_swap_26
set_option maxHeartbeats 4000000 in
set_option maxRecDepth 100000 in
/-- the law: mend -/
theorem hL_mend (l : Launch) (D : va_G) (d : hs_Dm) (w : Nat) (L L2 : hs_Lo) (σ : hs_St) (A B : Nat → Prop) (o : Nat) (cL : ClassId) (f : Nat → Int64) (hwB : ¬ B w) (hAB : ∀ q, A q → B q) (hoB : B o) (hoA : ¬ A o) (hl0 : l.stackTraces = false) (P F R : Nat) (hok : hs_ok P F R σ) (x : Int32) : hl_M l yL_mend wsL_mend D d w L L2 σ A B o cL f [.ref w, .int x, .ref o] (cl_mend F σ x) := by
  refine va_MetW (cc := cL_mend) (maxL := 4) (ret := (some .int)) (hh := [(0, 9, 12, 20), (0, 9, 15, 15)]) (by decide) rfl ?_
  intro p e s m args below meth c s₁ B0 hml hv
  obtain ⟨rfl, hW, hK, hX, hV, hP, hKL, hN⟩ := hv
  have hx := B0.exec
  have hb := B0.bytes
  have hr := B0.returns
  have hts := atoms_spec (ws := wsL_mend) B0.pre
  have hown : s.vm.findClass RL = some m.cls := findClass_of_methodNamed B0.named
  have hlocks := B0.notSynchronized
  have htab := vx_table (x := yL_mend) B0 (hts (.codeWith yL_mend cL_mend 4 (some .int) [(0, 9, 12, 20), (0, 9, 15, 15)]) List.mem_cons_self)
  have hl := lv_entry ([.ref w, .int x, .ref o]) (n := 4) (Nat.le_of_ble_eq_true rfl)
  rw [lg_entry_eq]
  generalize (lg_sl ([.ref w, .int x, .ref o]) ++ List.replicate (4 - (lg_sl ([.ref w, .int x, .ref o])).length) Slot.unset).toArray = ls at hl ⊢
  have hl : lv_has ls 4 [(0, .ref w), (1, .int x), (2, .ref o)] := hl
  refine lv_aload_n hx hb dL_mend_0 rfl (lv_at hl 2 rfl) ?_
  refine lv_iconst (v := 0) hx hb dL_mend_1 (by decide) ?_
  refine lv_aload_n hx hb dL_mend_2 rfl (lv_at hl 0 rfl) ?_
  refine lv_iload_n hx hb dL_mend_3 rfl (lv_at hl 1 rfl) ?_
  rcases oX4_mend l D d L σ A w L2 (fun z => hwB (hAB w z)) hl0 P F R hok x with ⟨ec, hT⟩ | ⟨ec, hT⟩ | ⟨ec, post_, hM, hpost⟩
  · rw [ec]
    refine hl_callT (As := [.int x]) (rest := [.int 0, .ref o]) (L2 := L2) ⟨hx, hb, hml, hown, hts⟩ hT wx_blind (fun U hU hW9 => ⟨⟨⟨by rw [hU]; exact hW, va_K.moved hW9.alike hK⟩, (hX.on hW9 hU va_S.rf).narrow hAB⟩, by rw [hU]; exact hV⟩) (cwV 1 hts gL_mend_X4_mend rfl rfl rfl (by decide +kernel) ⟨Nat.le_of_ble_eq_true rfl, Nat.le_of_ble_eq_true rfl⟩) hK hAB hV rfl hl.1 (Nat.le_of_ble_eq_true rfl) dL_mend_4 ⟨Nat.le_of_ble_eq_true rfl, Nat.le_of_ble_eq_true rfl⟩ rfl (fun ce q9 H locs hW hq hS hce hcv hcl => ?_)
    have hP := rf_keep1 hP (fun z => hq o z hoA)
    refine vx_catch (name := "java/lang/IndexOutOfBoundsException") hown [] ⟨0, 9, 12, 20⟩ [⟨0, 9, 15, 15⟩] (by rw [htab]; rfl) (fun z hz => nomatch hz) (by decide) (by decide) (hts (.classLink RL 20 "java/lang/IndexOutOfBoundsException") (by decide +kernel)) (va_Nw.use rfl hX.2.2.2.1.1) hce hcv hcl ?_
    refine lv_astore_n (lv' := [(3, .ref q9), (0, .ref w), (1, .int x), (2, .ref o)]) hx hb dL_mend_12 rfl hl (by decide) rfl (fun ls hl => ?_)
    refine lv_iconst (v := 1) hx hb dL_mend_13 (by decide) ?_
    exact W.iret (v := 1) hx hb hr (fun U9 ht hW9 => ⟨⟨1, f, rfl, ⟨rfl, fun z => absurd (show (1 : Int32) = 0 from z) (by decide)⟩, by show hs_W D d L _ A U9.heap ∧ va_P D vwCl _ U9.heap; rw [ht]; exact ⟨hW, hP⟩⟩, hS.F ht⟩) hS.2.2 dL_mend_14
  · rw [ec]
    refine hl_callT (As := [.int x]) (rest := [.int 0, .ref o]) (L2 := L2) ⟨hx, hb, hml, hown, hts⟩ hT wx_blind (fun U hU hW9 => ⟨⟨⟨by rw [hU]; exact hW, va_K.moved hW9.alike hK⟩, (hX.on hW9 hU va_S.rf).narrow hAB⟩, by rw [hU]; exact hV⟩) (cwV 1 hts gL_mend_X4_mend rfl rfl rfl (by decide +kernel) ⟨Nat.le_of_ble_eq_true rfl, Nat.le_of_ble_eq_true rfl⟩) hK hAB hV rfl hl.1 (Nat.le_of_ble_eq_true rfl) dL_mend_4 ⟨Nat.le_of_ble_eq_true rfl, Nat.le_of_ble_eq_true rfl⟩ rfl (fun ce q9 H locs hW hq hS hce hcv hcl => ?_)
    have hP := rf_keep1 hP (fun z => hq o z hoA)
    refine vx_catch (name := "java/lang/IllegalStateException") hown [⟨0, 9, 12, 20⟩] ⟨0, 9, 15, 15⟩ [] (by rw [htab]; rfl) (fun z hz => by
      rcases List.mem_cons.mp hz with rfl | hz
      · exact Or.inr ⟨by decide, "java/lang/IndexOutOfBoundsException", hts (.classLink RL 20 "java/lang/IndexOutOfBoundsException") (by decide +kernel), hN.2.1⟩
      · exact absurd hz List.not_mem_nil) (by decide) (by decide) (hts (.classLink RL 15 "java/lang/IllegalStateException") (by decide +kernel)) (va_Nw.use rfl hX.2.2.2.1.2.2) hce hcv hcl ?_
    refine lv_astore_n (lv' := [(3, .ref q9), (0, .ref w), (1, .int x), (2, .ref o)]) hx hb dL_mend_15 rfl hl (by decide) rfl (fun ls hl => ?_)
    refine lv_iconst (v := 2) hx hb dL_mend_16 (by decide) ?_
    exact W.iret (v := 2) hx hb hr (fun U9 ht hW9 => ⟨⟨2, f, rfl, ⟨rfl, fun z => absurd (show (2 : Int32) = 0 from z) (by decide)⟩, by show hs_W D d L _ A U9.heap ∧ va_P D vwCl _ U9.heap; rw [ht]; exact ⟨hW, hP⟩⟩, hS.F ht⟩) hS.2.2 dL_mend_17
  · refine hl_call (As := [.int x]) (rest := [.int 0, .ref o]) ⟨hx, hb, hml, hown, hts⟩ hM (cwV 1 hts gL_mend_X4_mend rfl rfl rfl (by decide +kernel) ⟨Nat.le_of_ble_eq_true rfl, Nat.le_of_ble_eq_true rfl⟩) hK hX hW hAB hV rfl hl.1 (Nat.le_of_ble_eq_true rfl) dL_mend_4 ⟨Nat.zero_le _, Nat.zero_le _⟩ rfl (fun r_ τ_ H locs hp hW hq hS => ?_)
    obtain ⟨e1, e2⟩ := hpost _ _ hp
    have hP := rf_keep1 hP (fun z => hq o z hoA)
    refine lv_i2l hx hb dL_mend_7 rfl ?_
    refine hl_last hx hb hKL hP hoB hS dL_mend_8 (fun H1 locs g hg0 hP oq hS => ?_)
    have hW := hW.kept (fun q _ h2 => oq q (fun z => hoA (by rw [← z]; exact h2)))
    refine lv_goto (tgt := 18) hx hb dL_mend_9 (by decide) ?_
    refine lv_iconst (v := 0) hx hb dL_mend_18 (by decide) ?_
    refine W.widen (k := 1) (n := 6) (Nat.le_of_ble_eq_true rfl) (Nat.le_of_ble_eq_true rfl) ?_
    exact W.iret (v := 0) hx hb hr (fun U9 ht hW9 => ⟨⟨0, g, rfl, ⟨ec.symm, fun _ => by rw [hg0, e1]⟩, by show hs_W D d L _ A U9.heap ∧ va_P D vwCl _ U9.heap; rw [ht, e2]; exact ⟨hW, hP⟩⟩, hS.F ht⟩) hS.2.2 dL_mend_19
set_option maxHeartbeats 4000000 in
set_option maxRecDepth 100000 in
/-- the law: melt -/
theorem hL_melt (l : Launch) (D : va_G) (d : hs_Dm) (w : Nat) (L L2 : hs_Lo) (σ : hs_St) (A B : Nat → Prop) (o : Nat) (cL : ClassId) (f : Nat → Int64) (hwB : ¬ B w) (hAB : ∀ q, A q → B q) (hoB : B o) (hoA : ¬ A o) (hl0 : l.stackTraces = false) (P F R : Nat) (hok : hs_ok P F R σ) (x : Int32) : hl_M l yL_melt wsL_melt D d w L L2 σ A B o cL f [.ref w, .int x, .ref o] (cl_melt F σ x) := by
  refine va_MetW (cc := cL_melt) (maxL := 4) (ret := (some .int)) (hh := [(0, 9, 12, 20), (0, 9, 15, 15)]) (by decide) rfl ?_
  intro p e s m args below meth c s₁ B0 hml hv
  obtain ⟨rfl, hW, hK, hX, hV, hP, hKL, hN⟩ := hv
  have hx := B0.exec
  have hb := B0.bytes
  have hr := B0.returns
  have hts := atoms_spec (ws := wsL_melt) B0.pre
  have hown : s.vm.findClass RL = some m.cls := findClass_of_methodNamed B0.named
  have hlocks := B0.notSynchronized
  have htab := vx_table (x := yL_melt) B0 (hts (.codeWith yL_melt cL_melt 4 (some .int) [(0, 9, 12, 20), (0, 9, 15, 15)]) List.mem_cons_self)
  have hl := lv_entry ([.ref w, .int x, .ref o]) (n := 4) (Nat.le_of_ble_eq_true rfl)
  rw [lg_entry_eq]
  generalize (lg_sl ([.ref w, .int x, .ref o]) ++ List.replicate (4 - (lg_sl ([.ref w, .int x, .ref o])).length) Slot.unset).toArray = ls at hl ⊢
  have hl : lv_has ls 4 [(0, .ref w), (1, .int x), (2, .ref o)] := hl
  refine lv_aload_n hx hb dL_melt_0 rfl (lv_at hl 2 rfl) ?_
  refine lv_iconst (v := 0) hx hb dL_melt_1 (by decide) ?_
  refine lv_aload_n hx hb dL_melt_2 rfl (lv_at hl 0 rfl) ?_
  refine lv_iload_n hx hb dL_melt_3 rfl (lv_at hl 1 rfl) ?_
  rcases oX4_melt l D d L σ A w L2 (fun z => hwB (hAB w z)) hl0 P F R hok x with ⟨ec, hT⟩ | ⟨ec, hT⟩ | ⟨ec, post_, hM, hpost⟩
  · rw [ec]
    refine hl_callT (As := [.int x]) (rest := [.int 0, .ref o]) (L2 := L2) ⟨hx, hb, hml, hown, hts⟩ hT wx_blind (fun U hU hW9 => ⟨⟨⟨by rw [hU]; exact hW, va_K.moved hW9.alike hK⟩, (hX.on hW9 hU va_S.rf).narrow hAB⟩, by rw [hU]; exact hV⟩) (cwV 1 hts gL_melt_X4_melt rfl rfl rfl (by decide +kernel) ⟨Nat.le_of_ble_eq_true rfl, Nat.le_of_ble_eq_true rfl⟩) hK hAB hV rfl hl.1 (Nat.le_of_ble_eq_true rfl) dL_melt_4 ⟨Nat.le_of_ble_eq_true rfl, Nat.le_of_ble_eq_true rfl⟩ rfl (fun ce q9 H locs hW hq hS hce hcv hcl => ?_)
    have hP := rf_keep1 hP (fun z => hq o z hoA)
    refine vx_catch (name := "java/lang/IndexOutOfBoundsException") hown [] ⟨0, 9, 12, 20⟩ [⟨0, 9, 15, 15⟩] (by rw [htab]; rfl) (fun z hz => nomatch hz) (by decide) (by decide) (hts (.classLink RL 20 "java/lang/IndexOutOfBoundsException") (by decide +kernel)) (va_Nw.use rfl hX.2.2.2.1.1) hce hcv hcl ?_
    refine lv_astore_n (lv' := [(3, .ref q9), (0, .ref w), (1, .int x), (2, .ref o)]) hx hb dL_melt_12 rfl hl (by decide) rfl (fun ls hl => ?_)
    refine lv_iconst (v := 1) hx hb dL_melt_13 (by decide) ?_
    exact W.iret (v := 1) hx hb hr (fun U9 ht hW9 => ⟨⟨1, f, rfl, ⟨rfl, fun z => absurd (show (1 : Int32) = 0 from z) (by decide)⟩, by show hs_W D d L _ A U9.heap ∧ va_P D vwCl _ U9.heap; rw [ht]; exact ⟨hW, hP⟩⟩, hS.F ht⟩) hS.2.2 dL_melt_14
  · rw [ec]
    refine hl_callT (As := [.int x]) (rest := [.int 0, .ref o]) (L2 := L2) ⟨hx, hb, hml, hown, hts⟩ hT wx_blind (fun U hU hW9 => ⟨⟨⟨by rw [hU]; exact hW, va_K.moved hW9.alike hK⟩, (hX.on hW9 hU va_S.rf).narrow hAB⟩, by rw [hU]; exact hV⟩) (cwV 1 hts gL_melt_X4_melt rfl rfl rfl (by decide +kernel) ⟨Nat.le_of_ble_eq_true rfl, Nat.le_of_ble_eq_true rfl⟩) hK hAB hV rfl hl.1 (Nat.le_of_ble_eq_true rfl) dL_melt_4 ⟨Nat.le_of_ble_eq_true rfl, Nat.le_of_ble_eq_true rfl⟩ rfl (fun ce q9 H locs hW hq hS hce hcv hcl => ?_)
    have hP := rf_keep1 hP (fun z => hq o z hoA)
    refine vx_catch (name := "java/lang/IllegalStateException") hown [⟨0, 9, 12, 20⟩] ⟨0, 9, 15, 15⟩ [] (by rw [htab]; rfl) (fun z hz => by
      rcases List.mem_cons.mp hz with rfl | hz
      · exact Or.inr ⟨by decide, "java/lang/IndexOutOfBoundsException", hts (.classLink RL 20 "java/lang/IndexOutOfBoundsException") (by decide +kernel), hN.2.1⟩
      · exact absurd hz List.not_mem_nil) (by decide) (by decide) (hts (.classLink RL 15 "java/lang/IllegalStateException") (by decide +kernel)) (va_Nw.use rfl hX.2.2.2.1.2.2) hce hcv hcl ?_
    refine lv_astore_n (lv' := [(3, .ref q9), (0, .ref w), (1, .int x), (2, .ref o)]) hx hb dL_melt_15 rfl hl (by decide) rfl (fun ls hl => ?_)
    refine lv_iconst (v := 2) hx hb dL_melt_16 (by decide) ?_
    exact W.iret (v := 2) hx hb hr (fun U9 ht hW9 => ⟨⟨2, f, rfl, ⟨rfl, fun z => absurd (show (2 : Int32) = 0 from z) (by decide)⟩, by show hs_W D d L _ A U9.heap ∧ va_P D vwCl _ U9.heap; rw [ht]; exact ⟨hW, hP⟩⟩, hS.F ht⟩) hS.2.2 dL_melt_17
  · refine hl_call (As := [.int x]) (rest := [.int 0, .ref o]) ⟨hx, hb, hml, hown, hts⟩ hM (cwV 1 hts gL_melt_X4_melt rfl rfl rfl (by decide +kernel) ⟨Nat.le_of_ble_eq_true rfl, Nat.le_of_ble_eq_true rfl⟩) hK hX hW hAB hV rfl hl.1 (Nat.le_of_ble_eq_true rfl) dL_melt_4 ⟨Nat.zero_le _, Nat.zero_le _⟩ rfl (fun r_ τ_ H locs hp hW hq hS => ?_)
    obtain ⟨e1, e2⟩ := hpost _ _ hp
    have hP := rf_keep1 hP (fun z => hq o z hoA)
    refine lv_i2l hx hb dL_melt_7 rfl ?_
    refine hl_last hx hb hKL hP hoB hS dL_melt_8 (fun H1 locs g hg0 hP oq hS => ?_)
    have hW := hW.kept (fun q _ h2 => oq q (fun z => hoA (by rw [← z]; exact h2)))
    refine lv_goto (tgt := 18) hx hb dL_melt_9 (by decide) ?_
    refine lv_iconst (v := 0) hx hb dL_melt_18 (by decide) ?_
    refine W.widen (k := 1) (n := 6) (Nat.le_of_ble_eq_true rfl) (Nat.le_of_ble_eq_true rfl) ?_
    exact W.iret (v := 0) hx hb hr (fun U9 ht hW9 => ⟨⟨0, g, rfl, ⟨ec.symm, fun _ => by rw [hg0, e1]⟩, by show hs_W D d L _ A U9.heap ∧ va_P D vwCl _ U9.heap; rw [ht, e2]; exact ⟨hW, hP⟩⟩, hS.F ht⟩) hS.2.2 dL_melt_19
set_option maxHeartbeats 4000000 in
set_option maxRecDepth 100000 in
/-- the law: tour -/
theorem hL_tour (l : Launch) (D : va_G) (d : hs_Dm) (w : Nat) (L L2 : hs_Lo) (σ : hs_St) (A B : Nat → Prop) (o : Nat) (cL : ClassId) (f : Nat → Int64) (hwB : ¬ B w) (hAB : ∀ q, A q → B q) (hoB : B o) (hoA : ¬ A o) (hl0 : l.stackTraces = false) (P F R : Nat) (hok : hs_ok P F R σ) (x y z : Int32) : hl_M l yL_tour wsL_tour D d w L L2 σ A B o cL f [.ref w, .int x, .int y, .int z, .ref o] (cl_tour F σ x y z) := by
  refine va_MetW (cc := cL_tour) (maxL := 6) (ret := (some .int)) (hh := [(0, 12, 15, 20), (0, 12, 19, 13), (0, 12, 23, 15)]) (by decide) rfl ?_
  intro p e s m args below meth c s₁ B0 hml hv
  obtain ⟨rfl, hW, hK, hX, hV, hP, hKL, hN⟩ := hv
  have hx := B0.exec
  have hb := B0.bytes
  have hr := B0.returns
  have hts := atoms_spec (ws := wsL_tour) B0.pre
  have hown : s.vm.findClass RL = some m.cls := findClass_of_methodNamed B0.named
  have hlocks := B0.notSynchronized
  have htab := vx_table (x := yL_tour) B0 (hts (.codeWith yL_tour cL_tour 6 (some .int) [(0, 12, 15, 20), (0, 12, 19, 13), (0, 12, 23, 15)]) List.mem_cons_self)
  have hl := lv_entry ([.ref w, .int x, .int y, .int z, .ref o]) (n := 6) (Nat.le_of_ble_eq_true rfl)
  rw [lg_entry_eq]
  generalize (lg_sl ([.ref w, .int x, .int y, .int z, .ref o]) ++ List.replicate (6 - (lg_sl ([.ref w, .int x, .int y, .int z, .ref o])).length) Slot.unset).toArray = ls at hl ⊢
  have hl : lv_has ls 6 [(0, .ref w), (1, .int x), (2, .int y), (3, .int z), (4, .ref o)] := hl
  refine lv_aload hx hb dL_tour_0 (lv_at hl 4 rfl) ?_
  refine lv_iconst (v := 0) hx hb dL_tour_2 (by decide) ?_
  refine lv_aload_n hx hb dL_tour_3 rfl (lv_at hl 0 rfl) ?_
  refine lv_iload_n hx hb dL_tour_4 rfl (lv_at hl 1 rfl) ?_
  refine lv_iload_n hx hb dL_tour_5 rfl (lv_at hl 2 rfl) ?_
  refine lv_iload_n hx hb dL_tour_6 rfl (lv_at hl 3 rfl) ?_
  rcases oX4_tour l D d L σ A w L2 (fun z => hwB (hAB w z)) hl0 P F R hok x y z with ⟨ec, hT⟩ | ⟨ec, hT⟩ | ⟨ec, hT⟩ | ⟨ec, post_, hM, hpost⟩
  · rw [ec]
    refine hl_callT (As := [.int x, .int y, .int z]) (rest := [.int 0, .ref o]) (L2 := L2) ⟨hx, hb, hml, hown, hts⟩ hT wx_blind (fun U hU hW9 => ⟨⟨⟨by rw [hU]; exact hW, va_K.moved hW9.alike hK⟩, (hX.on hW9 hU va_S.rf).narrow hAB⟩, by rw [hU]; exact hV⟩) (cwV 3 hts gL_tour_X4_tour rfl rfl rfl (by decide +kernel) ⟨Nat.le_of_ble_eq_true rfl, Nat.le_of_ble_eq_true rfl⟩) hK hAB hV rfl hl.1 (Nat.le_of_ble_eq_true rfl) dL_tour_7 ⟨Nat.le_of_ble_eq_true rfl, Nat.le_of_ble_eq_true rfl⟩ rfl (fun ce q9 H locs hW hq hS hce hcv hcl => ?_)
    have hP := rf_keep1 hP (fun z => hq o z hoA)
    refine vx_catch (name := "java/lang/IndexOutOfBoundsException") hown [] ⟨0, 12, 15, 20⟩ [⟨0, 12, 19, 13⟩, ⟨0, 12, 23, 15⟩] (by rw [htab]; rfl) (fun z hz => nomatch hz) (by decide) (by decide) (hts (.classLink RL 20 "java/lang/IndexOutOfBoundsException") (by decide +kernel)) (va_Nw.use rfl hX.2.2.2.1.1) hce hcv hcl ?_
    refine lv_astore (lv' := [(5, .ref q9), (0, .ref w), (1, .int x), (2, .int y), (3, .int z), (4, .ref o)]) hx hb dL_tour_15 hl (by decide) rfl (fun ls hl => ?_)
    refine lv_iconst (v := 1) hx hb dL_tour_17 (by decide) ?_
    exact W.iret (v := 1) hx hb hr (fun U9 ht hW9 => ⟨⟨1, f, rfl, ⟨rfl, fun z => absurd (show (1 : Int32) = 0 from z) (by decide)⟩, by show hs_W D d L _ A U9.heap ∧ va_P D vwCl _ U9.heap; rw [ht]; exact ⟨hW, hP⟩⟩, hS.F ht⟩) hS.2.2 dL_tour_18
  · rw [ec]
    refine hl_callT (As := [.int x, .int y, .int z]) (rest := [.int 0, .ref o]) (L2 := L2) ⟨hx, hb, hml, hown, hts⟩ hT wx_blind (fun U hU hW9 => ⟨⟨⟨by rw [hU]; exact hW, va_K.moved hW9.alike hK⟩, (hX.on hW9 hU va_S.rf).narrow hAB⟩, by rw [hU]; exact hV⟩) (cwV 3 hts gL_tour_X4_tour rfl rfl rfl (by decide +kernel) ⟨Nat.le_of_ble_eq_true rfl, Nat.le_of_ble_eq_true rfl⟩) hK hAB hV rfl hl.1 (Nat.le_of_ble_eq_true rfl) dL_tour_7 ⟨Nat.le_of_ble_eq_true rfl, Nat.le_of_ble_eq_true rfl⟩ rfl (fun ce q9 H locs hW hq hS hce hcv hcl => ?_)
    have hP := rf_keep1 hP (fun z => hq o z hoA)
    refine vx_catch (name := "java/lang/IllegalArgumentException") hown [⟨0, 12, 15, 20⟩] ⟨0, 12, 19, 13⟩ [⟨0, 12, 23, 15⟩] (by rw [htab]; rfl) (fun z hz => by
      rcases List.mem_cons.mp hz with rfl | hz
      · exact Or.inr ⟨by decide, "java/lang/IndexOutOfBoundsException", hts (.classLink RL 20 "java/lang/IndexOutOfBoundsException") (by decide +kernel), hN.1⟩
      · exact absurd hz List.not_mem_nil) (by decide) (by decide) (hts (.classLink RL 13 "java/lang/IllegalArgumentException") (by decide +kernel)) (va_Nw.use rfl hX.2.2.2.1.2.1) hce hcv hcl ?_
    refine lv_astore (lv' := [(5, .ref q9), (0, .ref w), (1, .int x), (2, .int y), (3, .int z), (4, .ref o)]) hx hb dL_tour_19 hl (by decide) rfl (fun ls hl => ?_)
    refine lv_iconst (v := 2) hx hb dL_tour_21 (by decide) ?_
    exact W.iret (v := 2) hx hb hr (fun U9 ht hW9 => ⟨⟨2, f, rfl, ⟨rfl, fun z => absurd (show (2 : Int32) = 0 from z) (by decide)⟩, by show hs_W D d L _ A U9.heap ∧ va_P D vwCl _ U9.heap; rw [ht]; exact ⟨hW, hP⟩⟩, hS.F ht⟩) hS.2.2 dL_tour_22
  · rw [ec]
    refine hl_callT (As := [.int x, .int y, .int z]) (rest := [.int 0, .ref o]) (L2 := L2) ⟨hx, hb, hml, hown, hts⟩ hT wx_blind (fun U hU hW9 => ⟨⟨⟨by rw [hU]; exact hW, va_K.moved hW9.alike hK⟩, (hX.on hW9 hU va_S.rf).narrow hAB⟩, by rw [hU]; exact hV⟩) (cwV 3 hts gL_tour_X4_tour rfl rfl rfl (by decide +kernel) ⟨Nat.le_of_ble_eq_true rfl, Nat.le_of_ble_eq_true rfl⟩) hK hAB hV rfl hl.1 (Nat.le_of_ble_eq_true rfl) dL_tour_7 ⟨Nat.le_of_ble_eq_true rfl, Nat.le_of_ble_eq_true rfl⟩ rfl (fun ce q9 H locs hW hq hS hce hcv hcl => ?_)
    have hP := rf_keep1 hP (fun z => hq o z hoA)
    refine vx_catch (name := "java/lang/IllegalStateException") hown [⟨0, 12, 15, 20⟩, ⟨0, 12, 19, 13⟩] ⟨0, 12, 23, 15⟩ [] (by rw [htab]; rfl) (fun z hz => by
      rcases List.mem_cons.mp hz with rfl | hz
      · exact Or.inr ⟨by decide, "java/lang/IndexOutOfBoundsException", hts (.classLink RL 20 "java/lang/IndexOutOfBoundsException") (by decide +kernel), hN.2.1⟩
      rcases List.mem_cons.mp hz with rfl | hz
      · exact Or.inr ⟨by decide, "java/lang/IllegalArgumentException", hts (.classLink RL 13 "java/lang/IllegalArgumentException") (by decide +kernel), hN.2.2.1⟩
      · exact absurd hz List.not_mem_nil) (by decide) (by decide) (hts (.classLink RL 15 "java/lang/IllegalStateException") (by decide +kernel)) (va_Nw.use rfl hX.2.2.2.1.2.2) hce hcv hcl ?_
    refine lv_astore (lv' := [(5, .ref q9), (0, .ref w), (1, .int x), (2, .int y), (3, .int z), (4, .ref o)]) hx hb dL_tour_23 hl (by decide) rfl (fun ls hl => ?_)
    refine lv_iconst (v := 3) hx hb dL_tour_25 (by decide) ?_
    exact W.iret (v := 3) hx hb hr (fun U9 ht hW9 => ⟨⟨3, f, rfl, ⟨rfl, fun z => absurd (show (3 : Int32) = 0 from z) (by decide)⟩, by show hs_W D d L _ A U9.heap ∧ va_P D vwCl _ U9.heap; rw [ht]; exact ⟨hW, hP⟩⟩, hS.F ht⟩) hS.2.2 dL_tour_26
  · refine hl_call (As := [.int x, .int y, .int z]) (rest := [.int 0, .ref o]) ⟨hx, hb, hml, hown, hts⟩ hM (cwV 3 hts gL_tour_X4_tour rfl rfl rfl (by decide +kernel) ⟨Nat.le_of_ble_eq_true rfl, Nat.le_of_ble_eq_true rfl⟩) hK hX hW hAB hV rfl hl.1 (Nat.le_of_ble_eq_true rfl) dL_tour_7 ⟨Nat.zero_le _, Nat.zero_le _⟩ rfl (fun r_ τ_ H locs hp hW hq hS => ?_)
    obtain ⟨e1, e2⟩ := hpost _ _ hp
    have hP := rf_keep1 hP (fun z => hq o z hoA)
    refine lv_i2l hx hb dL_tour_10 rfl ?_
    refine hl_last hx hb hKL hP hoB hS dL_tour_11 (fun H1 locs g hg0 hP oq hS => ?_)
    have hW := hW.kept (fun q _ h2 => oq q (fun z => hoA (by rw [← z]; exact h2)))
    refine lv_goto (tgt := 27) hx hb dL_tour_12 (by decide) ?_
    refine lv_iconst (v := 0) hx hb dL_tour_27 (by decide) ?_
    refine W.widen (k := 1) (n := 6) (Nat.le_of_ble_eq_true rfl) (Nat.le_of_ble_eq_true rfl) ?_
    exact W.iret (v := 0) hx hb hr (fun U9 ht hW9 => ⟨⟨0, g, rfl, ⟨ec.symm, fun _ => by rw [hg0, e1]⟩, by show hs_W D d L _ A U9.heap ∧ va_P D vwCl _ U9.heap; rw [ht, e2]; exact ⟨hW, hP⟩⟩, hS.F ht⟩) hS.2.2 dL_tour_28
set_option maxHeartbeats 4000000 in
set_option maxRecDepth 100000 in
/-- the law: room -/
theorem hL_room (l : Launch) (D : va_G) (d : hs_Dm) (w : Nat) (L L2 : hs_Lo) (σ : hs_St) (A B : Nat → Prop) (o : Nat) (cL : ClassId) (f : Nat → Int64) (hwB : ¬ B w) (hAB : ∀ q, A q → B q) (hoB : B o) (hoA : ¬ A o) (hl0 : l.stackTraces = false) (P F R : Nat) (hok : hs_ok P F R σ) (x y : Int32) : hl_M l yL_room wsL_room D d w L L2 σ A B o cL f [.ref w, .int x, .int y, .ref o] (cl_room R σ x y) := by
  refine va_MetW (cc := cL_room) (maxL := 5) (ret := (some .int)) (hh := [(0, 10, 13, 13), (0, 10, 17, 15)]) (by decide) rfl ?_
  intro p e s m args below meth c s₁ B0 hml hv
  obtain ⟨rfl, hW, hK, hX, hV, hP, hKL, hN⟩ := hv
  have hx := B0.exec
  have hb := B0.bytes
  have hr := B0.returns
  have hts := atoms_spec (ws := wsL_room) B0.pre
  have hown : s.vm.findClass RL = some m.cls := findClass_of_methodNamed B0.named
  have hlocks := B0.notSynchronized
  have htab := vx_table (x := yL_room) B0 (hts (.codeWith yL_room cL_room 5 (some .int) [(0, 10, 13, 13), (0, 10, 17, 15)]) List.mem_cons_self)
  have hl := lv_entry ([.ref w, .int x, .int y, .ref o]) (n := 5) (Nat.le_of_ble_eq_true rfl)
  rw [lg_entry_eq]
  generalize (lg_sl ([.ref w, .int x, .int y, .ref o]) ++ List.replicate (5 - (lg_sl ([.ref w, .int x, .int y, .ref o])).length) Slot.unset).toArray = ls at hl ⊢
  have hl : lv_has ls 5 [(0, .ref w), (1, .int x), (2, .int y), (3, .ref o)] := hl
  refine lv_aload_n hx hb dL_room_0 rfl (lv_at hl 3 rfl) ?_
  refine lv_iconst (v := 0) hx hb dL_room_1 (by decide) ?_
  refine lv_aload_n hx hb dL_room_2 rfl (lv_at hl 0 rfl) ?_
  refine lv_iload_n hx hb dL_room_3 rfl (lv_at hl 1 rfl) ?_
  refine lv_iload_n hx hb dL_room_4 rfl (lv_at hl 2 rfl) ?_
  rcases oX4_room l D d L σ A w L2 (fun z => hwB (hAB w z)) hl0 P F R hok x y with ⟨ec, hT⟩ | ⟨ec, hT⟩ | ⟨ec, post_, hM, hpost⟩
  · rw [ec]
    refine hl_callT (As := [.int x, .int y]) (rest := [.int 0, .ref o]) (L2 := L2) ⟨hx, hb, hml, hown, hts⟩ hT wx_blind (fun U hU hW9 => ⟨⟨⟨by rw [hU]; exact hW, va_K.moved hW9.alike hK⟩, (hX.on hW9 hU va_S.rf).narrow hAB⟩, by rw [hU]; exact hV⟩) (cwV 2 hts gL_room_X4_room rfl rfl rfl (by decide +kernel) ⟨Nat.le_of_ble_eq_true rfl, Nat.le_of_ble_eq_true rfl⟩) hK hAB hV rfl hl.1 (Nat.le_of_ble_eq_true rfl) dL_room_5 ⟨Nat.le_of_ble_eq_true rfl, Nat.le_of_ble_eq_true rfl⟩ rfl (fun ce q9 H locs hW hq hS hce hcv hcl => ?_)
    have hP := rf_keep1 hP (fun z => hq o z hoA)
    refine vx_catch (name := "java/lang/IllegalArgumentException") hown [] ⟨0, 10, 13, 13⟩ [⟨0, 10, 17, 15⟩] (by rw [htab]; rfl) (fun z hz => nomatch hz) (by decide) (by decide) (hts (.classLink RL 13 "java/lang/IllegalArgumentException") (by decide +kernel)) (va_Nw.use rfl hX.2.2.2.1.2.1) hce hcv hcl ?_
    refine lv_astore (lv' := [(4, .ref q9), (0, .ref w), (1, .int x), (2, .int y), (3, .ref o)]) hx hb dL_room_13 hl (by decide) rfl (fun ls hl => ?_)
    refine lv_iconst (v := 1) hx hb dL_room_15 (by decide) ?_
    exact W.iret (v := 1) hx hb hr (fun U9 ht hW9 => ⟨⟨1, f, rfl, ⟨rfl, fun z => absurd (show (1 : Int32) = 0 from z) (by decide)⟩, by show hs_W D d L _ A U9.heap ∧ va_P D vwCl _ U9.heap; rw [ht]; exact ⟨hW, hP⟩⟩, hS.F ht⟩) hS.2.2 dL_room_16
  · rw [ec]
    refine hl_callT (As := [.int x, .int y]) (rest := [.int 0, .ref o]) (L2 := L2) ⟨hx, hb, hml, hown, hts⟩ hT wx_blind (fun U hU hW9 => ⟨⟨⟨by rw [hU]; exact hW, va_K.moved hW9.alike hK⟩, (hX.on hW9 hU va_S.rf).narrow hAB⟩, by rw [hU]; exact hV⟩) (cwV 2 hts gL_room_X4_room rfl rfl rfl (by decide +kernel) ⟨Nat.le_of_ble_eq_true rfl, Nat.le_of_ble_eq_true rfl⟩) hK hAB hV rfl hl.1 (Nat.le_of_ble_eq_true rfl) dL_room_5 ⟨Nat.le_of_ble_eq_true rfl, Nat.le_of_ble_eq_true rfl⟩ rfl (fun ce q9 H locs hW hq hS hce hcv hcl => ?_)
    have hP := rf_keep1 hP (fun z => hq o z hoA)
    refine vx_catch (name := "java/lang/IllegalStateException") hown [⟨0, 10, 13, 13⟩] ⟨0, 10, 17, 15⟩ [] (by rw [htab]; rfl) (fun z hz => by
      rcases List.mem_cons.mp hz with rfl | hz
      · exact Or.inr ⟨by decide, "java/lang/IllegalArgumentException", hts (.classLink RL 13 "java/lang/IllegalArgumentException") (by decide +kernel), hN.2.2.1⟩
      · exact absurd hz List.not_mem_nil) (by decide) (by decide) (hts (.classLink RL 15 "java/lang/IllegalStateException") (by decide +kernel)) (va_Nw.use rfl hX.2.2.2.1.2.2) hce hcv hcl ?_
    refine lv_astore (lv' := [(4, .ref q9), (0, .ref w), (1, .int x), (2, .int y), (3, .ref o)]) hx hb dL_room_17 hl (by decide) rfl (fun ls hl => ?_)
    refine lv_iconst (v := 2) hx hb dL_room_19 (by decide) ?_
    exact W.iret (v := 2) hx hb hr (fun U9 ht hW9 => ⟨⟨2, f, rfl, ⟨rfl, fun z => absurd (show (2 : Int32) = 0 from z) (by decide)⟩, by show hs_W D d L _ A U9.heap ∧ va_P D vwCl _ U9.heap; rw [ht]; exact ⟨hW, hP⟩⟩, hS.F ht⟩) hS.2.2 dL_room_20
  · refine hl_call (As := [.int x, .int y]) (rest := [.int 0, .ref o]) ⟨hx, hb, hml, hown, hts⟩ hM (cwV 2 hts gL_room_X4_room rfl rfl rfl (by decide +kernel) ⟨Nat.le_of_ble_eq_true rfl, Nat.le_of_ble_eq_true rfl⟩) hK hX hW hAB hV rfl hl.1 (Nat.le_of_ble_eq_true rfl) dL_room_5 ⟨Nat.zero_le _, Nat.zero_le _⟩ rfl (fun r_ τ_ H locs hp hW hq hS => ?_)
    obtain ⟨e1, e2⟩ := hpost _ _ hp
    have hP := rf_keep1 hP (fun z => hq o z hoA)
    refine lv_i2l hx hb dL_room_8 rfl ?_
    refine hl_last hx hb hKL hP hoB hS dL_room_9 (fun H1 locs g hg0 hP oq hS => ?_)
    have hW := hW.kept (fun q _ h2 => oq q (fun z => hoA (by rw [← z]; exact h2)))
    refine lv_goto (tgt := 21) hx hb dL_room_10 (by decide) ?_
    refine lv_iconst (v := 0) hx hb dL_room_21 (by decide) ?_
    refine W.widen (k := 1) (n := 6) (Nat.le_of_ble_eq_true rfl) (Nat.le_of_ble_eq_true rfl) ?_
    exact W.iret (v := 0) hx hb hr (fun U9 ht hW9 => ⟨⟨0, g, rfl, ⟨ec.symm, fun _ => by rw [hg0, e1]⟩, by show hs_W D d L _ A U9.heap ∧ va_P D vwCl _ U9.heap; rw [ht, e2]; exact ⟨hW, hP⟩⟩, hS.F ht⟩) hS.2.2 dL_room_22
set_option maxHeartbeats 4000000 in
set_option maxRecDepth 100000 in
/-- the law: lamps -/
theorem hL_lamps (l : Launch) (D : va_G) (d : hs_Dm) (w : Nat) (L L2 : hs_Lo) (σ : hs_St) (A B : Nat → Prop) (o : Nat) (cL : ClassId) (f : Nat → Int64) (hwB : ¬ B w) (hAB : ∀ q, A q → B q) (hoB : B o) (hoA : ¬ A o) (hl0 : l.stackTraces = false) (P F R : Nat) (hok : hs_ok P F R σ) (x y : Int32) : hl_M l yL_lamps wsL_lamps D d w L L2 σ A B o cL f [.ref w, .int x, .int y, .ref o] (cl_lamps R σ x y) := by
  refine va_MetW (cc := cL_lamps) (maxL := 5) (ret := (some .int)) (hh := [(0, 10, 13, 20), (0, 10, 17, 13)]) (by decide) rfl ?_
  intro p e s m args below meth c s₁ B0 hml hv
  obtain ⟨rfl, hW, hK, hX, hV, hP, hKL, hN⟩ := hv
  have hx := B0.exec
  have hb := B0.bytes
  have hr := B0.returns
  have hts := atoms_spec (ws := wsL_lamps) B0.pre
  have hown : s.vm.findClass RL = some m.cls := findClass_of_methodNamed B0.named
  have hlocks := B0.notSynchronized
  have htab := vx_table (x := yL_lamps) B0 (hts (.codeWith yL_lamps cL_lamps 5 (some .int) [(0, 10, 13, 20), (0, 10, 17, 13)]) List.mem_cons_self)
  have hl := lv_entry ([.ref w, .int x, .int y, .ref o]) (n := 5) (Nat.le_of_ble_eq_true rfl)
  rw [lg_entry_eq]
  generalize (lg_sl ([.ref w, .int x, .int y, .ref o]) ++ List.replicate (5 - (lg_sl ([.ref w, .int x, .int y, .ref o])).length) Slot.unset).toArray = ls at hl ⊢
  have hl : lv_has ls 5 [(0, .ref w), (1, .int x), (2, .int y), (3, .ref o)] := hl
  refine lv_aload_n hx hb dL_lamps_0 rfl (lv_at hl 3 rfl) ?_
  refine lv_iconst (v := 0) hx hb dL_lamps_1 (by decide) ?_
  refine lv_aload_n hx hb dL_lamps_2 rfl (lv_at hl 0 rfl) ?_
  refine lv_iload_n hx hb dL_lamps_3 rfl (lv_at hl 1 rfl) ?_
  refine lv_iload_n hx hb dL_lamps_4 rfl (lv_at hl 2 rfl) ?_
  rcases oX4_lamps l D d L σ A w L2 (fun z => hwB (hAB w z)) hl0 P F R hok x y with ⟨ec, hT⟩ | ⟨ec, hT⟩ | ⟨ec, post_, hM, hpost⟩
  · rw [ec]
    refine hl_callT (As := [.int x, .int y]) (rest := [.int 0, .ref o]) (L2 := L2) ⟨hx, hb, hml, hown, hts⟩ hT wx_blind (fun U hU hW9 => ⟨⟨⟨by rw [hU]; exact hW, va_K.moved hW9.alike hK⟩, (hX.on hW9 hU va_S.rf).narrow hAB⟩, by rw [hU]; exact hV⟩) (cwV 2 hts gL_lamps_X4_lamps rfl rfl rfl (by decide +kernel) ⟨Nat.le_of_ble_eq_true rfl, Nat.le_of_ble_eq_true rfl⟩) hK hAB hV rfl hl.1 (Nat.le_of_ble_eq_true rfl) dL_lamps_5 ⟨Nat.le_of_ble_eq_true rfl, Nat.le_of_ble_eq_true rfl⟩ rfl (fun ce q9 H locs hW hq hS hce hcv hcl => ?_)
    have hP := rf_keep1 hP (fun z => hq o z hoA)
    refine vx_catch (name := "java/lang/IndexOutOfBoundsException") hown [] ⟨0, 10, 13, 20⟩ [⟨0, 10, 17, 13⟩] (by rw [htab]; rfl) (fun z hz => nomatch hz) (by decide) (by decide) (hts (.classLink RL 20 "java/lang/IndexOutOfBoundsException") (by decide +kernel)) (va_Nw.use rfl hX.2.2.2.1.1) hce hcv hcl ?_
    refine lv_astore (lv' := [(4, .ref q9), (0, .ref w), (1, .int x), (2, .int y), (3, .ref o)]) hx hb dL_lamps_13 hl (by decide) rfl (fun ls hl => ?_)
    refine lv_iconst (v := 1) hx hb dL_lamps_15 (by decide) ?_
    exact W.iret (v := 1) hx hb hr (fun U9 ht hW9 => ⟨⟨1, f, rfl, ⟨rfl, fun z => absurd (show (1 : Int32) = 0 from z) (by decide)⟩, by show hs_W D d L _ A U9.heap ∧ va_P D vwCl _ U9.heap; rw [ht]; exact ⟨hW, hP⟩⟩, hS.F ht⟩) hS.2.2 dL_lamps_16
  · rw [ec]
    refine hl_callT (As := [.int x, .int y]) (rest := [.int 0, .ref o]) (L2 := L2) ⟨hx, hb, hml, hown, hts⟩ hT wx_blind (fun U hU hW9 => ⟨⟨⟨by rw [hU]; exact hW, va_K.moved hW9.alike hK⟩, (hX.on hW9 hU va_S.rf).narrow hAB⟩, by rw [hU]; exact hV⟩) (cwV 2 hts gL_lamps_X4_lamps rfl rfl rfl (by decide +kernel) ⟨Nat.le_of_ble_eq_true rfl, Nat.le_of_ble_eq_true rfl⟩) hK hAB hV rfl hl.1 (Nat.le_of_ble_eq_true rfl) dL_lamps_5 ⟨Nat.le_of_ble_eq_true rfl, Nat.le_of_ble_eq_true rfl⟩ rfl (fun ce q9 H locs hW hq hS hce hcv hcl => ?_)
    have hP := rf_keep1 hP (fun z => hq o z hoA)
    refine vx_catch (name := "java/lang/IllegalArgumentException") hown [⟨0, 10, 13, 20⟩] ⟨0, 10, 17, 13⟩ [] (by rw [htab]; rfl) (fun z hz => by
      rcases List.mem_cons.mp hz with rfl | hz
      · exact Or.inr ⟨by decide, "java/lang/IndexOutOfBoundsException", hts (.classLink RL 20 "java/lang/IndexOutOfBoundsException") (by decide +kernel), hN.1⟩
      · exact absurd hz List.not_mem_nil) (by decide) (by decide) (hts (.classLink RL 13 "java/lang/IllegalArgumentException") (by decide +kernel)) (va_Nw.use rfl hX.2.2.2.1.2.1) hce hcv hcl ?_
    refine lv_astore (lv' := [(4, .ref q9), (0, .ref w), (1, .int x), (2, .int y), (3, .ref o)]) hx hb dL_lamps_17 hl (by decide) rfl (fun ls hl => ?_)
    refine lv_iconst (v := 2) hx hb dL_lamps_19 (by decide) ?_
    exact W.iret (v := 2) hx hb hr (fun U9 ht hW9 => ⟨⟨2, f, rfl, ⟨rfl, fun z => absurd (show (2 : Int32) = 0 from z) (by decide)⟩, by show hs_W D d L _ A U9.heap ∧ va_P D vwCl _ U9.heap; rw [ht]; exact ⟨hW, hP⟩⟩, hS.F ht⟩) hS.2.2 dL_lamps_20
  · refine hl_call (As := [.int x, .int y]) (rest := [.int 0, .ref o]) ⟨hx, hb, hml, hown, hts⟩ hM (cwV 2 hts gL_lamps_X4_lamps rfl rfl rfl (by decide +kernel) ⟨Nat.le_of_ble_eq_true rfl, Nat.le_of_ble_eq_true rfl⟩) hK hX hW hAB hV rfl hl.1 (Nat.le_of_ble_eq_true rfl) dL_lamps_5 ⟨Nat.zero_le _, Nat.zero_le _⟩ rfl (fun r_ τ_ H locs hp hW hq hS => ?_)
    obtain ⟨e1, e2⟩ := hpost _ _ hp
    have hP := rf_keep1 hP (fun z => hq o z hoA)
    refine lv_i2l hx hb dL_lamps_8 rfl ?_
    refine hl_last hx hb hKL hP hoB hS dL_lamps_9 (fun H1 locs g hg0 hP oq hS => ?_)
    have hW := hW.kept (fun q _ h2 => oq q (fun z => hoA (by rw [← z]; exact h2)))
    refine lv_goto (tgt := 21) hx hb dL_lamps_10 (by decide) ?_
    refine lv_iconst (v := 0) hx hb dL_lamps_21 (by decide) ?_
    refine W.widen (k := 1) (n := 6) (Nat.le_of_ble_eq_true rfl) (Nat.le_of_ble_eq_true rfl) ?_
    exact W.iret (v := 0) hx hb hr (fun U9 ht hW9 => ⟨⟨0, g, rfl, ⟨ec.symm, fun _ => by rw [hg0, e1]⟩, by show hs_W D d L _ A U9.heap ∧ va_P D vwCl _ U9.heap; rw [ht, e2]; exact ⟨hW, hP⟩⟩, hS.F ht⟩) hS.2.2 dL_lamps_22
set_option maxHeartbeats 4000000 in
set_option maxRecDepth 100000 in
/-- the law: show -/
theorem hL_show (l : Launch) (D : va_G) (d : hs_Dm) (w : Nat) (L L2 : hs_Lo) (σ : hs_St) (A B : Nat → Prop) (o : Nat) (cL : ClassId) (f : Nat → Int64) (hwB : ¬ B w) (hAB : ∀ q, A q → B q) (hoB : B o) (hoA : ¬ A o) (hl0 : l.stackTraces = false) (P F R : Nat) (hok : hs_ok P F R σ) (x y : Int32) : hl_M l yL_show wsL_show D d w L L2 σ A B o cL f [.ref w, .int x, .int y, .ref o] (cl_show F R σ x y) := by
  refine va_MetW (cc := cL_show) (maxL := 5) (ret := (some .int)) (hh := [(0, 10, 13, 20), (0, 10, 17, 15)]) (by decide) rfl ?_
  intro p e s m args below meth c s₁ B0 hml hv
  obtain ⟨rfl, hW, hK, hX, hV, hP, hKL, hN⟩ := hv
  have hx := B0.exec
  have hb := B0.bytes
  have hr := B0.returns
  have hts := atoms_spec (ws := wsL_show) B0.pre
  have hown : s.vm.findClass RL = some m.cls := findClass_of_methodNamed B0.named
  have hlocks := B0.notSynchronized
  have htab := vx_table (x := yL_show) B0 (hts (.codeWith yL_show cL_show 5 (some .int) [(0, 10, 13, 20), (0, 10, 17, 15)]) List.mem_cons_self)
  have hl := lv_entry ([.ref w, .int x, .int y, .ref o]) (n := 5) (Nat.le_of_ble_eq_true rfl)
  rw [lg_entry_eq]
  generalize (lg_sl ([.ref w, .int x, .int y, .ref o]) ++ List.replicate (5 - (lg_sl ([.ref w, .int x, .int y, .ref o])).length) Slot.unset).toArray = ls at hl ⊢
  have hl : lv_has ls 5 [(0, .ref w), (1, .int x), (2, .int y), (3, .ref o)] := hl
  refine lv_aload_n hx hb dL_show_0 rfl (lv_at hl 3 rfl) ?_
  refine lv_iconst (v := 0) hx hb dL_show_1 (by decide) ?_
  refine lv_aload_n hx hb dL_show_2 rfl (lv_at hl 0 rfl) ?_
  refine lv_iload_n hx hb dL_show_3 rfl (lv_at hl 1 rfl) ?_
  refine lv_iload_n hx hb dL_show_4 rfl (lv_at hl 2 rfl) ?_
  rcases oX4_show l D d L σ A w L2 (fun z => hwB (hAB w z)) hl0 P F R hok x y with ⟨ec, hT⟩ | ⟨ec, hT⟩ | ⟨ec, post_, hM, hpost⟩
  · rw [ec]
    refine hl_callT (As := [.int x, .int y]) (rest := [.int 0, .ref o]) (L2 := L2) ⟨hx, hb, hml, hown, hts⟩ hT wx_blind (fun U hU hW9 => ⟨⟨⟨by rw [hU]; exact hW, va_K.moved hW9.alike hK⟩, (hX.on hW9 hU va_S.rf).narrow hAB⟩, by rw [hU]; exact hV⟩) (cwV 2 hts gL_show_X4_show rfl rfl rfl (by decide +kernel) ⟨Nat.le_of_ble_eq_true rfl, Nat.le_of_ble_eq_true rfl⟩) hK hAB hV rfl hl.1 (Nat.le_of_ble_eq_true rfl) dL_show_5 ⟨Nat.le_of_ble_eq_true rfl, Nat.le_of_ble_eq_true rfl⟩ rfl (fun ce q9 H locs hW hq hS hce hcv hcl => ?_)
    have hP := rf_keep1 hP (fun z => hq o z hoA)
    refine vx_catch (name := "java/lang/IndexOutOfBoundsException") hown [] ⟨0, 10, 13, 20⟩ [⟨0, 10, 17, 15⟩] (by rw [htab]; rfl) (fun z hz => nomatch hz) (by decide) (by decide) (hts (.classLink RL 20 "java/lang/IndexOutOfBoundsException") (by decide +kernel)) (va_Nw.use rfl hX.2.2.2.1.1) hce hcv hcl ?_
    refine lv_astore (lv' := [(4, .ref q9), (0, .ref w), (1, .int x), (2, .int y), (3, .ref o)]) hx hb dL_show_13 hl (by decide) rfl (fun ls hl => ?_)
    refine lv_iconst (v := 1) hx hb dL_show_15 (by decide) ?_
    exact W.iret (v := 1) hx hb hr (fun U9 ht hW9 => ⟨⟨1, f, rfl, ⟨rfl, fun z => absurd (show (1 : Int32) = 0 from z) (by decide)⟩, by show hs_W D d L _ A U9.heap ∧ va_P D vwCl _ U9.heap; rw [ht]; exact ⟨hW, hP⟩⟩, hS.F ht⟩) hS.2.2 dL_show_16
  · rw [ec]
    refine hl_callT (As := [.int x, .int y]) (rest := [.int 0, .ref o]) (L2 := L2) ⟨hx, hb, hml, hown, hts⟩ hT wx_blind (fun U hU hW9 => ⟨⟨⟨by rw [hU]; exact hW, va_K.moved hW9.alike hK⟩, (hX.on hW9 hU va_S.rf).narrow hAB⟩, by rw [hU]; exact hV⟩) (cwV 2 hts gL_show_X4_show rfl rfl rfl (by decide +kernel) ⟨Nat.le_of_ble_eq_true rfl, Nat.le_of_ble_eq_true rfl⟩) hK hAB hV rfl hl.1 (Nat.le_of_ble_eq_true rfl) dL_show_5 ⟨Nat.le_of_ble_eq_true rfl, Nat.le_of_ble_eq_true rfl⟩ rfl (fun ce q9 H locs hW hq hS hce hcv hcl => ?_)
    have hP := rf_keep1 hP (fun z => hq o z hoA)
    refine vx_catch (name := "java/lang/IllegalStateException") hown [⟨0, 10, 13, 20⟩] ⟨0, 10, 17, 15⟩ [] (by rw [htab]; rfl) (fun z hz => by
      rcases List.mem_cons.mp hz with rfl | hz
      · exact Or.inr ⟨by decide, "java/lang/IndexOutOfBoundsException", hts (.classLink RL 20 "java/lang/IndexOutOfBoundsException") (by decide +kernel), hN.2.1⟩
      · exact absurd hz List.not_mem_nil) (by decide) (by decide) (hts (.classLink RL 15 "java/lang/IllegalStateException") (by decide +kernel)) (va_Nw.use rfl hX.2.2.2.1.2.2) hce hcv hcl ?_
    refine lv_astore (lv' := [(4, .ref q9), (0, .ref w), (1, .int x), (2, .int y), (3, .ref o)]) hx hb dL_show_17 hl (by decide) rfl (fun ls hl => ?_)
    refine lv_iconst (v := 2) hx hb dL_show_19 (by decide) ?_
    exact W.iret (v := 2) hx hb hr (fun U9 ht hW9 => ⟨⟨2, f, rfl, ⟨rfl, fun z => absurd (show (2 : Int32) = 0 from z) (by decide)⟩, by show hs_W D d L _ A U9.heap ∧ va_P D vwCl _ U9.heap; rw [ht]; exact ⟨hW, hP⟩⟩, hS.F ht⟩) hS.2.2 dL_show_20
  · refine hl_call (As := [.int x, .int y]) (rest := [.int 0, .ref o]) ⟨hx, hb, hml, hown, hts⟩ hM (cwV 2 hts gL_show_X4_show rfl rfl rfl (by decide +kernel) ⟨Nat.le_of_ble_eq_true rfl, Nat.le_of_ble_eq_true rfl⟩) hK hX hW hAB hV rfl hl.1 (Nat.le_of_ble_eq_true rfl) dL_show_5 ⟨Nat.zero_le _, Nat.zero_le _⟩ rfl (fun r_ τ_ H locs hp hW hq hS => ?_)
    obtain ⟨e1, e2⟩ := hpost _ _ hp
    have hP := rf_keep1 hP (fun z => hq o z hoA)
    refine lv_i2l hx hb dL_show_8 rfl ?_
    refine hl_last hx hb hKL hP hoB hS dL_show_9 (fun H1 locs g hg0 hP oq hS => ?_)
    have hW := hW.kept (fun q _ h2 => oq q (fun z => hoA (by rw [← z]; exact h2)))
    refine lv_goto (tgt := 21) hx hb dL_show_10 (by decide) ?_
    refine lv_iconst (v := 0) hx hb dL_show_21 (by decide) ?_
    refine W.widen (k := 1) (n := 6) (Nat.le_of_ble_eq_true rfl) (Nat.le_of_ble_eq_true rfl) ?_
    exact W.iret (v := 0) hx hb hr (fun U9 ht hW9 => ⟨⟨0, g, rfl, ⟨ec.symm, fun _ => by rw [hg0, e1]⟩, by show hs_W D d L _ A U9.heap ∧ va_P D vwCl _ U9.heap; rw [ht, e2]; exact ⟨hW, hP⟩⟩, hS.F ht⟩) hS.2.2 dL_show_22
set_option maxHeartbeats 4000000 in
set_option maxRecDepth 100000 in
/-- the law: take -/
theorem hL_take (l : Launch) (D : va_G) (d : hs_Dm) (w : Nat) (L L2 : hs_Lo) (σ : hs_St) (A B : Nat → Prop) (o : Nat) (cL : ClassId) (f : Nat → Int64) (hwB : ¬ B w) (hAB : ∀ q, A q → B q) (hoB : B o) (hoA : ¬ A o) (hl0 : l.stackTraces = false) (P F R : Nat) (hok : hs_ok P F R σ) (x : Int32) : hl_M l yL_take wsL_take D d w L L2 σ A B o cL f [.ref w, .int x, .ref o] (cl_take F σ x) := by
  refine va_MetW (cc := cL_take) (maxL := 4) (ret := (some .int)) (hh := [(0, 9, 12, 20), (0, 9, 15, 15)]) (by decide) rfl ?_
  intro p e s m args below meth c s₁ B0 hml hv
  obtain ⟨rfl, hW, hK, hX, hV, hP, hKL, hN⟩ := hv
  have hx := B0.exec
  have hb := B0.bytes
  have hr := B0.returns
  have hts := atoms_spec (ws := wsL_take) B0.pre
  have hown : s.vm.findClass RL = some m.cls := findClass_of_methodNamed B0.named
  have hlocks := B0.notSynchronized
  have htab := vx_table (x := yL_take) B0 (hts (.codeWith yL_take cL_take 4 (some .int) [(0, 9, 12, 20), (0, 9, 15, 15)]) List.mem_cons_self)
  have hl := lv_entry ([.ref w, .int x, .ref o]) (n := 4) (Nat.le_of_ble_eq_true rfl)
  rw [lg_entry_eq]
  generalize (lg_sl ([.ref w, .int x, .ref o]) ++ List.replicate (4 - (lg_sl ([.ref w, .int x, .ref o])).length) Slot.unset).toArray = ls at hl ⊢
  have hl : lv_has ls 4 [(0, .ref w), (1, .int x), (2, .ref o)] := hl
  refine lv_aload_n hx hb dL_take_0 rfl (lv_at hl 2 rfl) ?_
  refine lv_iconst (v := 0) hx hb dL_take_1 (by decide) ?_
  refine lv_aload_n hx hb dL_take_2 rfl (lv_at hl 0 rfl) ?_
  refine lv_iload_n hx hb dL_take_3 rfl (lv_at hl 1 rfl) ?_
  rcases oX4_take l D d L σ A w L2 (fun z => hwB (hAB w z)) hl0 P F R hok x with ⟨ec, hT⟩ | ⟨ec, hT⟩ | ⟨ec, post_, hM, hpost⟩
  · rw [ec]
    refine hl_callT (As := [.int x]) (rest := [.int 0, .ref o]) (L2 := L2) ⟨hx, hb, hml, hown, hts⟩ hT wx_blind (fun U hU hW9 => ⟨⟨⟨by rw [hU]; exact hW, va_K.moved hW9.alike hK⟩, (hX.on hW9 hU va_S.rf).narrow hAB⟩, by rw [hU]; exact hV⟩) (cwV 1 hts gL_take_X4_take rfl rfl rfl (by decide +kernel) ⟨Nat.le_of_ble_eq_true rfl, Nat.le_of_ble_eq_true rfl⟩) hK hAB hV rfl hl.1 (Nat.le_of_ble_eq_true rfl) dL_take_4 ⟨Nat.le_of_ble_eq_true rfl, Nat.le_of_ble_eq_true rfl⟩ rfl (fun ce q9 H locs hW hq hS hce hcv hcl => ?_)
    have hP := rf_keep1 hP (fun z => hq o z hoA)
    refine vx_catch (name := "java/lang/IndexOutOfBoundsException") hown [] ⟨0, 9, 12, 20⟩ [⟨0, 9, 15, 15⟩] (by rw [htab]; rfl) (fun z hz => nomatch hz) (by decide) (by decide) (hts (.classLink RL 20 "java/lang/IndexOutOfBoundsException") (by decide +kernel)) (va_Nw.use rfl hX.2.2.2.1.1) hce hcv hcl ?_
    refine lv_astore_n (lv' := [(3, .ref q9), (0, .ref w), (1, .int x), (2, .ref o)]) hx hb dL_take_12 rfl hl (by decide) rfl (fun ls hl => ?_)
    refine lv_iconst (v := 1) hx hb dL_take_13 (by decide) ?_
    exact W.iret (v := 1) hx hb hr (fun U9 ht hW9 => ⟨⟨1, f, rfl, ⟨rfl, fun z => absurd (show (1 : Int32) = 0 from z) (by decide)⟩, by show hs_W D d L _ A U9.heap ∧ va_P D vwCl _ U9.heap; rw [ht]; exact ⟨hW, hP⟩⟩, hS.F ht⟩) hS.2.2 dL_take_14
  · rw [ec]
    refine hl_callT (As := [.int x]) (rest := [.int 0, .ref o]) (L2 := L2) ⟨hx, hb, hml, hown, hts⟩ hT wx_blind (fun U hU hW9 => ⟨⟨⟨by rw [hU]; exact hW, va_K.moved hW9.alike hK⟩, (hX.on hW9 hU va_S.rf).narrow hAB⟩, by rw [hU]; exact hV⟩) (cwV 1 hts gL_take_X4_take rfl rfl rfl (by decide +kernel) ⟨Nat.le_of_ble_eq_true rfl, Nat.le_of_ble_eq_true rfl⟩) hK hAB hV rfl hl.1 (Nat.le_of_ble_eq_true rfl) dL_take_4 ⟨Nat.le_of_ble_eq_true rfl, Nat.le_of_ble_eq_true rfl⟩ rfl (fun ce q9 H locs hW hq hS hce hcv hcl => ?_)
    have hP := rf_keep1 hP (fun z => hq o z hoA)
    refine vx_catch (name := "java/lang/IllegalStateException") hown [⟨0, 9, 12, 20⟩] ⟨0, 9, 15, 15⟩ [] (by rw [htab]; rfl) (fun z hz => by
      rcases List.mem_cons.mp hz with rfl | hz
      · exact Or.inr ⟨by decide, "java/lang/IndexOutOfBoundsException", hts (.classLink RL 20 "java/lang/IndexOutOfBoundsException") (by decide +kernel), hN.2.1⟩
      · exact absurd hz List.not_mem_nil) (by decide) (by decide) (hts (.classLink RL 15 "java/lang/IllegalStateException") (by decide +kernel)) (va_Nw.use rfl hX.2.2.2.1.2.2) hce hcv hcl ?_
    refine lv_astore_n (lv' := [(3, .ref q9), (0, .ref w), (1, .int x), (2, .ref o)]) hx hb dL_take_15 rfl hl (by decide) rfl (fun ls hl => ?_)
    refine lv_iconst (v := 2) hx hb dL_take_16 (by decide) ?_
    exact W.iret (v := 2) hx hb hr (fun U9 ht hW9 => ⟨⟨2, f, rfl, ⟨rfl, fun z => absurd (show (2 : Int32) = 0 from z) (by decide)⟩, by show hs_W D d L _ A U9.heap ∧ va_P D vwCl _ U9.heap; rw [ht]; exact ⟨hW, hP⟩⟩, hS.F ht⟩) hS.2.2 dL_take_17
  · refine hl_call (As := [.int x]) (rest := [.int 0, .ref o]) ⟨hx, hb, hml, hown, hts⟩ hM (cwV 1 hts gL_take_X4_take rfl rfl rfl (by decide +kernel) ⟨Nat.le_of_ble_eq_true rfl, Nat.le_of_ble_eq_true rfl⟩) hK hX hW hAB hV rfl hl.1 (Nat.le_of_ble_eq_true rfl) dL_take_4 ⟨Nat.zero_le _, Nat.zero_le _⟩ rfl (fun r_ τ_ H locs hp hW hq hS => ?_)
    obtain ⟨e1, e2⟩ := hpost _ _ hp
    have hP := rf_keep1 hP (fun z => hq o z hoA)
    refine lv_i2l hx hb dL_take_7 rfl ?_
    refine hl_last hx hb hKL hP hoB hS dL_take_8 (fun H1 locs g hg0 hP oq hS => ?_)
    have hW := hW.kept (fun q _ h2 => oq q (fun z => hoA (by rw [← z]; exact h2)))
    refine lv_goto (tgt := 18) hx hb dL_take_9 (by decide) ?_
    refine lv_iconst (v := 0) hx hb dL_take_18 (by decide) ?_
    refine W.widen (k := 1) (n := 6) (Nat.le_of_ble_eq_true rfl) (Nat.le_of_ble_eq_true rfl) ?_
    exact W.iret (v := 0) hx hb hr (fun U9 ht hW9 => ⟨⟨0, g, rfl, ⟨ec.symm, fun _ => by rw [hg0, e1]⟩, by show hs_W D d L _ A U9.heap ∧ va_P D vwCl _ U9.heap; rw [ht, e2]; exact ⟨hW, hP⟩⟩, hS.F ht⟩) hS.2.2 dL_take_19
set_option maxHeartbeats 4000000 in
set_option maxRecDepth 100000 in
/-- the law: clean -/
theorem hL_clean (l : Launch) (D : va_G) (d : hs_Dm) (w : Nat) (L L2 : hs_Lo) (σ : hs_St) (A B : Nat → Prop) (o : Nat) (cL : ClassId) (f : Nat → Int64) (hwB : ¬ B w) (hAB : ∀ q, A q → B q) (hoB : B o) (hoA : ¬ A o) (hl0 : l.stackTraces = false) (P F R : Nat) (hok : hs_ok P F R σ) (x : Int32) : hl_M l yL_clean wsL_clean D d w L L2 σ A B o cL f [.ref w, .int x, .ref o] (cl_clean F R σ x) := by
  refine va_MetW (cc := cL_clean) (maxL := 4) (ret := (some .int)) (hh := [(0, 9, 12, 20)]) (by decide) rfl ?_
  intro p e s m args below meth c s₁ B0 hml hv
  obtain ⟨rfl, hW, hK, hX, hV, hP, hKL, hN⟩ := hv
  have hx := B0.exec
  have hb := B0.bytes
  have hr := B0.returns
  have hts := atoms_spec (ws := wsL_clean) B0.pre
  have hown : s.vm.findClass RL = some m.cls := findClass_of_methodNamed B0.named
  have hlocks := B0.notSynchronized
  have htab := vx_table (x := yL_clean) B0 (hts (.codeWith yL_clean cL_clean 4 (some .int) [(0, 9, 12, 20)]) List.mem_cons_self)
  have hl := lv_entry ([.ref w, .int x, .ref o]) (n := 4) (Nat.le_of_ble_eq_true rfl)
  rw [lg_entry_eq]
  generalize (lg_sl ([.ref w, .int x, .ref o]) ++ List.replicate (4 - (lg_sl ([.ref w, .int x, .ref o])).length) Slot.unset).toArray = ls at hl ⊢
  have hl : lv_has ls 4 [(0, .ref w), (1, .int x), (2, .ref o)] := hl
  refine lv_aload_n hx hb dL_clean_0 rfl (lv_at hl 2 rfl) ?_
  refine lv_iconst (v := 0) hx hb dL_clean_1 (by decide) ?_
  refine lv_aload_n hx hb dL_clean_2 rfl (lv_at hl 0 rfl) ?_
  refine lv_iload_n hx hb dL_clean_3 rfl (lv_at hl 1 rfl) ?_
  rcases oX4_clean l D d L σ A w L2 (fun z => hwB (hAB w z)) hl0 P F R hok x with ⟨ec, hT⟩ | ⟨ec, post_, hM, hpost⟩
  · rw [ec]
    refine hl_callT (As := [.int x]) (rest := [.int 0, .ref o]) (L2 := L2) ⟨hx, hb, hml, hown, hts⟩ hT wx_blind (fun U hU hW9 => ⟨⟨⟨by rw [hU]; exact hW, va_K.moved hW9.alike hK⟩, (hX.on hW9 hU va_S.rf).narrow hAB⟩, by rw [hU]; exact hV⟩) (cwV 1 hts gL_clean_X4_clean rfl rfl rfl (by decide +kernel) ⟨Nat.le_of_ble_eq_true rfl, Nat.le_of_ble_eq_true rfl⟩) hK hAB hV rfl hl.1 (Nat.le_of_ble_eq_true rfl) dL_clean_4 ⟨Nat.le_of_ble_eq_true rfl, Nat.le_of_ble_eq_true rfl⟩ rfl (fun ce q9 H locs hW hq hS hce hcv hcl => ?_)
    have hP := rf_keep1 hP (fun z => hq o z hoA)
    refine vx_catch (name := "java/lang/IndexOutOfBoundsException") hown [] ⟨0, 9, 12, 20⟩ [] (by rw [htab]; rfl) (fun z hz => nomatch hz) (by decide) (by decide) (hts (.classLink RL 20 "java/lang/IndexOutOfBoundsException") (by decide +kernel)) (va_Nw.use rfl hX.2.2.2.1.1) hce hcv hcl ?_
    refine lv_astore_n (lv' := [(3, .ref q9), (0, .ref w), (1, .int x), (2, .ref o)]) hx hb dL_clean_12 rfl hl (by decide) rfl (fun ls hl => ?_)
    refine lv_iconst (v := 1) hx hb dL_clean_13 (by decide) ?_
    exact W.iret (v := 1) hx hb hr (fun U9 ht hW9 => ⟨⟨1, f, rfl, ⟨rfl, fun z => absurd (show (1 : Int32) = 0 from z) (by decide)⟩, by show hs_W D d L _ A U9.heap ∧ va_P D vwCl _ U9.heap; rw [ht]; exact ⟨hW, hP⟩⟩, hS.F ht⟩) hS.2.2 dL_clean_14
  · refine hl_call (As := [.int x]) (rest := [.int 0, .ref o]) ⟨hx, hb, hml, hown, hts⟩ hM (cwV 1 hts gL_clean_X4_clean rfl rfl rfl (by decide +kernel) ⟨Nat.le_of_ble_eq_true rfl, Nat.le_of_ble_eq_true rfl⟩) hK hX hW hAB hV rfl hl.1 (Nat.le_of_ble_eq_true rfl) dL_clean_4 ⟨Nat.zero_le _, Nat.zero_le _⟩ rfl (fun r_ τ_ H locs hp hW hq hS => ?_)
    obtain ⟨e1, e2⟩ := hpost _ _ hp
    have hP := rf_keep1 hP (fun z => hq o z hoA)
    refine lv_i2l hx hb dL_clean_7 rfl ?_
    refine hl_last hx hb hKL hP hoB hS dL_clean_8 (fun H1 locs g hg0 hP oq hS => ?_)
    have hW := hW.kept (fun q _ h2 => oq q (fun z => hoA (by rw [← z]; exact h2)))
    refine lv_goto (tgt := 15) hx hb dL_clean_9 (by decide) ?_
    refine lv_iconst (v := 0) hx hb dL_clean_15 (by decide) ?_
    refine W.widen (k := 1) (n := 6) (Nat.le_of_ble_eq_true rfl) (Nat.le_of_ble_eq_true rfl) ?_
    exact W.iret (v := 0) hx hb hr (fun U9 ht hW9 => ⟨⟨0, g, rfl, ⟨ec.symm, fun _ => by rw [hg0, e1]⟩, by show hs_W D d L _ A U9.heap ∧ va_P D vwCl _ U9.heap; rw [ht, e2]; exact ⟨hW, hP⟩⟩, hS.F ht⟩) hS.2.2 dL_clean_16
set_option maxHeartbeats 4000000 in
set_option maxRecDepth 100000 in
/-- the law: price -/
theorem hL_price (l : Launch) (D : va_G) (d : hs_Dm) (w : Nat) (L L2 : hs_Lo) (σ : hs_St) (A B : Nat → Prop) (o : Nat) (cL : ClassId) (f : Nat → Int64) (hwB : ¬ B w) (hAB : ∀ q, A q → B q) (hoB : B o) (hoA : ¬ A o) (hl0 : l.stackTraces = false) (P F R : Nat) (hok : hs_ok P F R σ) (x : Int32) : hl_M l yL_price wsL_price D d w L L2 σ A B o cL f [.ref w, .int x, .ref o] (cl_price σ x) := by
  refine va_MetW (cc := cL_price) (maxL := 4) (ret := (some .int)) (hh := [(0, 9, 12, 13)]) (by decide) rfl ?_
  intro p e s m args below meth c s₁ B0 hml hv
  obtain ⟨rfl, hW, hK, hX, hV, hP, hKL, hN⟩ := hv
  have hx := B0.exec
  have hb := B0.bytes
  have hr := B0.returns
  have hts := atoms_spec (ws := wsL_price) B0.pre
  have hown : s.vm.findClass RL = some m.cls := findClass_of_methodNamed B0.named
  have hlocks := B0.notSynchronized
  have htab := vx_table (x := yL_price) B0 (hts (.codeWith yL_price cL_price 4 (some .int) [(0, 9, 12, 13)]) List.mem_cons_self)
  have hl := lv_entry ([.ref w, .int x, .ref o]) (n := 4) (Nat.le_of_ble_eq_true rfl)
  rw [lg_entry_eq]
  generalize (lg_sl ([.ref w, .int x, .ref o]) ++ List.replicate (4 - (lg_sl ([.ref w, .int x, .ref o])).length) Slot.unset).toArray = ls at hl ⊢
  have hl : lv_has ls 4 [(0, .ref w), (1, .int x), (2, .ref o)] := hl
  refine lv_aload_n hx hb dL_price_0 rfl (lv_at hl 2 rfl) ?_
  refine lv_iconst (v := 0) hx hb dL_price_1 (by decide) ?_
  refine lv_aload_n hx hb dL_price_2 rfl (lv_at hl 0 rfl) ?_
  refine lv_iload_n hx hb dL_price_3 rfl (lv_at hl 1 rfl) ?_
  rcases oX4_price l D d L σ A w L2 (fun z => hwB (hAB w z)) hl0 P F R hok x with ⟨ec, hT⟩ | ⟨ec, post_, hM, hpost⟩
  · rw [ec]
    refine hl_callT (As := [.int x]) (rest := [.int 0, .ref o]) (L2 := L2) ⟨hx, hb, hml, hown, hts⟩ hT wx_blind (fun U hU hW9 => ⟨⟨⟨by rw [hU]; exact hW, va_K.moved hW9.alike hK⟩, (hX.on hW9 hU va_S.rf).narrow hAB⟩, by rw [hU]; exact hV⟩) (cwV 1 hts gL_price_X4_price rfl rfl rfl (by decide +kernel) ⟨Nat.le_of_ble_eq_true rfl, Nat.le_of_ble_eq_true rfl⟩) hK hAB hV rfl hl.1 (Nat.le_of_ble_eq_true rfl) dL_price_4 ⟨Nat.le_of_ble_eq_true rfl, Nat.le_of_ble_eq_true rfl⟩ rfl (fun ce q9 H locs hW hq hS hce hcv hcl => ?_)
    have hP := rf_keep1 hP (fun z => hq o z hoA)
    refine vx_catch (name := "java/lang/IllegalArgumentException") hown [] ⟨0, 9, 12, 13⟩ [] (by rw [htab]; rfl) (fun z hz => nomatch hz) (by decide) (by decide) (hts (.classLink RL 13 "java/lang/IllegalArgumentException") (by decide +kernel)) (va_Nw.use rfl hX.2.2.2.1.2.1) hce hcv hcl ?_
    refine lv_astore_n (lv' := [(3, .ref q9), (0, .ref w), (1, .int x), (2, .ref o)]) hx hb dL_price_12 rfl hl (by decide) rfl (fun ls hl => ?_)
    refine lv_iconst (v := 1) hx hb dL_price_13 (by decide) ?_
    exact W.iret (v := 1) hx hb hr (fun U9 ht hW9 => ⟨⟨1, f, rfl, ⟨rfl, fun z => absurd (show (1 : Int32) = 0 from z) (by decide)⟩, by show hs_W D d L _ A U9.heap ∧ va_P D vwCl _ U9.heap; rw [ht]; exact ⟨hW, hP⟩⟩, hS.F ht⟩) hS.2.2 dL_price_14
  · refine hl_call (As := [.int x]) (rest := [.int 0, .ref o]) ⟨hx, hb, hml, hown, hts⟩ hM (cwV 1 hts gL_price_X4_price rfl rfl rfl (by decide +kernel) ⟨Nat.le_of_ble_eq_true rfl, Nat.le_of_ble_eq_true rfl⟩) hK hX hW hAB hV rfl hl.1 (Nat.le_of_ble_eq_true rfl) dL_price_4 ⟨Nat.zero_le _, Nat.zero_le _⟩ rfl (fun r_ τ_ H locs hp hW hq hS => ?_)
    obtain ⟨e1, e2⟩ := hpost _ _ hp
    have hP := rf_keep1 hP (fun z => hq o z hoA)
    refine lv_i2l hx hb dL_price_7 rfl ?_
    refine hl_last hx hb hKL hP hoB hS dL_price_8 (fun H1 locs g hg0 hP oq hS => ?_)
    have hW := hW.kept (fun q _ h2 => oq q (fun z => hoA (by rw [← z]; exact h2)))
    refine lv_goto (tgt := 15) hx hb dL_price_9 (by decide) ?_
    refine lv_iconst (v := 0) hx hb dL_price_15 (by decide) ?_
    refine W.widen (k := 1) (n := 6) (Nat.le_of_ble_eq_true rfl) (Nat.le_of_ble_eq_true rfl) ?_
    exact W.iret (v := 0) hx hb hr (fun U9 ht hW9 => ⟨⟨0, g, rfl, ⟨ec.symm, fun _ => by rw [hg0, e1]⟩, by show hs_W D d L _ A U9.heap ∧ va_P D vwCl _ U9.heap; rw [ht, e2]; exact ⟨hW, hP⟩⟩, hS.F ht⟩) hS.2.2 dL_price_16
set_option maxHeartbeats 4000000 in
set_option maxRecDepth 100000 in
/-- the law: pass -/
theorem hL_pass (l : Launch) (D : va_G) (d : hs_Dm) (w : Nat) (L L2 : hs_Lo) (σ : hs_St) (A B : Nat → Prop) (o : Nat) (cL : ClassId) (f : Nat → Int64) (hwB : ¬ B w) (hAB : ∀ q, A q → B q) (hoB : B o) (hoA : ¬ A o) (hl0 : l.stackTraces = false) (P F R : Nat) (hok : hs_ok P F R σ) (n x z : Int32) : hl_M l yL_pass wsL_pass D d w L L2 σ A B o cL f [.ref w, .int n, .int x, .int z, .ref o] (cl_pass P F σ n x z) := by
  refine va_MetW (cc := cL_pass) (maxL := 6) (ret := (some .int)) (hh := [(0, 12, 15, 13)]) (by decide) rfl ?_
  intro p e s m args below meth c s₁ B0 hml hv
  obtain ⟨rfl, hW, hK, hX, hV, hP, hKL, hN⟩ := hv
  have hx := B0.exec
  have hb := B0.bytes
  have hr := B0.returns
  have hts := atoms_spec (ws := wsL_pass) B0.pre
  have hown : s.vm.findClass RL = some m.cls := findClass_of_methodNamed B0.named
  have hlocks := B0.notSynchronized
  have htab := vx_table (x := yL_pass) B0 (hts (.codeWith yL_pass cL_pass 6 (some .int) [(0, 12, 15, 13)]) List.mem_cons_self)
  have hl := lv_entry ([.ref w, .int n, .int x, .int z, .ref o]) (n := 6) (Nat.le_of_ble_eq_true rfl)
  rw [lg_entry_eq]
  generalize (lg_sl ([.ref w, .int n, .int x, .int z, .ref o]) ++ List.replicate (6 - (lg_sl ([.ref w, .int n, .int x, .int z, .ref o])).length) Slot.unset).toArray = ls at hl ⊢
  have hl : lv_has ls 6 [(0, .ref w), (1, .int n), (2, .int x), (3, .int z), (4, .ref o)] := hl
  refine lv_aload hx hb dL_pass_0 (lv_at hl 4 rfl) ?_
  refine lv_iconst (v := 0) hx hb dL_pass_2 (by decide) ?_
  refine lv_aload_n hx hb dL_pass_3 rfl (lv_at hl 0 rfl) ?_
  refine lv_iload_n hx hb dL_pass_4 rfl (lv_at hl 1 rfl) ?_
  refine lv_iload_n hx hb dL_pass_5 rfl (lv_at hl 2 rfl) ?_
  refine lv_iload_n hx hb dL_pass_6 rfl (lv_at hl 3 rfl) ?_
  rcases oX4_pass l D d L σ A w L2 (fun z => hwB (hAB w z)) hl0 P F R hok n x z with ⟨ec, hT⟩ | ⟨ec, post_, hM, hpost⟩
  · rw [ec]
    refine hl_callT (As := [.int n, .int x, .int z]) (rest := [.int 0, .ref o]) (L2 := L2) ⟨hx, hb, hml, hown, hts⟩ hT wx_blind (fun U hU hW9 => ⟨⟨⟨by rw [hU]; exact hW, va_K.moved hW9.alike hK⟩, (hX.on hW9 hU va_S.rf).narrow hAB⟩, by rw [hU]; exact hV⟩) (cwV 3 hts gL_pass_X4_pass rfl rfl rfl (by decide +kernel) ⟨Nat.le_of_ble_eq_true rfl, Nat.le_of_ble_eq_true rfl⟩) hK hAB hV rfl hl.1 (Nat.le_of_ble_eq_true rfl) dL_pass_7 ⟨Nat.le_of_ble_eq_true rfl, Nat.le_of_ble_eq_true rfl⟩ rfl (fun ce q9 H locs hW hq hS hce hcv hcl => ?_)
    have hP := rf_keep1 hP (fun z => hq o z hoA)
    refine vx_catch (name := "java/lang/IllegalArgumentException") hown [] ⟨0, 12, 15, 13⟩ [] (by rw [htab]; rfl) (fun z hz => nomatch hz) (by decide) (by decide) (hts (.classLink RL 13 "java/lang/IllegalArgumentException") (by decide +kernel)) (va_Nw.use rfl hX.2.2.2.1.2.1) hce hcv hcl ?_
    refine lv_astore (lv' := [(5, .ref q9), (0, .ref w), (1, .int n), (2, .int x), (3, .int z), (4, .ref o)]) hx hb dL_pass_15 hl (by decide) rfl (fun ls hl => ?_)
    refine lv_iconst (v := 1) hx hb dL_pass_17 (by decide) ?_
    exact W.iret (v := 1) hx hb hr (fun U9 ht hW9 => ⟨⟨1, f, rfl, ⟨rfl, fun z => absurd (show (1 : Int32) = 0 from z) (by decide)⟩, by show hs_W D d L _ A U9.heap ∧ va_P D vwCl _ U9.heap; rw [ht]; exact ⟨hW, hP⟩⟩, hS.F ht⟩) hS.2.2 dL_pass_18
  · refine hl_call (As := [.int n, .int x, .int z]) (rest := [.int 0, .ref o]) ⟨hx, hb, hml, hown, hts⟩ hM (cwV 3 hts gL_pass_X4_pass rfl rfl rfl (by decide +kernel) ⟨Nat.le_of_ble_eq_true rfl, Nat.le_of_ble_eq_true rfl⟩) hK hX hW hAB hV rfl hl.1 (Nat.le_of_ble_eq_true rfl) dL_pass_7 ⟨Nat.zero_le _, Nat.zero_le _⟩ rfl (fun r_ τ_ H locs hp hW hq hS => ?_)
    obtain ⟨e1, e2⟩ := hpost _ _ hp
    have hP := rf_keep1 hP (fun z => hq o z hoA)
    refine lv_i2l hx hb dL_pass_10 rfl ?_
    refine hl_last hx hb hKL hP hoB hS dL_pass_11 (fun H1 locs g hg0 hP oq hS => ?_)
    have hW := hW.kept (fun q _ h2 => oq q (fun z => hoA (by rw [← z]; exact h2)))
    refine lv_goto (tgt := 19) hx hb dL_pass_12 (by decide) ?_
    refine lv_iconst (v := 0) hx hb dL_pass_19 (by decide) ?_
    refine W.widen (k := 1) (n := 6) (Nat.le_of_ble_eq_true rfl) (Nat.le_of_ble_eq_true rfl) ?_
    exact W.iret (v := 0) hx hb hr (fun U9 ht hW9 => ⟨⟨0, g, rfl, ⟨ec.symm, fun _ => by rw [hg0, e1]⟩, by show hs_W D d L _ A U9.heap ∧ va_P D vwCl _ U9.heap; rw [ht, e2]; exact ⟨hW, hP⟩⟩, hS.F ht⟩) hS.2.2 dL_pass_20
set_option maxHeartbeats 4000000 in
set_option maxRecDepth 100000 in
/-- the law: ofPerson -/
theorem hL_ofPerson (l : Launch) (D : va_G) (d : hs_Dm) (w : Nat) (L L2 : hs_Lo) (σ : hs_St) (A B : Nat → Prop) (o : Nat) (cL : ClassId) (f : Nat → Int64) (hwB : ¬ B w) (hAB : ∀ q, A q → B q) (hoB : B o) (hoA : ¬ A o) (hl0 : l.stackTraces = false) (P F R : Nat) (hok : hs_ok P F R σ) (x y : Int32) : hl_M l yL_ofPerson wsL_ofPerson D d w L L2 σ A B o cL f [.ref w, .int x, .int y, .ref o] (cl_ofPerson P F σ x y) := by
  refine va_MetW (cc := cL_ofPerson) (maxL := 5) (ret := (some .int)) (hh := [(0, 10, 13, 20), (0, 10, 17, 13)]) (by decide) rfl ?_
  intro p e s m args below meth c s₁ B0 hml hv
  obtain ⟨rfl, hW, hK, hX, hV, hP, hKL, hN⟩ := hv
  have hx := B0.exec
  have hb := B0.bytes
  have hr := B0.returns
  have hts := atoms_spec (ws := wsL_ofPerson) B0.pre
  have hown : s.vm.findClass RL = some m.cls := findClass_of_methodNamed B0.named
  have hlocks := B0.notSynchronized
  have htab := vx_table (x := yL_ofPerson) B0 (hts (.codeWith yL_ofPerson cL_ofPerson 5 (some .int) [(0, 10, 13, 20), (0, 10, 17, 13)]) List.mem_cons_self)
  have hl := lv_entry ([.ref w, .int x, .int y, .ref o]) (n := 5) (Nat.le_of_ble_eq_true rfl)
  rw [lg_entry_eq]
  generalize (lg_sl ([.ref w, .int x, .int y, .ref o]) ++ List.replicate (5 - (lg_sl ([.ref w, .int x, .int y, .ref o])).length) Slot.unset).toArray = ls at hl ⊢
  have hl : lv_has ls 5 [(0, .ref w), (1, .int x), (2, .int y), (3, .ref o)] := hl
  refine lv_aload_n hx hb dL_ofPerson_0 rfl (lv_at hl 3 rfl) ?_
  refine lv_iconst (v := 0) hx hb dL_ofPerson_1 (by decide) ?_
  refine lv_aload_n hx hb dL_ofPerson_2 rfl (lv_at hl 0 rfl) ?_
  refine lv_iload_n hx hb dL_ofPerson_3 rfl (lv_at hl 1 rfl) ?_
  refine lv_iload_n hx hb dL_ofPerson_4 rfl (lv_at hl 2 rfl) ?_
  rcases oX4_ofPerson l D d L σ A w L2 (fun z => hwB (hAB w z)) hl0 P F R hok x y with ⟨ec, hT⟩ | ⟨ec, hT⟩ | ⟨ec, post_, hM, hpost⟩
  · rw [ec]
    refine hl_callT (As := [.int x, .int y]) (rest := [.int 0, .ref o]) (L2 := L2) ⟨hx, hb, hml, hown, hts⟩ hT wx_blind (fun U hU hW9 => ⟨⟨⟨by rw [hU]; exact hW, va_K.moved hW9.alike hK⟩, (hX.on hW9 hU va_S.rf).narrow hAB⟩, by rw [hU]; exact hV⟩) (cwV 2 hts gL_ofPerson_X4_ofPerson rfl rfl rfl (by decide +kernel) ⟨Nat.le_of_ble_eq_true rfl, Nat.le_of_ble_eq_true rfl⟩) hK hAB hV rfl hl.1 (Nat.le_of_ble_eq_true rfl) dL_ofPerson_5 ⟨Nat.le_of_ble_eq_true rfl, Nat.le_of_ble_eq_true rfl⟩ rfl (fun ce q9 H locs hW hq hS hce hcv hcl => ?_)
    have hP := rf_keep1 hP (fun z => hq o z hoA)
    refine vx_catch (name := "java/lang/IndexOutOfBoundsException") hown [] ⟨0, 10, 13, 20⟩ [⟨0, 10, 17, 13⟩] (by rw [htab]; rfl) (fun z hz => nomatch hz) (by decide) (by decide) (hts (.classLink RL 20 "java/lang/IndexOutOfBoundsException") (by decide +kernel)) (va_Nw.use rfl hX.2.2.2.1.1) hce hcv hcl ?_
    refine lv_astore (lv' := [(4, .ref q9), (0, .ref w), (1, .int x), (2, .int y), (3, .ref o)]) hx hb dL_ofPerson_13 hl (by decide) rfl (fun ls hl => ?_)
    refine lv_iconst (v := 1) hx hb dL_ofPerson_15 (by decide) ?_
    exact W.iret (v := 1) hx hb hr (fun U9 ht hW9 => ⟨⟨1, f, rfl, ⟨rfl, fun z => absurd (show (1 : Int32) = 0 from z) (by decide)⟩, by show hs_W D d L _ A U9.heap ∧ va_P D vwCl _ U9.heap; rw [ht]; exact ⟨hW, hP⟩⟩, hS.F ht⟩) hS.2.2 dL_ofPerson_16
  · rw [ec]
    refine hl_callT (As := [.int x, .int y]) (rest := [.int 0, .ref o]) (L2 := L2) ⟨hx, hb, hml, hown, hts⟩ hT wx_blind (fun U hU hW9 => ⟨⟨⟨by rw [hU]; exact hW, va_K.moved hW9.alike hK⟩, (hX.on hW9 hU va_S.rf).narrow hAB⟩, by rw [hU]; exact hV⟩) (cwV 2 hts gL_ofPerson_X4_ofPerson rfl rfl rfl (by decide +kernel) ⟨Nat.le_of_ble_eq_true rfl, Nat.le_of_ble_eq_true rfl⟩) hK hAB hV rfl hl.1 (Nat.le_of_ble_eq_true rfl) dL_ofPerson_5 ⟨Nat.le_of_ble_eq_true rfl, Nat.le_of_ble_eq_true rfl⟩ rfl (fun ce q9 H locs hW hq hS hce hcv hcl => ?_)
    have hP := rf_keep1 hP (fun z => hq o z hoA)
    refine vx_catch (name := "java/lang/IllegalArgumentException") hown [⟨0, 10, 13, 20⟩] ⟨0, 10, 17, 13⟩ [] (by rw [htab]; rfl) (fun z hz => by
      rcases List.mem_cons.mp hz with rfl | hz
      · exact Or.inr ⟨by decide, "java/lang/IndexOutOfBoundsException", hts (.classLink RL 20 "java/lang/IndexOutOfBoundsException") (by decide +kernel), hN.1⟩
      · exact absurd hz List.not_mem_nil) (by decide) (by decide) (hts (.classLink RL 13 "java/lang/IllegalArgumentException") (by decide +kernel)) (va_Nw.use rfl hX.2.2.2.1.2.1) hce hcv hcl ?_
    refine lv_astore (lv' := [(4, .ref q9), (0, .ref w), (1, .int x), (2, .int y), (3, .ref o)]) hx hb dL_ofPerson_17 hl (by decide) rfl (fun ls hl => ?_)
    refine lv_iconst (v := 2) hx hb dL_ofPerson_19 (by decide) ?_
    exact W.iret (v := 2) hx hb hr (fun U9 ht hW9 => ⟨⟨2, f, rfl, ⟨rfl, fun z => absurd (show (2 : Int32) = 0 from z) (by decide)⟩, by show hs_W D d L _ A U9.heap ∧ va_P D vwCl _ U9.heap; rw [ht]; exact ⟨hW, hP⟩⟩, hS.F ht⟩) hS.2.2 dL_ofPerson_20
  · refine hl_call (As := [.int x, .int y]) (rest := [.int 0, .ref o]) ⟨hx, hb, hml, hown, hts⟩ hM (cwV 2 hts gL_ofPerson_X4_ofPerson rfl rfl rfl (by decide +kernel) ⟨Nat.le_of_ble_eq_true rfl, Nat.le_of_ble_eq_true rfl⟩) hK hX hW hAB hV rfl hl.1 (Nat.le_of_ble_eq_true rfl) dL_ofPerson_5 ⟨Nat.zero_le _, Nat.zero_le _⟩ rfl (fun r_ τ_ H locs hp hW hq hS => ?_)
    obtain ⟨e1, e2⟩ := hpost _ _ hp
    have hP := rf_keep1 hP (fun z => hq o z hoA)
    refine lv_i2l hx hb dL_ofPerson_8 rfl ?_
    refine hl_last hx hb hKL hP hoB hS dL_ofPerson_9 (fun H1 locs g hg0 hP oq hS => ?_)
    have hW := hW.kept (fun q _ h2 => oq q (fun z => hoA (by rw [← z]; exact h2)))
    refine lv_goto (tgt := 21) hx hb dL_ofPerson_10 (by decide) ?_
    refine lv_iconst (v := 0) hx hb dL_ofPerson_21 (by decide) ?_
    refine W.widen (k := 1) (n := 6) (Nat.le_of_ble_eq_true rfl) (Nat.le_of_ble_eq_true rfl) ?_
    exact W.iret (v := 0) hx hb hr (fun U9 ht hW9 => ⟨⟨0, g, rfl, ⟨ec.symm, fun _ => by rw [hg0, e1]⟩, by show hs_W D d L _ A U9.heap ∧ va_P D vwCl _ U9.heap; rw [ht, e2]; exact ⟨hW, hP⟩⟩, hS.F ht⟩) hS.2.2 dL_ofPerson_22
set_option maxHeartbeats 4000000 in
set_option maxRecDepth 100000 in
/-- the law: known -/
theorem hL_known (l : Launch) (D : va_G) (d : hs_Dm) (w : Nat) (L L2 : hs_Lo) (σ : hs_St) (A B : Nat → Prop) (o : Nat) (cL : ClassId) (f : Nat → Int64) (hwB : ¬ B w) (hAB : ∀ q, A q → B q) (hoB : B o) (hoA : ¬ A o) (hl0 : l.stackTraces = false) (P F R : Nat) (hok : hs_ok P F R σ) (x y z : Int32) (hz : z = 0 ∨ z = 1) : hl_M l yL_known wsL_known D d w L L2 σ A B o cL f [.ref w, .int x, .int y, .int z, .ref o] (cl_known P σ x y z) := by
  refine va_MetW (cc := cL_known) (maxL := 6) (ret := (some .int)) (hh := [(0, 12, 15, 20)]) (by decide) rfl ?_
  intro p e s m args below meth c s₁ B0 hml hv
  obtain ⟨rfl, hW, hK, hX, hV, hP, hKL, hN⟩ := hv
  have hx := B0.exec
  have hb := B0.bytes
  have hr := B0.returns
  have hts := atoms_spec (ws := wsL_known) B0.pre
  have hown : s.vm.findClass RL = some m.cls := findClass_of_methodNamed B0.named
  have hlocks := B0.notSynchronized
  have htab := vx_table (x := yL_known) B0 (hts (.codeWith yL_known cL_known 6 (some .int) [(0, 12, 15, 20)]) List.mem_cons_self)
  have hl := lv_entry ([.ref w, .int x, .int y, .int z, .ref o]) (n := 6) (Nat.le_of_ble_eq_true rfl)
  rw [lg_entry_eq]
  generalize (lg_sl ([.ref w, .int x, .int y, .int z, .ref o]) ++ List.replicate (6 - (lg_sl ([.ref w, .int x, .int y, .int z, .ref o])).length) Slot.unset).toArray = ls at hl ⊢
  have hl : lv_has ls 6 [(0, .ref w), (1, .int x), (2, .int y), (3, .int z), (4, .ref o)] := hl
  refine lv_aload hx hb dL_known_0 (lv_at hl 4 rfl) ?_
  refine lv_iconst (v := 0) hx hb dL_known_2 (by decide) ?_
  refine lv_aload_n hx hb dL_known_3 rfl (lv_at hl 0 rfl) ?_
  refine lv_iload_n hx hb dL_known_4 rfl (lv_at hl 1 rfl) ?_
  refine lv_iload_n hx hb dL_known_5 rfl (lv_at hl 2 rfl) ?_
  refine lv_iload_n hx hb dL_known_6 rfl (lv_at hl 3 rfl) ?_
  rcases oX4_known l D d L σ A w L2 (fun z => hwB (hAB w z)) hl0 P F R hok x y z hz with ⟨ec, hT⟩ | ⟨ec, post_, hM, hpost⟩
  · rw [ec]
    refine hl_callT (As := [.int x, .int y, .int z]) (rest := [.int 0, .ref o]) (L2 := L2) ⟨hx, hb, hml, hown, hts⟩ hT wx_blind (fun U hU hW9 => ⟨⟨⟨by rw [hU]; exact hW, va_K.moved hW9.alike hK⟩, (hX.on hW9 hU va_S.rf).narrow hAB⟩, by rw [hU]; exact hV⟩) (cwV 3 hts gL_known_X4_known rfl rfl rfl (by decide +kernel) ⟨Nat.le_of_ble_eq_true rfl, Nat.le_of_ble_eq_true rfl⟩) hK hAB hV rfl hl.1 (Nat.le_of_ble_eq_true rfl) dL_known_7 ⟨Nat.le_of_ble_eq_true rfl, Nat.le_of_ble_eq_true rfl⟩ rfl (fun ce q9 H locs hW hq hS hce hcv hcl => ?_)
    have hP := rf_keep1 hP (fun z => hq o z hoA)
    refine vx_catch (name := "java/lang/IndexOutOfBoundsException") hown [] ⟨0, 12, 15, 20⟩ [] (by rw [htab]; rfl) (fun z hz => nomatch hz) (by decide) (by decide) (hts (.classLink RL 20 "java/lang/IndexOutOfBoundsException") (by decide +kernel)) (va_Nw.use rfl hX.2.2.2.1.1) hce hcv hcl ?_
    refine lv_astore (lv' := [(5, .ref q9), (0, .ref w), (1, .int x), (2, .int y), (3, .int z), (4, .ref o)]) hx hb dL_known_15 hl (by decide) rfl (fun ls hl => ?_)
    refine lv_iconst (v := 1) hx hb dL_known_17 (by decide) ?_
    exact W.iret (v := 1) hx hb hr (fun U9 ht hW9 => ⟨⟨1, f, rfl, ⟨rfl, fun z => absurd (show (1 : Int32) = 0 from z) (by decide)⟩, by show hs_W D d L _ A U9.heap ∧ va_P D vwCl _ U9.heap; rw [ht]; exact ⟨hW, hP⟩⟩, hS.F ht⟩) hS.2.2 dL_known_18
  · refine hl_call (As := [.int x, .int y, .int z]) (rest := [.int 0, .ref o]) ⟨hx, hb, hml, hown, hts⟩ hM (cwV 3 hts gL_known_X4_known rfl rfl rfl (by decide +kernel) ⟨Nat.le_of_ble_eq_true rfl, Nat.le_of_ble_eq_true rfl⟩) hK hX hW hAB hV rfl hl.1 (Nat.le_of_ble_eq_true rfl) dL_known_7 ⟨Nat.zero_le _, Nat.zero_le _⟩ rfl (fun r_ τ_ H locs hp hW hq hS => ?_)
    obtain ⟨e1, e2⟩ := hpost _ _ hp
    have hP := rf_keep1 hP (fun z => hq o z hoA)
    refine lv_i2l hx hb dL_known_10 rfl ?_
    refine hl_last hx hb hKL hP hoB hS dL_known_11 (fun H1 locs g hg0 hP oq hS => ?_)
    have hW := hW.kept (fun q _ h2 => oq q (fun z => hoA (by rw [← z]; exact h2)))
    refine lv_goto (tgt := 19) hx hb dL_known_12 (by decide) ?_
    refine lv_iconst (v := 0) hx hb dL_known_19 (by decide) ?_
    refine W.widen (k := 1) (n := 6) (Nat.le_of_ble_eq_true rfl) (Nat.le_of_ble_eq_true rfl) ?_
    exact W.iret (v := 0) hx hb hr (fun U9 ht hW9 => ⟨⟨0, g, rfl, ⟨ec.symm, fun _ => by rw [hg0, e1]⟩, by show hs_W D d L _ A U9.heap ∧ va_P D vwCl _ U9.heap; rw [ht, e2]; exact ⟨hW, hP⟩⟩, hS.F ht⟩) hS.2.2 dL_known_20
set_option maxHeartbeats 4000000 in
set_option maxRecDepth 100000 in
/-- the law: ofFigure -/
theorem hL_ofFigure (l : Launch) (D : va_G) (d : hs_Dm) (w : Nat) (L L2 : hs_Lo) (σ : hs_St) (A B : Nat → Prop) (o : Nat) (cL : ClassId) (f : Nat → Int64) (hwB : ¬ B w) (hAB : ∀ q, A q → B q) (hoB : B o) (hoA : ¬ A o) (hl0 : l.stackTraces = false) (P F R : Nat) (hok : hs_ok P F R σ) (x y : Int32) : hl_M l yL_ofFigure wsL_ofFigure D d w L L2 σ A B o cL f [.ref w, .int x, .int y, .ref o] (cl_ofFigure F σ x y) := by
  refine va_MetW (cc := cL_ofFigure) (maxL := 5) (ret := (some .int)) (hh := [(0, 10, 13, 20), (0, 10, 17, 13)]) (by decide) rfl ?_
  intro p e s m args below meth c s₁ B0 hml hv
  obtain ⟨rfl, hW, hK, hX, hV, hP, hKL, hN⟩ := hv
  have hx := B0.exec
  have hb := B0.bytes
  have hr := B0.returns
  have hts := atoms_spec (ws := wsL_ofFigure) B0.pre
  have hown : s.vm.findClass RL = some m.cls := findClass_of_methodNamed B0.named
  have hlocks := B0.notSynchronized
  have htab := vx_table (x := yL_ofFigure) B0 (hts (.codeWith yL_ofFigure cL_ofFigure 5 (some .int) [(0, 10, 13, 20), (0, 10, 17, 13)]) List.mem_cons_self)
  have hl := lv_entry ([.ref w, .int x, .int y, .ref o]) (n := 5) (Nat.le_of_ble_eq_true rfl)
  rw [lg_entry_eq]
  generalize (lg_sl ([.ref w, .int x, .int y, .ref o]) ++ List.replicate (5 - (lg_sl ([.ref w, .int x, .int y, .ref o])).length) Slot.unset).toArray = ls at hl ⊢
  have hl : lv_has ls 5 [(0, .ref w), (1, .int x), (2, .int y), (3, .ref o)] := hl
  refine lv_aload_n hx hb dL_ofFigure_0 rfl (lv_at hl 3 rfl) ?_
  refine lv_iconst (v := 0) hx hb dL_ofFigure_1 (by decide) ?_
  refine lv_aload_n hx hb dL_ofFigure_2 rfl (lv_at hl 0 rfl) ?_
  refine lv_iload_n hx hb dL_ofFigure_3 rfl (lv_at hl 1 rfl) ?_
  refine lv_iload_n hx hb dL_ofFigure_4 rfl (lv_at hl 2 rfl) ?_
  rcases oX4_ofFigure l D d L σ A w L2 (fun z => hwB (hAB w z)) hl0 P F R hok x y with ⟨ec, hT⟩ | ⟨ec, hT⟩ | ⟨ec, post_, hM, hpost⟩
  · rw [ec]
    refine hl_callT (As := [.int x, .int y]) (rest := [.int 0, .ref o]) (L2 := L2) ⟨hx, hb, hml, hown, hts⟩ hT wx_blind (fun U hU hW9 => ⟨⟨⟨by rw [hU]; exact hW, va_K.moved hW9.alike hK⟩, (hX.on hW9 hU va_S.rf).narrow hAB⟩, by rw [hU]; exact hV⟩) (cwV 2 hts gL_ofFigure_X4_ofFigure rfl rfl rfl (by decide +kernel) ⟨Nat.le_of_ble_eq_true rfl, Nat.le_of_ble_eq_true rfl⟩) hK hAB hV rfl hl.1 (Nat.le_of_ble_eq_true rfl) dL_ofFigure_5 ⟨Nat.le_of_ble_eq_true rfl, Nat.le_of_ble_eq_true rfl⟩ rfl (fun ce q9 H locs hW hq hS hce hcv hcl => ?_)
    have hP := rf_keep1 hP (fun z => hq o z hoA)
    refine vx_catch (name := "java/lang/IndexOutOfBoundsException") hown [] ⟨0, 10, 13, 20⟩ [⟨0, 10, 17, 13⟩] (by rw [htab]; rfl) (fun z hz => nomatch hz) (by decide) (by decide) (hts (.classLink RL 20 "java/lang/IndexOutOfBoundsException") (by decide +kernel)) (va_Nw.use rfl hX.2.2.2.1.1) hce hcv hcl ?_
    refine lv_astore (lv' := [(4, .ref q9), (0, .ref w), (1, .int x), (2, .int y), (3, .ref o)]) hx hb dL_ofFigure_13 hl (by decide) rfl (fun ls hl => ?_)
    refine lv_iconst (v := 1) hx hb dL_ofFigure_15 (by decide) ?_
    exact W.iret (v := 1) hx hb hr (fun U9 ht hW9 => ⟨⟨1, f, rfl, ⟨rfl, fun z => absurd (show (1 : Int32) = 0 from z) (by decide)⟩, by show hs_W D d L _ A U9.heap ∧ va_P D vwCl _ U9.heap; rw [ht]; exact ⟨hW, hP⟩⟩, hS.F ht⟩) hS.2.2 dL_ofFigure_16
  · rw [ec]
    refine hl_callT (As := [.int x, .int y]) (rest := [.int 0, .ref o]) (L2 := L2) ⟨hx, hb, hml, hown, hts⟩ hT wx_blind (fun U hU hW9 => ⟨⟨⟨by rw [hU]; exact hW, va_K.moved hW9.alike hK⟩, (hX.on hW9 hU va_S.rf).narrow hAB⟩, by rw [hU]; exact hV⟩) (cwV 2 hts gL_ofFigure_X4_ofFigure rfl rfl rfl (by decide +kernel) ⟨Nat.le_of_ble_eq_true rfl, Nat.le_of_ble_eq_true rfl⟩) hK hAB hV rfl hl.1 (Nat.le_of_ble_eq_true rfl) dL_ofFigure_5 ⟨Nat.le_of_ble_eq_true rfl, Nat.le_of_ble_eq_true rfl⟩ rfl (fun ce q9 H locs hW hq hS hce hcv hcl => ?_)
    have hP := rf_keep1 hP (fun z => hq o z hoA)
    refine vx_catch (name := "java/lang/IllegalArgumentException") hown [⟨0, 10, 13, 20⟩] ⟨0, 10, 17, 13⟩ [] (by rw [htab]; rfl) (fun z hz => by
      rcases List.mem_cons.mp hz with rfl | hz
      · exact Or.inr ⟨by decide, "java/lang/IndexOutOfBoundsException", hts (.classLink RL 20 "java/lang/IndexOutOfBoundsException") (by decide +kernel), hN.1⟩
      · exact absurd hz List.not_mem_nil) (by decide) (by decide) (hts (.classLink RL 13 "java/lang/IllegalArgumentException") (by decide +kernel)) (va_Nw.use rfl hX.2.2.2.1.2.1) hce hcv hcl ?_
    refine lv_astore (lv' := [(4, .ref q9), (0, .ref w), (1, .int x), (2, .int y), (3, .ref o)]) hx hb dL_ofFigure_17 hl (by decide) rfl (fun ls hl => ?_)
    refine lv_iconst (v := 2) hx hb dL_ofFigure_19 (by decide) ?_
    exact W.iret (v := 2) hx hb hr (fun U9 ht hW9 => ⟨⟨2, f, rfl, ⟨rfl, fun z => absurd (show (2 : Int32) = 0 from z) (by decide)⟩, by show hs_W D d L _ A U9.heap ∧ va_P D vwCl _ U9.heap; rw [ht]; exact ⟨hW, hP⟩⟩, hS.F ht⟩) hS.2.2 dL_ofFigure_20
  · refine hl_call (As := [.int x, .int y]) (rest := [.int 0, .ref o]) ⟨hx, hb, hml, hown, hts⟩ hM (cwV 2 hts gL_ofFigure_X4_ofFigure rfl rfl rfl (by decide +kernel) ⟨Nat.le_of_ble_eq_true rfl, Nat.le_of_ble_eq_true rfl⟩) hK hX hW hAB hV rfl hl.1 (Nat.le_of_ble_eq_true rfl) dL_ofFigure_5 ⟨Nat.zero_le _, Nat.zero_le _⟩ rfl (fun r_ τ_ H locs hp hW hq hS => ?_)
    obtain ⟨e1, e2⟩ := hpost _ _ hp
    have hP := rf_keep1 hP (fun z => hq o z hoA)
    refine lv_i2l hx hb dL_ofFigure_8 rfl ?_
    refine hl_last hx hb hKL hP hoB hS dL_ofFigure_9 (fun H1 locs g hg0 hP oq hS => ?_)
    have hW := hW.kept (fun q _ h2 => oq q (fun z => hoA (by rw [← z]; exact h2)))
    refine lv_goto (tgt := 21) hx hb dL_ofFigure_10 (by decide) ?_
    refine lv_iconst (v := 0) hx hb dL_ofFigure_21 (by decide) ?_
    refine W.widen (k := 1) (n := 6) (Nat.le_of_ble_eq_true rfl) (Nat.le_of_ble_eq_true rfl) ?_
    exact W.iret (v := 0) hx hb hr (fun U9 ht hW9 => ⟨⟨0, g, rfl, ⟨ec.symm, fun _ => by rw [hg0, e1]⟩, by show hs_W D d L _ A U9.heap ∧ va_P D vwCl _ U9.heap; rw [ht, e2]; exact ⟨hW, hP⟩⟩, hS.F ht⟩) hS.2.2 dL_ofFigure_22
set_option maxHeartbeats 4000000 in
set_option maxRecDepth 100000 in
/-- the law: ofRoom -/
theorem hL_ofRoom (l : Launch) (D : va_G) (d : hs_Dm) (w : Nat) (L L2 : hs_Lo) (σ : hs_St) (A B : Nat → Prop) (o : Nat) (cL : ClassId) (f : Nat → Int64) (hwB : ¬ B w) (hAB : ∀ q, A q → B q) (hoB : B o) (hoA : ¬ A o) (hl0 : l.stackTraces = false) (P F R : Nat) (hok : hs_ok P F R σ) (x y : Int32) : hl_M l yL_ofRoom wsL_ofRoom D d w L L2 σ A B o cL f [.ref w, .int x, .int y, .ref o] (cl_ofRoom F R σ x y) := by
  refine va_MetW (cc := cL_ofRoom) (maxL := 5) (ret := (some .int)) (hh := [(0, 10, 13, 20), (0, 10, 17, 13)]) (by decide) rfl ?_
  intro p e s m args below meth c s₁ B0 hml hv
  obtain ⟨rfl, hW, hK, hX, hV, hP, hKL, hN⟩ := hv
  have hx := B0.exec
  have hb := B0.bytes
  have hr := B0.returns
  have hts := atoms_spec (ws := wsL_ofRoom) B0.pre
  have hown : s.vm.findClass RL = some m.cls := findClass_of_methodNamed B0.named
  have hlocks := B0.notSynchronized
  have htab := vx_table (x := yL_ofRoom) B0 (hts (.codeWith yL_ofRoom cL_ofRoom 5 (some .int) [(0, 10, 13, 20), (0, 10, 17, 13)]) List.mem_cons_self)
  have hl := lv_entry ([.ref w, .int x, .int y, .ref o]) (n := 5) (Nat.le_of_ble_eq_true rfl)
  rw [lg_entry_eq]
  generalize (lg_sl ([.ref w, .int x, .int y, .ref o]) ++ List.replicate (5 - (lg_sl ([.ref w, .int x, .int y, .ref o])).length) Slot.unset).toArray = ls at hl ⊢
  have hl : lv_has ls 5 [(0, .ref w), (1, .int x), (2, .int y), (3, .ref o)] := hl
  refine lv_aload_n hx hb dL_ofRoom_0 rfl (lv_at hl 3 rfl) ?_
  refine lv_iconst (v := 0) hx hb dL_ofRoom_1 (by decide) ?_
  refine lv_aload_n hx hb dL_ofRoom_2 rfl (lv_at hl 0 rfl) ?_
  refine lv_iload_n hx hb dL_ofRoom_3 rfl (lv_at hl 1 rfl) ?_
  refine lv_iload_n hx hb dL_ofRoom_4 rfl (lv_at hl 2 rfl) ?_
  rcases oX4_ofRoom l D d L σ A w L2 (fun z => hwB (hAB w z)) hl0 P F R hok x y with ⟨ec, hT⟩ | ⟨ec, hT⟩ | ⟨ec, post_, hM, hpost⟩
  · rw [ec]
    refine hl_callT (As := [.int x, .int y]) (rest := [.int 0, .ref o]) (L2 := L2) ⟨hx, hb, hml, hown, hts⟩ hT wx_blind (fun U hU hW9 => ⟨⟨⟨by rw [hU]; exact hW, va_K.moved hW9.alike hK⟩, (hX.on hW9 hU va_S.rf).narrow hAB⟩, by rw [hU]; exact hV⟩) (cwV 2 hts gL_ofRoom_X4_ofRoom rfl rfl rfl (by decide +kernel) ⟨Nat.le_of_ble_eq_true rfl, Nat.le_of_ble_eq_true rfl⟩) hK hAB hV rfl hl.1 (Nat.le_of_ble_eq_true rfl) dL_ofRoom_5 ⟨Nat.le_of_ble_eq_true rfl, Nat.le_of_ble_eq_true rfl⟩ rfl (fun ce q9 H locs hW hq hS hce hcv hcl => ?_)
    have hP := rf_keep1 hP (fun z => hq o z hoA)
    refine vx_catch (name := "java/lang/IndexOutOfBoundsException") hown [] ⟨0, 10, 13, 20⟩ [⟨0, 10, 17, 13⟩] (by rw [htab]; rfl) (fun z hz => nomatch hz) (by decide) (by decide) (hts (.classLink RL 20 "java/lang/IndexOutOfBoundsException") (by decide +kernel)) (va_Nw.use rfl hX.2.2.2.1.1) hce hcv hcl ?_
    refine lv_astore (lv' := [(4, .ref q9), (0, .ref w), (1, .int x), (2, .int y), (3, .ref o)]) hx hb dL_ofRoom_13 hl (by decide) rfl (fun ls hl => ?_)
    refine lv_iconst (v := 1) hx hb dL_ofRoom_15 (by decide) ?_
    exact W.iret (v := 1) hx hb hr (fun U9 ht hW9 => ⟨⟨1, f, rfl, ⟨rfl, fun z => absurd (show (1 : Int32) = 0 from z) (by decide)⟩, by show hs_W D d L _ A U9.heap ∧ va_P D vwCl _ U9.heap; rw [ht]; exact ⟨hW, hP⟩⟩, hS.F ht⟩) hS.2.2 dL_ofRoom_16
  · rw [ec]
    refine hl_callT (As := [.int x, .int y]) (rest := [.int 0, .ref o]) (L2 := L2) ⟨hx, hb, hml, hown, hts⟩ hT wx_blind (fun U hU hW9 => ⟨⟨⟨by rw [hU]; exact hW, va_K.moved hW9.alike hK⟩, (hX.on hW9 hU va_S.rf).narrow hAB⟩, by rw [hU]; exact hV⟩) (cwV 2 hts gL_ofRoom_X4_ofRoom rfl rfl rfl (by decide +kernel) ⟨Nat.le_of_ble_eq_true rfl, Nat.le_of_ble_eq_true rfl⟩) hK hAB hV rfl hl.1 (Nat.le_of_ble_eq_true rfl) dL_ofRoom_5 ⟨Nat.le_of_ble_eq_true rfl, Nat.le_of_ble_eq_true rfl⟩ rfl (fun ce q9 H locs hW hq hS hce hcv hcl => ?_)
    have hP := rf_keep1 hP (fun z => hq o z hoA)
    refine vx_catch (name := "java/lang/IllegalArgumentException") hown [⟨0, 10, 13, 20⟩] ⟨0, 10, 17, 13⟩ [] (by rw [htab]; rfl) (fun z hz => by
      rcases List.mem_cons.mp hz with rfl | hz
      · exact Or.inr ⟨by decide, "java/lang/IndexOutOfBoundsException", hts (.classLink RL 20 "java/lang/IndexOutOfBoundsException") (by decide +kernel), hN.1⟩
      · exact absurd hz List.not_mem_nil) (by decide) (by decide) (hts (.classLink RL 13 "java/lang/IllegalArgumentException") (by decide +kernel)) (va_Nw.use rfl hX.2.2.2.1.2.1) hce hcv hcl ?_
    refine lv_astore (lv' := [(4, .ref q9), (0, .ref w), (1, .int x), (2, .int y), (3, .ref o)]) hx hb dL_ofRoom_17 hl (by decide) rfl (fun ls hl => ?_)
    refine lv_iconst (v := 2) hx hb dL_ofRoom_19 (by decide) ?_
    exact W.iret (v := 2) hx hb hr (fun U9 ht hW9 => ⟨⟨2, f, rfl, ⟨rfl, fun z => absurd (show (2 : Int32) = 0 from z) (by decide)⟩, by show hs_W D d L _ A U9.heap ∧ va_P D vwCl _ U9.heap; rw [ht]; exact ⟨hW, hP⟩⟩, hS.F ht⟩) hS.2.2 dL_ofRoom_20
  · refine hl_call (As := [.int x, .int y]) (rest := [.int 0, .ref o]) ⟨hx, hb, hml, hown, hts⟩ hM (cwV 2 hts gL_ofRoom_X4_ofRoom rfl rfl rfl (by decide +kernel) ⟨Nat.le_of_ble_eq_true rfl, Nat.le_of_ble_eq_true rfl⟩) hK hX hW hAB hV rfl hl.1 (Nat.le_of_ble_eq_true rfl) dL_ofRoom_5 ⟨Nat.zero_le _, Nat.zero_le _⟩ rfl (fun r_ τ_ H locs hp hW hq hS => ?_)
    obtain ⟨e1, e2⟩ := hpost _ _ hp
    have hP := rf_keep1 hP (fun z => hq o z hoA)
    refine lv_i2l hx hb dL_ofRoom_8 rfl ?_
    refine hl_last hx hb hKL hP hoB hS dL_ofRoom_9 (fun H1 locs g hg0 hP oq hS => ?_)
    have hW := hW.kept (fun q _ h2 => oq q (fun z => hoA (by rw [← z]; exact h2)))
    refine lv_goto (tgt := 21) hx hb dL_ofRoom_10 (by decide) ?_
    refine lv_iconst (v := 0) hx hb dL_ofRoom_21 (by decide) ?_
    refine W.widen (k := 1) (n := 6) (Nat.le_of_ble_eq_true rfl) (Nat.le_of_ble_eq_true rfl) ?_
    exact W.iret (v := 0) hx hb hr (fun U9 ht hW9 => ⟨⟨0, g, rfl, ⟨ec.symm, fun _ => by rw [hg0, e1]⟩, by show hs_W D d L _ A U9.heap ∧ va_P D vwCl _ U9.heap; rw [ht, e2]; exact ⟨hW, hP⟩⟩, hS.F ht⟩) hS.2.2 dL_ofRoom_22
set_option maxHeartbeats 4000000 in
set_option maxRecDepth 100000 in
/-- the law: many -/
theorem hL_many (l : Launch) (D : va_G) (d : hs_Dm) (w : Nat) (L L2 : hs_Lo) (σ : hs_St) (A B : Nat → Prop) (o : Nat) (cL : ClassId) (f : Nat → Int64) (hwB : ¬ B w) (hAB : ∀ q, A q → B q) (hoB : B o) (hoA : ¬ A o) (hl0 : l.stackTraces = false) (P F R : Nat) (hok : hs_ok P F R σ) (x : Int32) : hl_M l yL_many wsL_many D d w L L2 σ A B o cL f [.ref w, .int x, .ref o] (cl_many P F σ x) := by
  refine va_MetW (cc := cL_many) (maxL := 4) (ret := (some .int)) (hh := [(0, 9, 12, 13)]) (by decide) rfl ?_
  intro p e s m args below meth c s₁ B0 hml hv
  obtain ⟨rfl, hW, hK, hX, hV, hP, hKL, hN⟩ := hv
  have hx := B0.exec
  have hb := B0.bytes
  have hr := B0.returns
  have hts := atoms_spec (ws := wsL_many) B0.pre
  have hown : s.vm.findClass RL = some m.cls := findClass_of_methodNamed B0.named
  have hlocks := B0.notSynchronized
  have htab := vx_table (x := yL_many) B0 (hts (.codeWith yL_many cL_many 4 (some .int) [(0, 9, 12, 13)]) List.mem_cons_self)
  have hl := lv_entry ([.ref w, .int x, .ref o]) (n := 4) (Nat.le_of_ble_eq_true rfl)
  rw [lg_entry_eq]
  generalize (lg_sl ([.ref w, .int x, .ref o]) ++ List.replicate (4 - (lg_sl ([.ref w, .int x, .ref o])).length) Slot.unset).toArray = ls at hl ⊢
  have hl : lv_has ls 4 [(0, .ref w), (1, .int x), (2, .ref o)] := hl
  refine lv_aload_n hx hb dL_many_0 rfl (lv_at hl 2 rfl) ?_
  refine lv_iconst (v := 0) hx hb dL_many_1 (by decide) ?_
  refine lv_aload_n hx hb dL_many_2 rfl (lv_at hl 0 rfl) ?_
  refine lv_iload_n hx hb dL_many_3 rfl (lv_at hl 1 rfl) ?_
  rcases oX4_many l D d L σ A w L2 (fun z => hwB (hAB w z)) hl0 P F R hok x with ⟨ec, hT⟩ | ⟨ec, post_, hM, hpost⟩
  · rw [ec]
    refine hl_callT (As := [.int x]) (rest := [.int 0, .ref o]) (L2 := L2) ⟨hx, hb, hml, hown, hts⟩ hT wx_blind (fun U hU hW9 => ⟨⟨⟨by rw [hU]; exact hW, va_K.moved hW9.alike hK⟩, (hX.on hW9 hU va_S.rf).narrow hAB⟩, by rw [hU]; exact hV⟩) (cwV 1 hts gL_many_X4_many rfl rfl rfl (by decide +kernel) ⟨Nat.le_of_ble_eq_true rfl, Nat.le_of_ble_eq_true rfl⟩) hK hAB hV rfl hl.1 (Nat.le_of_ble_eq_true rfl) dL_many_4 ⟨Nat.le_of_ble_eq_true rfl, Nat.le_of_ble_eq_true rfl⟩ rfl (fun ce q9 H locs hW hq hS hce hcv hcl => ?_)
    have hP := rf_keep1 hP (fun z => hq o z hoA)
    refine vx_catch (name := "java/lang/IllegalArgumentException") hown [] ⟨0, 9, 12, 13⟩ [] (by rw [htab]; rfl) (fun z hz => nomatch hz) (by decide) (by decide) (hts (.classLink RL 13 "java/lang/IllegalArgumentException") (by decide +kernel)) (va_Nw.use rfl hX.2.2.2.1.2.1) hce hcv hcl ?_
    refine lv_astore_n (lv' := [(3, .ref q9), (0, .ref w), (1, .int x), (2, .ref o)]) hx hb dL_many_12 rfl hl (by decide) rfl (fun ls hl => ?_)
    refine lv_iconst (v := 1) hx hb dL_many_13 (by decide) ?_
    exact W.iret (v := 1) hx hb hr (fun U9 ht hW9 => ⟨⟨1, f, rfl, ⟨rfl, fun z => absurd (show (1 : Int32) = 0 from z) (by decide)⟩, by show hs_W D d L _ A U9.heap ∧ va_P D vwCl _ U9.heap; rw [ht]; exact ⟨hW, hP⟩⟩, hS.F ht⟩) hS.2.2 dL_many_14
  · refine hl_call (As := [.int x]) (rest := [.int 0, .ref o]) ⟨hx, hb, hml, hown, hts⟩ hM (cwV 1 hts gL_many_X4_many rfl rfl rfl (by decide +kernel) ⟨Nat.le_of_ble_eq_true rfl, Nat.le_of_ble_eq_true rfl⟩) hK hX hW hAB hV rfl hl.1 (Nat.le_of_ble_eq_true rfl) dL_many_4 ⟨Nat.zero_le _, Nat.zero_le _⟩ rfl (fun r_ τ_ H locs hp hW hq hS => ?_)
    obtain ⟨e1, e2⟩ := hpost _ _ hp
    have hP := rf_keep1 hP (fun z => hq o z hoA)
    refine lv_i2l hx hb dL_many_7 rfl ?_
    refine hl_last hx hb hKL hP hoB hS dL_many_8 (fun H1 locs g hg0 hP oq hS => ?_)
    have hW := hW.kept (fun q _ h2 => oq q (fun z => hoA (by rw [← z]; exact h2)))
    refine lv_goto (tgt := 15) hx hb dL_many_9 (by decide) ?_
    refine lv_iconst (v := 0) hx hb dL_many_15 (by decide) ?_
    refine W.widen (k := 1) (n := 6) (Nat.le_of_ble_eq_true rfl) (Nat.le_of_ble_eq_true rfl) ?_
    exact W.iret (v := 0) hx hb hr (fun U9 ht hW9 => ⟨⟨0, g, rfl, ⟨ec.symm, fun _ => by rw [hg0, e1]⟩, by show hs_W D d L _ A U9.heap ∧ va_P D vwCl _ U9.heap; rw [ht, e2]; exact ⟨hW, hP⟩⟩, hS.F ht⟩) hS.2.2 dL_many_16
set_option maxHeartbeats 4000000 in
set_option maxRecDepth 100000 in
/-- the law: wouldFame -/
theorem hL_wouldFame (l : Launch) (D : va_G) (d : hs_Dm) (w : Nat) (L L2 : hs_Lo) (σ : hs_St) (A B : Nat → Prop) (o : Nat) (cL : ClassId) (f : Nat → Int64) (hwB : ¬ B w) (hAB : ∀ q, A q → B q) (hoB : B o) (hoA : ¬ A o) (hl0 : l.stackTraces = false) (P F R : Nat) (hok : hs_ok P F R σ) (x y z : Int32) : hl_M l yL_wouldFame wsL_wouldFame D d w L L2 σ A B o cL f [.ref w, .int x, .int y, .int z, .ref o] (cl_wouldFame P σ x y z) := by
  refine va_MetW (cc := cL_wouldFame) (maxL := 6) (ret := (some .int)) (hh := [(0, 12, 15, 20), (0, 12, 19, 13)]) (by decide) rfl ?_
  intro p e s m args below meth c s₁ B0 hml hv
  obtain ⟨rfl, hW, hK, hX, hV, hP, hKL, hN⟩ := hv
  have hx := B0.exec
  have hb := B0.bytes
  have hr := B0.returns
  have hts := atoms_spec (ws := wsL_wouldFame) B0.pre
  have hown : s.vm.findClass RL = some m.cls := findClass_of_methodNamed B0.named
  have hlocks := B0.notSynchronized
  have htab := vx_table (x := yL_wouldFame) B0 (hts (.codeWith yL_wouldFame cL_wouldFame 6 (some .int) [(0, 12, 15, 20), (0, 12, 19, 13)]) List.mem_cons_self)
  have hl := lv_entry ([.ref w, .int x, .int y, .int z, .ref o]) (n := 6) (Nat.le_of_ble_eq_true rfl)
  rw [lg_entry_eq]
  generalize (lg_sl ([.ref w, .int x, .int y, .int z, .ref o]) ++ List.replicate (6 - (lg_sl ([.ref w, .int x, .int y, .int z, .ref o])).length) Slot.unset).toArray = ls at hl ⊢
  have hl : lv_has ls 6 [(0, .ref w), (1, .int x), (2, .int y), (3, .int z), (4, .ref o)] := hl
  refine lv_aload hx hb dL_wouldFame_0 (lv_at hl 4 rfl) ?_
  refine lv_iconst (v := 0) hx hb dL_wouldFame_2 (by decide) ?_
  refine lv_aload_n hx hb dL_wouldFame_3 rfl (lv_at hl 0 rfl) ?_
  refine lv_iload_n hx hb dL_wouldFame_4 rfl (lv_at hl 1 rfl) ?_
  refine lv_iload_n hx hb dL_wouldFame_5 rfl (lv_at hl 2 rfl) ?_
  refine lv_iload_n hx hb dL_wouldFame_6 rfl (lv_at hl 3 rfl) ?_
  rcases oX4_wouldFame l D d L σ A w L2 (fun z => hwB (hAB w z)) hl0 P F R hok x y z with ⟨ec, hT⟩ | ⟨ec, hT⟩ | ⟨ec, post_, hM, hpost⟩
  · rw [ec]
    refine hl_callT (As := [.int x, .int y, .int z]) (rest := [.int 0, .ref o]) (L2 := L2) ⟨hx, hb, hml, hown, hts⟩ hT wx_blind (fun U hU hW9 => ⟨⟨⟨by rw [hU]; exact hW, va_K.moved hW9.alike hK⟩, (hX.on hW9 hU va_S.rf).narrow hAB⟩, by rw [hU]; exact hV⟩) (cwV 3 hts gL_wouldFame_X4_wouldFame rfl rfl rfl (by decide +kernel) ⟨Nat.le_of_ble_eq_true rfl, Nat.le_of_ble_eq_true rfl⟩) hK hAB hV rfl hl.1 (Nat.le_of_ble_eq_true rfl) dL_wouldFame_7 ⟨Nat.le_of_ble_eq_true rfl, Nat.le_of_ble_eq_true rfl⟩ rfl (fun ce q9 H locs hW hq hS hce hcv hcl => ?_)
    have hP := rf_keep1 hP (fun z => hq o z hoA)
    refine vx_catch (name := "java/lang/IndexOutOfBoundsException") hown [] ⟨0, 12, 15, 20⟩ [⟨0, 12, 19, 13⟩] (by rw [htab]; rfl) (fun z hz => nomatch hz) (by decide) (by decide) (hts (.classLink RL 20 "java/lang/IndexOutOfBoundsException") (by decide +kernel)) (va_Nw.use rfl hX.2.2.2.1.1) hce hcv hcl ?_
    refine lv_astore (lv' := [(5, .ref q9), (0, .ref w), (1, .int x), (2, .int y), (3, .int z), (4, .ref o)]) hx hb dL_wouldFame_15 hl (by decide) rfl (fun ls hl => ?_)
    refine lv_iconst (v := 1) hx hb dL_wouldFame_17 (by decide) ?_
    exact W.iret (v := 1) hx hb hr (fun U9 ht hW9 => ⟨⟨1, f, rfl, ⟨rfl, fun z => absurd (show (1 : Int32) = 0 from z) (by decide)⟩, by show hs_W D d L _ A U9.heap ∧ va_P D vwCl _ U9.heap; rw [ht]; exact ⟨hW, hP⟩⟩, hS.F ht⟩) hS.2.2 dL_wouldFame_18
  · rw [ec]
    refine hl_callT (As := [.int x, .int y, .int z]) (rest := [.int 0, .ref o]) (L2 := L2) ⟨hx, hb, hml, hown, hts⟩ hT wx_blind (fun U hU hW9 => ⟨⟨⟨by rw [hU]; exact hW, va_K.moved hW9.alike hK⟩, (hX.on hW9 hU va_S.rf).narrow hAB⟩, by rw [hU]; exact hV⟩) (cwV 3 hts gL_wouldFame_X4_wouldFame rfl rfl rfl (by decide +kernel) ⟨Nat.le_of_ble_eq_true rfl, Nat.le_of_ble_eq_true rfl⟩) hK hAB hV rfl hl.1 (Nat.le_of_ble_eq_true rfl) dL_wouldFame_7 ⟨Nat.le_of_ble_eq_true rfl, Nat.le_of_ble_eq_true rfl⟩ rfl (fun ce q9 H locs hW hq hS hce hcv hcl => ?_)
    have hP := rf_keep1 hP (fun z => hq o z hoA)
    refine vx_catch (name := "java/lang/IllegalArgumentException") hown [⟨0, 12, 15, 20⟩] ⟨0, 12, 19, 13⟩ [] (by rw [htab]; rfl) (fun z hz => by
      rcases List.mem_cons.mp hz with rfl | hz
      · exact Or.inr ⟨by decide, "java/lang/IndexOutOfBoundsException", hts (.classLink RL 20 "java/lang/IndexOutOfBoundsException") (by decide +kernel), hN.1⟩
      · exact absurd hz List.not_mem_nil) (by decide) (by decide) (hts (.classLink RL 13 "java/lang/IllegalArgumentException") (by decide +kernel)) (va_Nw.use rfl hX.2.2.2.1.2.1) hce hcv hcl ?_
    refine lv_astore (lv' := [(5, .ref q9), (0, .ref w), (1, .int x), (2, .int y), (3, .int z), (4, .ref o)]) hx hb dL_wouldFame_19 hl (by decide) rfl (fun ls hl => ?_)
    refine lv_iconst (v := 2) hx hb dL_wouldFame_21 (by decide) ?_
    exact W.iret (v := 2) hx hb hr (fun U9 ht hW9 => ⟨⟨2, f, rfl, ⟨rfl, fun z => absurd (show (2 : Int32) = 0 from z) (by decide)⟩, by show hs_W D d L _ A U9.heap ∧ va_P D vwCl _ U9.heap; rw [ht]; exact ⟨hW, hP⟩⟩, hS.F ht⟩) hS.2.2 dL_wouldFame_22
  · refine hl_call (As := [.int x, .int y, .int z]) (rest := [.int 0, .ref o]) ⟨hx, hb, hml, hown, hts⟩ hM (cwV 3 hts gL_wouldFame_X4_wouldFame rfl rfl rfl (by decide +kernel) ⟨Nat.le_of_ble_eq_true rfl, Nat.le_of_ble_eq_true rfl⟩) hK hX hW hAB hV rfl hl.1 (Nat.le_of_ble_eq_true rfl) dL_wouldFame_7 ⟨Nat.zero_le _, Nat.zero_le _⟩ rfl (fun r_ τ_ H locs hp hW hq hS => ?_)
    obtain ⟨e1, e2⟩ := hpost _ _ hp
    have hP := rf_keep1 hP (fun z => hq o z hoA)
    refine lv_i2l hx hb dL_wouldFame_10 rfl ?_
    refine hl_last hx hb hKL hP hoB hS dL_wouldFame_11 (fun H1 locs g hg0 hP oq hS => ?_)
    have hW := hW.kept (fun q _ h2 => oq q (fun z => hoA (by rw [← z]; exact h2)))
    refine lv_goto (tgt := 23) hx hb dL_wouldFame_12 (by decide) ?_
    refine lv_iconst (v := 0) hx hb dL_wouldFame_23 (by decide) ?_
    refine W.widen (k := 1) (n := 6) (Nat.le_of_ble_eq_true rfl) (Nat.le_of_ble_eq_true rfl) ?_
    exact W.iret (v := 0) hx hb hr (fun U9 ht hW9 => ⟨⟨0, g, rfl, ⟨ec.symm, fun _ => by rw [hg0, e1]⟩, by show hs_W D d L _ A U9.heap ∧ va_P D vwCl _ U9.heap; rw [ht, e2]; exact ⟨hW, hP⟩⟩, hS.F ht⟩) hS.2.2 dL_wouldFame_24
set_option maxHeartbeats 4000000 in
set_option maxRecDepth 100000 in
/-- the law: readyIn -/
theorem hL_readyIn (l : Launch) (D : va_G) (d : hs_Dm) (w : Nat) (L L2 : hs_Lo) (σ : hs_St) (A B : Nat → Prop) (o : Nat) (cL : ClassId) (f : Nat → Int64) (hwB : ¬ B w) (hAB : ∀ q, A q → B q) (hoB : B o) (hoA : ¬ A o) (hl0 : l.stackTraces = false) (P F R : Nat) (hok : hs_ok P F R σ) (x : Int32) : hl_M l yL_readyIn wsL_readyIn D d w L L2 σ A B o cL f [.ref w, .int x, .ref o] (cl_readyIn F σ x) := by
  refine va_MetW (cc := cL_readyIn) (maxL := 4) (ret := (some .int)) (hh := [(0, 9, 12, 20)]) (by decide) rfl ?_
  intro p e s m args below meth c s₁ B0 hml hv
  obtain ⟨rfl, hW, hK, hX, hV, hP, hKL, hN⟩ := hv
  have hx := B0.exec
  have hb := B0.bytes
  have hr := B0.returns
  have hts := atoms_spec (ws := wsL_readyIn) B0.pre
  have hown : s.vm.findClass RL = some m.cls := findClass_of_methodNamed B0.named
  have hlocks := B0.notSynchronized
  have htab := vx_table (x := yL_readyIn) B0 (hts (.codeWith yL_readyIn cL_readyIn 4 (some .int) [(0, 9, 12, 20)]) List.mem_cons_self)
  have hl := lv_entry ([.ref w, .int x, .ref o]) (n := 4) (Nat.le_of_ble_eq_true rfl)
  rw [lg_entry_eq]
  generalize (lg_sl ([.ref w, .int x, .ref o]) ++ List.replicate (4 - (lg_sl ([.ref w, .int x, .ref o])).length) Slot.unset).toArray = ls at hl ⊢
  have hl : lv_has ls 4 [(0, .ref w), (1, .int x), (2, .ref o)] := hl
  refine lv_aload_n hx hb dL_readyIn_0 rfl (lv_at hl 2 rfl) ?_
  refine lv_iconst (v := 0) hx hb dL_readyIn_1 (by decide) ?_
  refine lv_aload_n hx hb dL_readyIn_2 rfl (lv_at hl 0 rfl) ?_
  refine lv_iload_n hx hb dL_readyIn_3 rfl (lv_at hl 1 rfl) ?_
  rcases oX4_readyIn l D d L σ A w L2 (fun z => hwB (hAB w z)) hl0 P F R hok x with ⟨ec, hT⟩ | ⟨ec, post_, hM, hpost⟩
  · rw [ec]
    refine hl_callT (As := [.int x]) (rest := [.int 0, .ref o]) (L2 := L2) ⟨hx, hb, hml, hown, hts⟩ hT wx_blind (fun U hU hW9 => ⟨⟨⟨by rw [hU]; exact hW, va_K.moved hW9.alike hK⟩, (hX.on hW9 hU va_S.rf).narrow hAB⟩, by rw [hU]; exact hV⟩) (cwV 1 hts gL_readyIn_X4_readyIn rfl rfl rfl (by decide +kernel) ⟨Nat.le_of_ble_eq_true rfl, Nat.le_of_ble_eq_true rfl⟩) hK hAB hV rfl hl.1 (Nat.le_of_ble_eq_true rfl) dL_readyIn_4 ⟨Nat.le_of_ble_eq_true rfl, Nat.le_of_ble_eq_true rfl⟩ rfl (fun ce q9 H locs hW hq hS hce hcv hcl => ?_)
    have hP := rf_keep1 hP (fun z => hq o z hoA)
    refine vx_catch (name := "java/lang/IndexOutOfBoundsException") hown [] ⟨0, 9, 12, 20⟩ [] (by rw [htab]; rfl) (fun z hz => nomatch hz) (by decide) (by decide) (hts (.classLink RL 20 "java/lang/IndexOutOfBoundsException") (by decide +kernel)) (va_Nw.use rfl hX.2.2.2.1.1) hce hcv hcl ?_
    refine lv_astore_n (lv' := [(3, .ref q9), (0, .ref w), (1, .int x), (2, .ref o)]) hx hb dL_readyIn_12 rfl hl (by decide) rfl (fun ls hl => ?_)
    refine lv_iconst (v := 1) hx hb dL_readyIn_13 (by decide) ?_
    exact W.iret (v := 1) hx hb hr (fun U9 ht hW9 => ⟨⟨1, f, rfl, ⟨rfl, fun z => absurd (show (1 : Int32) = 0 from z) (by decide)⟩, by show hs_W D d L _ A U9.heap ∧ va_P D vwCl _ U9.heap; rw [ht]; exact ⟨hW, hP⟩⟩, hS.F ht⟩) hS.2.2 dL_readyIn_14
  · refine hl_call (As := [.int x]) (rest := [.int 0, .ref o]) ⟨hx, hb, hml, hown, hts⟩ hM (cwV 1 hts gL_readyIn_X4_readyIn rfl rfl rfl (by decide +kernel) ⟨Nat.le_of_ble_eq_true rfl, Nat.le_of_ble_eq_true rfl⟩) hK hX hW hAB hV rfl hl.1 (Nat.le_of_ble_eq_true rfl) dL_readyIn_4 ⟨Nat.zero_le _, Nat.zero_le _⟩ rfl (fun r_ τ_ H locs hp hW hq hS => ?_)
    obtain ⟨e1, e2⟩ := hpost _ _ hp
    have hP := rf_keep1 hP (fun z => hq o z hoA)
    refine lv_i2l hx hb dL_readyIn_7 rfl ?_
    refine hl_last hx hb hKL hP hoB hS dL_readyIn_8 (fun H1 locs g hg0 hP oq hS => ?_)
    have hW := hW.kept (fun q _ h2 => oq q (fun z => hoA (by rw [← z]; exact h2)))
    refine lv_goto (tgt := 15) hx hb dL_readyIn_9 (by decide) ?_
    refine lv_iconst (v := 0) hx hb dL_readyIn_15 (by decide) ?_
    refine W.widen (k := 1) (n := 6) (Nat.le_of_ble_eq_true rfl) (Nat.le_of_ble_eq_true rfl) ?_
    exact W.iret (v := 0) hx hb hr (fun U9 ht hW9 => ⟨⟨0, g, rfl, ⟨ec.symm, fun _ => by rw [hg0, e1]⟩, by show hs_W D d L _ A U9.heap ∧ va_P D vwCl _ U9.heap; rw [ht, e2]; exact ⟨hW, hP⟩⟩, hS.F ht⟩) hS.2.2 dL_readyIn_16
set_option maxHeartbeats 4000000 in
set_option maxRecDepth 100000 in
/-- the law: meltsIn -/
theorem hL_meltsIn (l : Launch) (D : va_G) (d : hs_Dm) (w : Nat) (L L2 : hs_Lo) (σ : hs_St) (A B : Nat → Prop) (o : Nat) (cL : ClassId) (f : Nat → Int64) (hwB : ¬ B w) (hAB : ∀ q, A q → B q) (hoB : B o) (hoA : ¬ A o) (hl0 : l.stackTraces = false) (P F R : Nat) (hok : hs_ok P F R σ) (σ2 : hs_St) (A2 : Nat → Prop) (hdis : ∀ q, A2 q → ¬ A q) (hAB2 : ∀ q, A2 q → B q) (hoA2 : ¬ A2 o) (htr : tr_ok R σ2) (hliv : ∀ f, f < F → (σ 9 f 0).toNatClampNeg < P ∧ (σ 9 f 1).toNatClampNeg < P) (hcb : ∀ q, q < 10 → σ 4 q 5 = 0 ∨ σ 4 q 5 = 1) (x y z : Int32) : hl_M2 l yL_meltsIn wsL_meltsIn D d w L L2 σ σ2 A A2 B o cL f R [.ref w, .int x, .int y, .int z, .ref o] (cl_meltsIn P F R σ σ2 x y z) := by
  refine va_MetW (cc := cL_meltsIn) (maxL := 6) (ret := (some .int)) (hh := [(0, 12, 15, 20), (0, 12, 19, 13)]) (by decide) rfl ?_
  intro p e s m args below meth c s₁ B0 hml hv
  obtain ⟨rfl, ⟨hW, hK, hX, hV, hP, hKL, hN⟩, hW2⟩ := hv
  have hx := B0.exec
  have hb := B0.bytes
  have hr := B0.returns
  have hts := atoms_spec (ws := wsL_meltsIn) B0.pre
  have hown : s.vm.findClass RL = some m.cls := findClass_of_methodNamed B0.named
  have hlocks := B0.notSynchronized
  have htab := vx_table (x := yL_meltsIn) B0 (hts (.codeWith yL_meltsIn cL_meltsIn 6 (some .int) [(0, 12, 15, 20), (0, 12, 19, 13)]) List.mem_cons_self)
  have hl := lv_entry ([.ref w, .int x, .int y, .int z, .ref o]) (n := 6) (Nat.le_of_ble_eq_true rfl)
  rw [lg_entry_eq]
  generalize (lg_sl ([.ref w, .int x, .int y, .int z, .ref o]) ++ List.replicate (6 - (lg_sl ([.ref w, .int x, .int y, .int z, .ref o])).length) Slot.unset).toArray = ls at hl ⊢
  have hl : lv_has ls 6 [(0, .ref w), (1, .int x), (2, .int y), (3, .int z), (4, .ref o)] := hl
  refine lv_aload hx hb dL_meltsIn_0 (lv_at hl 4 rfl) ?_
  refine lv_iconst (v := 0) hx hb dL_meltsIn_2 (by decide) ?_
  refine lv_aload_n hx hb dL_meltsIn_3 rfl (lv_at hl 0 rfl) ?_
  refine lv_iload_n hx hb dL_meltsIn_4 rfl (lv_at hl 1 rfl) ?_
  refine lv_iload_n hx hb dL_meltsIn_5 rfl (lv_at hl 2 rfl) ?_
  refine lv_iload_n hx hb dL_meltsIn_6 rfl (lv_at hl 3 rfl) ?_
  obtain ⟨P2, F2, R2, hok2, hR2⟩ := id htr
  rcases oX4_meltsIn l D d L σ A w L2 A2 hdis (fun z => hwB (z.elim (hAB w) (hAB2 w))) hl0 P F R hok σ2 hliv hcb hok2 hR2 x y z with ⟨ec, hT⟩ | ⟨ec, hT⟩ | ⟨ec, ec2, post_, hM, hpost⟩
  · rw [ec]
    refine hl_callT (As := [.int x, .int y, .int z]) (rest := [.int 0, .ref o]) (L2 := L2) ⟨hx, hb, hml, hown, hts⟩ hT wx_blind (fun U hU hW9 => ⟨⟨⟨by rw [hU]; exact hW, va_K.moved hW9.alike hK⟩, (hX.on hW9 hU va_S.rf).narrow hAB⟩, by rw [hU]; exact hV⟩) (cwV 3 hts gL_meltsIn_X4_meltsIn rfl rfl rfl (by decide +kernel) ⟨Nat.le_of_ble_eq_true rfl, Nat.le_of_ble_eq_true rfl⟩) hK hAB hV rfl hl.1 (Nat.le_of_ble_eq_true rfl) dL_meltsIn_7 ⟨Nat.le_of_ble_eq_true rfl, Nat.le_of_ble_eq_true rfl⟩ rfl (fun ce q9 H locs hW hq hS hce hcv hcl => ?_)
    have hP := rf_keep1 hP (fun z => hq o z hoA)
    have hW2 := hW2.kept (fun q h1 h2 => hq q h1 (hdis q h2))
    refine vx_catch (name := "java/lang/IndexOutOfBoundsException") hown [] ⟨0, 12, 15, 20⟩ [⟨0, 12, 19, 13⟩] (by rw [htab]; rfl) (fun z hz => nomatch hz) (by decide) (by decide) (hts (.classLink RL 20 "java/lang/IndexOutOfBoundsException") (by decide +kernel)) (va_Nw.use rfl hX.2.2.2.1.1) hce hcv hcl ?_
    refine lv_astore (lv' := [(5, .ref q9), (0, .ref w), (1, .int x), (2, .int y), (3, .int z), (4, .ref o)]) hx hb dL_meltsIn_15 hl (by decide) rfl (fun ls hl => ?_)
    refine lv_iconst (v := 1) hx hb dL_meltsIn_17 (by decide) ?_
    exact W.iret (v := 1) hx hb hr (fun U9 ht hW9 => ⟨⟨1, (f, σ2), rfl, ⟨rfl, fun z => absurd (show (1 : Int32) = 0 from z) (by decide), htr⟩, by show hs_W D d L _ A U9.heap ∧ va_P D vwCl _ U9.heap ∧ hs_W D d L2 _ A2 U9.heap; rw [ht]; exact ⟨hW, hP, hW2⟩⟩, hS.F ht⟩) hS.2.2 dL_meltsIn_18
  · rw [ec]
    refine hl_callT (As := [.int x, .int y, .int z]) (rest := [.int 0, .ref o]) (L2 := L2) ⟨hx, hb, hml, hown, hts⟩ hT wx_blind (fun U hU hW9 => ⟨⟨⟨by rw [hU]; exact hW, va_K.moved hW9.alike hK⟩, (hX.on hW9 hU va_S.rf).narrow hAB⟩, by rw [hU]; exact hV⟩) (cwV 3 hts gL_meltsIn_X4_meltsIn rfl rfl rfl (by decide +kernel) ⟨Nat.le_of_ble_eq_true rfl, Nat.le_of_ble_eq_true rfl⟩) hK hAB hV rfl hl.1 (Nat.le_of_ble_eq_true rfl) dL_meltsIn_7 ⟨Nat.le_of_ble_eq_true rfl, Nat.le_of_ble_eq_true rfl⟩ rfl (fun ce q9 H locs hW hq hS hce hcv hcl => ?_)
    have hP := rf_keep1 hP (fun z => hq o z hoA)
    have hW2 := hW2.kept (fun q h1 h2 => hq q h1 (hdis q h2))
    refine vx_catch (name := "java/lang/IllegalArgumentException") hown [⟨0, 12, 15, 20⟩] ⟨0, 12, 19, 13⟩ [] (by rw [htab]; rfl) (fun z hz => by
      rcases List.mem_cons.mp hz with rfl | hz
      · exact Or.inr ⟨by decide, "java/lang/IndexOutOfBoundsException", hts (.classLink RL 20 "java/lang/IndexOutOfBoundsException") (by decide +kernel), hN.1⟩
      · exact absurd hz List.not_mem_nil) (by decide) (by decide) (hts (.classLink RL 13 "java/lang/IllegalArgumentException") (by decide +kernel)) (va_Nw.use rfl hX.2.2.2.1.2.1) hce hcv hcl ?_
    refine lv_astore (lv' := [(5, .ref q9), (0, .ref w), (1, .int x), (2, .int y), (3, .int z), (4, .ref o)]) hx hb dL_meltsIn_19 hl (by decide) rfl (fun ls hl => ?_)
    refine lv_iconst (v := 2) hx hb dL_meltsIn_21 (by decide) ?_
    exact W.iret (v := 2) hx hb hr (fun U9 ht hW9 => ⟨⟨2, (f, σ2), rfl, ⟨rfl, fun z => absurd (show (2 : Int32) = 0 from z) (by decide), htr⟩, by show hs_W D d L _ A U9.heap ∧ va_P D vwCl _ U9.heap ∧ hs_W D d L2 _ A2 U9.heap; rw [ht]; exact ⟨hW, hP, hW2⟩⟩, hS.F ht⟩) hS.2.2 dL_meltsIn_22
  · refine hl_call2 (As := [.int x, .int y, .int z]) (rest := [.int 0, .ref o]) ⟨hx, hb, hml, hown, hts⟩ hM (cwV 3 hts gL_meltsIn_X4_meltsIn rfl rfl rfl (by decide +kernel) ⟨Nat.le_of_ble_eq_true rfl, Nat.le_of_ble_eq_true rfl⟩) hK hX hW hW2 (fun q z => z.elim (hAB q) (hAB2 q)) hV rfl hl.1 (Nat.le_of_ble_eq_true rfl) dL_meltsIn_7 ⟨Nat.zero_le _, Nat.zero_le _⟩ rfl (fun r_ τ_ H locs hp hW hW2 hq hS => ?_)
    obtain ⟨e1, f_, hf_, e2⟩ := hpost _ _ hp
    have hP := rf_keep1 hP (fun z => hq o z (fun y => y.elim hoA hoA2))
    have htr2 : tr_ok R τ_ := by rw [← e2]; exact sp_mIn_ok hok htr f_ y z
    refine lv_i2l hx hb dL_meltsIn_10 rfl ?_
    refine hl_last hx hb hKL hP hoB hS dL_meltsIn_11 (fun H1 locs g hg0 hP oq hS => ?_)
    have hW := hW.kept (fun q _ h2 => oq q (fun z => hoA (by rw [← z]; exact h2)))
    have hW2 := hW2.kept (fun q _ h2 => oq q (fun z => hoA2 (by rw [← z]; exact h2)))
    refine lv_goto (tgt := 23) hx hb dL_meltsIn_12 (by decide) ?_
    refine lv_iconst (v := 0) hx hb dL_meltsIn_23 (by decide) ?_
    refine W.widen (k := 1) (n := 6) (Nat.le_of_ble_eq_true rfl) (Nat.le_of_ble_eq_true rfl) ?_
    exact W.iret (v := 0) hx hb hr (fun U9 ht hW9 => ⟨⟨0, (g, τ_), rfl, ⟨ec.symm, fun _ => by rw [e1]; exact hg0, htr2⟩, by show hs_W D d L _ A U9.heap ∧ va_P D vwCl _ U9.heap ∧ hs_W D d L2 _ A2 U9.heap; rw [ht, ec2]; exact ⟨hW, hP, hW2⟩⟩, hS.F ht⟩) hS.2.2 dL_meltsIn_24
