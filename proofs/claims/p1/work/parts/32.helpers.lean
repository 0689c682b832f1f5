/-! THE LAW'S HELPERS, over a new house: what is thrown is caught there -/
set_option maxHeartbeats 4000000 in
set_option maxRecDepth 100000 in
/-- pay throws -/
theorem iX4_pay1 (l : Launch) (D : va_G) (d : hs_Dm) (L : hs_Lo) (σ : hs_St) (A : Nat → Prop) (w : Nat) (L2 : hs_Lo) (hwA : ¬ A w) (hl0 : l.stackTraces = false) (x : Int32) (h0 : x < 0 ∨ ¬ x < σ 0 0 3) : wx_T l yX4_pay wsX4_pay ({ frames := 8, cells := 1, slots := 6, locals := 150 }) D d w L L2 σ A [.ref w, .int x] "java/lang/IndexOutOfBoundsException" := by
  refine vx_ofW (cc := cX4_pay) (maxL := 4) (ret := (some .int)) (by decide) rfl ?_
  intro p e s m args below meth c s₁ B hml htb hv
  obtain ⟨rfl, ⟨⟨hW, hK⟩, hX⟩, hV⟩ := hv
  have hE := hX.1
  have hx := B.exec
  have hb := B.bytes
  have hr := B.returns
  have hts := atoms_spec (ws := wsX4_pay) B.pre
  have hown : s.vm.findClass RX4 = some m.cls := findClass_of_methodNamed B.named
  have hlocks := B.notSynchronized
  have hS : va_S A s.heap s.heap [] := va_S.rf
  have hW : hs_W D d L σ A s.heap := hW
  have hl := lv_entry ([.ref w, .int x]) (n := 4) (Nat.le_of_ble_eq_true rfl)
  rw [lg_entry_eq]
  generalize (lg_sl ([.ref w, .int x]) ++ List.replicate (4 - (lg_sl ([.ref w, .int x])).length) Slot.unset).toArray = ls at hl ⊢
  have hl : lv_has ls 4 [(0, .ref w), (1, .int x)] := hl
  refine lv_aload_n hx hb dX4_pay_0 rfl (lv_at hl 0 rfl) ?_
  refine va_get (D := D) (ci := cWx) (C := RX4) (T := TX4) (N := 2) (ws := [(w, .inr (cWx, [.ref (L 0 0), .ref (L2 0 0)]))]) (v := .ref (L 0 0)) hx hb hts (by decide +kernel) hown hK (wx_one hV hS hwA) 0 rfl rfl 0 (by decide) (hts (.fieldLink RX4 10 "Waxrow" "house" "LWaxrow$House;") (by decide +kernel)) (fun _ h9 => h9) rfl dX4_pay_1 ?_
  refine lv_iload_n hx hb dX4_pay_4 rfl (lv_at hl 1 rfl) ?_
  exact hx_callT (As := [.int x]) ⟨hx, hb, hml, hown, hts⟩ (tX1_personAt l D d L σ A hl0 x h0) (cwV 1 hts gX4_pay_X1_personAt rfl rfl rfl (by decide +kernel) ⟨Nat.le_of_ble_eq_true rfl, Nat.le_of_ble_eq_true rfl⟩) hK hX hW hS hs_ix0 (ci := cHo) (r := (RX1, TX1, 11)) rfl rfl rfl rfl hl.1 (Nat.le_of_ble_eq_true rfl) dX4_pay_5 ⟨Nat.le_of_ble_eq_true rfl, Nat.le_of_ble_eq_true rfl⟩ rfl (fun ce q9 H1 locs1 hW hS hce hcv hcl => hx_out htb hlocks hK hW hS hce hcv hcl (by decide) (by decide))
set_option maxHeartbeats 4000000 in
set_option maxRecDepth 100000 in
/-- mend throws -/
theorem iX4_mend1 (l : Launch) (D : va_G) (d : hs_Dm) (L : hs_Lo) (σ : hs_St) (A : Nat → Prop) (w : Nat) (L2 : hs_Lo) (hwA : ¬ A w) (hl0 : l.stackTraces = false) (x : Int32) (h0 : x < 0 ∨ ¬ x < σ 0 0 4) : wx_T l yX4_mend wsX4_mend ({ frames := 8, cells := 1, slots := 6, locals := 150 }) D d w L L2 σ A [.ref w, .int x] "java/lang/IndexOutOfBoundsException" := by
  refine vx_ofW (cc := cX4_mend) (maxL := 4) (ret := (some .int)) (by decide) rfl ?_
  intro p e s m args below meth c s₁ B hml htb hv
  obtain ⟨rfl, ⟨⟨hW, hK⟩, hX⟩, hV⟩ := hv
  have hE := hX.1
  have hx := B.exec
  have hb := B.bytes
  have hr := B.returns
  have hts := atoms_spec (ws := wsX4_mend) B.pre
  have hown : s.vm.findClass RX4 = some m.cls := findClass_of_methodNamed B.named
  have hlocks := B.notSynchronized
  have hS : va_S A s.heap s.heap [] := va_S.rf
  have hW : hs_W D d L σ A s.heap := hW
  have hl := lv_entry ([.ref w, .int x]) (n := 4) (Nat.le_of_ble_eq_true rfl)
  rw [lg_entry_eq]
  generalize (lg_sl ([.ref w, .int x]) ++ List.replicate (4 - (lg_sl ([.ref w, .int x])).length) Slot.unset).toArray = ls at hl ⊢
  have hl : lv_has ls 4 [(0, .ref w), (1, .int x)] := hl
  refine lv_aload_n hx hb dX4_mend_0 rfl (lv_at hl 0 rfl) ?_
  refine va_get (D := D) (ci := cWx) (C := RX4) (T := TX4) (N := 2) (ws := [(w, .inr (cWx, [.ref (L 0 0), .ref (L2 0 0)]))]) (v := .ref (L 0 0)) hx hb hts (by decide +kernel) hown hK (wx_one hV hS hwA) 0 rfl rfl 0 (by decide) (hts (.fieldLink RX4 10 "Waxrow" "house" "LWaxrow$House;") (by decide +kernel)) (fun _ h9 => h9) rfl dX4_mend_1 ?_
  refine lv_iload_n hx hb dX4_mend_4 rfl (lv_at hl 1 rfl) ?_
  exact hx_callT (As := [.int x]) ⟨hx, hb, hml, hown, hts⟩ (tX1_figureAt l D d L σ A hl0 x h0) (cwV 1 hts gX4_mend_X1_figureAt rfl rfl rfl (by decide +kernel) ⟨Nat.le_of_ble_eq_true rfl, Nat.le_of_ble_eq_true rfl⟩) hK hX hW hS hs_ix0 (ci := cHo) (r := (RX1, TX1, 11)) rfl rfl rfl rfl hl.1 (Nat.le_of_ble_eq_true rfl) dX4_mend_5 ⟨Nat.le_of_ble_eq_true rfl, Nat.le_of_ble_eq_true rfl⟩ rfl (fun ce q9 H1 locs1 hW hS hce hcv hcl => hx_out htb hlocks hK hW hS hce hcv hcl (by decide) (by decide))
def lh_C (D : va_G) (d : hs_Dm) (w : Nat) (L L2 : hs_Lo) (A A2 B : Nat → Prop) (o : Nat) (cL : ClassId) (f : Nat → Int64) (U : State) : Prop := hs_W D d L rc_s A U.heap ∧ hs_W D d L2 rc_s A2 U.heap ∧ va_K D vwCl (hs_ty d) U ∧ hx_E d.2.2.2.2 B U ∧ va_at D vwCl (w, .inr (cWx, [.ref (L 0 0), .ref (L2 0 0)])) U.heap ∧ va_P D vwCl [(o, .inl (cL, 1, .inr (.inl f)))] U.heap ∧ va_K D vwCl [(cL, .long)] U
theorem lh_blind {D : va_G} {d : hs_Dm} {w : Nat} {L L2 : hs_Lo} {A A2 B : Nat → Prop} {o : Nat} {cL : ClassId} {f : Nat → Int64} {av : List Value} : FrameBlind (va_Pc av (lh_C D d w L L2 A A2 B o cL f)) := fun a U g mk q => by
  obtain ⟨q0, q1, q2, q3, q4, q5, q6, q7⟩ := q
  refine ⟨q0, q1, q2, va_K.moved (u := U) (U := U.calling g mk a) (Vm.Alike.refl U.vm) q3, ?_, q5, q6, va_K.moved (u := U) (U := U.calling g mk a) (Vm.Alike.refl U.vm) q7⟩
  obtain ⟨⟨k1, k2, k3, k4, k5⟩, ⟨h1, h2⟩, ⟨h3, h4, h5⟩, ⟨h6, h7, h8⟩, ⟨⟨a1, g1⟩, ⟨a2, g2⟩, ⟨a3, g3⟩⟩⟩ := q4
  exact ⟨⟨va_Nw.same (u := U) (U := U.calling g mk a) rfl rfl k1, va_Nw.same (u := U) (U := U.calling g mk a) rfl rfl k2, va_Nw.same (u := U) (U := U.calling g mk a) rfl rfl k3, va_Z.moved (u := U) (U := U.calling g mk a) (Vm.Alike.refl U.vm) k4, va_T.moved (u := U) (U := U.calling g mk a) (Vm.Alike.refl U.vm) k5⟩, ⟨vx_Zq.moved (u := U) (U := U.calling g mk a) (Vm.Alike.refl U.vm) h1, vx_Zq.moved (u := U) (U := U.calling g mk a) (Vm.Alike.refl U.vm) h2⟩, ⟨va_Nw.same (u := U) (U := U.calling g mk a) rfl rfl h3, va_Nw.same (u := U) (U := U.calling g mk a) rfl rfl h4, va_Nw.same (u := U) (U := U.calling g mk a) rfl rfl h5⟩, ⟨va_Nw.same (u := U) (U := U.calling g mk a) rfl rfl h6, va_Nw.same (u := U) (U := U.calling g mk a) rfl rfl h7, va_Nw.same (u := U) (U := U.calling g mk a) rfl rfl h8⟩, ⟨⟨a1, vk_R.same (u := U) (U := U.calling g mk a) rfl g1⟩, ⟨a2, vk_R.same (u := U) (U := U.calling g mk a) rfl g2⟩, ⟨a3, vk_R.same (u := U) (U := U.calling g mk a) rfl g3⟩⟩⟩
abbrev lh_M (l : Launch) (y : MethodName) (ws : List Cond) (rm : Room) (D : va_G) (d : hs_Dm) (w : Nat) (L L2 : hs_Lo) (A A2 B : Nat → Prop) (o : Nat) (cL : ClassId) (f g : Nat → Int64) (av : List Value) (ans : Int32) (mc ms : Nat) : Prop := Met l y ws rm (va_Pc av (lh_C D d w L L2 A A2 B o cL f)) (va_Qi (fun r (_ : Unit) => r = ans) (fun _ t => va_P D vwCl [(o, .inl (cL, 1, .inr (.inl g)))] t.heap) B) mc ms B
theorem va_D1 {B : Nat → Prop} {a : Nat} {e : va_E} (h : B a) : va_D B [(a, e)] := ⟨fun i j p q h1 h2 _ => by
  have z1 : i < 1 := (List.getElem?_eq_some_iff.mp h1).1
  have z2 : j < 1 := (List.getElem?_eq_some_iff.mp h2).1
  omega, fun k q hk => by
  have hz : k < 1 := (List.getElem?_eq_some_iff.mp hk).1
  rw [show k = 0 by omega] at hk
  cases hk
  exact h⟩
section LHR
variable {p : Program} {l : Launch} {e : Env} {R : Room} {s : State} {m : MethodId} {args : Array Value} {below : List Frame} {meth : Method} {c : Code} {H : Heap} {locs : List Loc} {cells slots : Nat} {Q : State → Prop}
variable {cc : ByteArray} {pc : Nat} {ls : Array Slot} {rest : List Value} {D : va_G} {d : hs_Dm} {L L2 : hs_Lo} {σ : hs_St} {A B : Nat → Prop} {w : Nat} {H0 : Heap}
variable {y : MethodName} {bytes : ByteArray} {maxL nL n index : Nat} {ret : Option FieldType} {ws : List Cond} {rm : Room} {Ts : List Cond} {own X : String} {As st : List Value} {post : Int32 → hs_St → Prop}
theorem lh_call (S : CallFix p m c cc nL s args Ts own) (hM : wx_Mi l y ws rm D d w L L2 σ A (.ref w :: As) post) (cw : CallW R s args own RX4 index y bytes maxL ret ws rm 0 0 n) (hK : va_K D vwCl (hs_ty d) s) (hX : hx_E d.2.2.2.2 B s) (hW : hs_W D d L σ A s.heap) (hAB : ∀ q, A q → B q) (hV : va_at D vwCl (w, .inr (cWx, [.ref (L 0 0), .ref (L2 0 0)])) s.heap) (hn : As.length = n) (hsize : ls.size = nL) (hrest : (rest.map fun v => v.category).sum ≤ 8) (hdg : decode cc pc = .ok (.invokevirtual index, 3)) (hf : cells ≤ R.cells ∧ slots ≤ R.slots) (hst : st = As.reverse ++ .ref w :: rest)
    (kk : ∀ (r : Int32) (τ : hs_St) (H1 : Heap) (locs1 : List Loc), post r τ → (∀ q : Nat, q < s.heap.size → ¬ A q → H1[q]? = s.heap[q]?) → va_S B s.heap H1 locs1 → W p l e R s m args below meth c H1 locs1 cells slots Q (F0 m (pc + 3) ls (.int r :: rest))) : W p l e R s m args below meth c s.heap [] cells slots Q (F0 m pc ls st) := by
  subst hst
  have hVP : va_P D vwCl [(w, .inr (cWx, [.ref (L 0 0), .ref (L2 0 0)]))] s.heap := fun k q hk => by
    have hz : k < 1 := (List.getElem?_eq_some_iff.mp hk).1
    rw [show k = 0 by omega] at hk
    cases hk
    exact hV
  exact va_calli (va_runV S hM cw ⟨wx_blind, va_recv hK hVP (q0 := 0) (show vwCl[cWx]? = some (RX4, TX4, 2) from rfl) rfl, fun U hU hW9 => ⟨rfl, ⟨⟨by rw [hU]; exact hW, va_K.moved hW9.alike hK⟩, (hX.on hW9 hU va_S.rf).narrow hAB⟩, by rw [hU]; exact hV⟩⟩ rfl hn hsize rfl (lv_room hrest) hdg hf) (va_S.rf (A := B)) (fun q _ h => hAB q h) (fun q h => hAB q h) (fun r τ t H1 locs1 ht _ hp hB _ hq hS1 => kk r τ H1 locs1 hp hq hS1)
theorem lh_callT (S : CallFix p m c cc nL s args Ts own) (hM : wx_T l y ws rm D d w L L2 σ A (.ref w :: As) X) (cw : CallW R s args own RX4 index y bytes maxL ret ws rm 1 6 n) (hK : va_K D vwCl (hs_ty d) s) (hX : hx_E d.2.2.2.2 B s) (hW : hs_W D d L σ A s.heap) (hAB : ∀ q, A q → B q) (hV : va_at D vwCl (w, .inr (cWx, [.ref (L 0 0), .ref (L2 0 0)])) s.heap) (hn : As.length = n) (hsize : ls.size = nL) (hrest : (rest.map fun v => v.category).sum ≤ 8) (hdg : decode cc pc = .ok (.invokevirtual index, 3)) (hf : cells + 1 ≤ R.cells ∧ slots + 6 ≤ R.slots) (hst : st = As.reverse ++ .ref w :: rest)
    (kx : ∀ (ce : Cell) (q9 : Addr) (H1 : Heap) (locs1 : List Loc), (∀ q : Nat, q < s.heap.size → ¬ A q → H1[q]? = s.heap[q]?) → va_S B s.heap H1 locs1 → H1[q9]? = some ce → ce.vm = .none → s.vm.findClass X = some ce.cls → vx_W p l e R s m args below meth c H1 locs1 (cells + 1) (slots + 6) Q (F0 m pc ls rest) q9) : W p l e R s m args below meth c s.heap [] cells slots Q (F0 m pc ls st) := by
  subst hst
  have hVP : va_P D vwCl [(w, .inr (cWx, [.ref (L 0 0), .ref (L2 0 0)]))] s.heap := fun k q hk => by
    have hz : k < 1 := (List.getElem?_eq_some_iff.mp hk).1
    rw [show k = 0 by omega] at hk
    cases hk
    exact hV
  have hr := vx_runV (g := F0 m pc ls (As.reverse ++ .ref w :: rest)) (H := s.heap) (locs := []) (cells := cells) (slots := slots) (e := e) (below := below) (meth := meth) S hM cw ⟨wx_blind, va_recv hK hVP (q0 := 0) (show vwCl[cWx]? = some (RX4, TX4, 2) from rfl) rfl, fun U hU hW9 => ⟨rfl, ⟨⟨by rw [hU]; exact hW, va_K.moved hW9.alike hK⟩, (hX.on hW9 hU va_S.rf).narrow hAB⟩, by rw [hU]; exact hV⟩⟩ rfl hn hsize rfl (lv_room hrest) hdg hf
  intro T hT X0
  rcases hr T hT X0 with ⟨v, st₀, t, T', L9, h0, X', hL, e1, e2, hbad, st⟩ | ⟨q, st₀, t, T', L9, E, ce, h0, X', hL, e1, e2, ⟨u, hp, ⟨hE, hb⟩, hF⟩, hce, hcv, hcl, st⟩
  · exact hbad.elim
  · subst hE
    obtain ⟨k1, k2, k3⟩ := vx_keep (A0 := B) h0 e1 (va_S.rf (A := B)) (fun q _ h => hAB q h) (fun q h => hAB q h) hL hF
    obtain ⟨t2, a1, b1⟩ := kx ce q T'.heap L9 k2 k3 (by rw [e1]; exact hce) hcv hcl T' rfl X'
    exact ⟨t2, st.trans a1, b1⟩
end LHR
theorem lh_none (x : Int32) : x < 0 ∨ ¬ x < 0 := by
  by_cases h : x < 0
  · exact Or.inl h
  · exact Or.inr h
set_option maxHeartbeats 4000000 in
set_option maxRecDepth 100000 in
/-- the law: trend -/
theorem hT_trend (l : Launch) (D : va_G) (d : hs_Dm) (w : Nat) (L L2 : hs_Lo) (A A2 B : Nat → Prop) (o : Nat) (cL : ClassId) (f : Nat → Int64) (hwB : ¬ B w) (hAB : ∀ q, A q → B q) (hoB : B o) (hoA : ¬ A o) (hl0 : l.stackTraces = false) (x y z : Int32) : lh_M l yL_trend wsL_trend ({ frames := 10, cells := 1, slots := 6, locals := 260 }) D d w L L2 A A2 B o cL f f [.ref w, .int x, .int y, .int z, .ref o] 1 1 6 := by
  refine va_MetW (cc := cL_trend) (maxL := 6) (ret := (some .int)) (hh := [(0, 12, 15, 20), (0, 12, 19, 13)]) (by decide) rfl ?_
  intro p e s m args below meth c s₁ B0 hml hv
  obtain ⟨rfl, hW, hW2, hK, hX, hV, hP, hKL⟩ := hv
  have hx := B0.exec
  have hb := B0.bytes
  have hr := B0.returns
  have hts := atoms_spec (ws := wsL_trend) B0.pre
  have hown : s.vm.findClass RL = some m.cls := findClass_of_methodNamed B0.named
  have hlocks := B0.notSynchronized
  have htab := vx_table (x := yL_trend) B0 (hts (.codeWith yL_trend cL_trend 6 (some .int) [(0, 12, 15, 20), (0, 12, 19, 13)]) List.mem_cons_self)
  have hl := lv_entry ([.ref w, .int x, .int y, .int z, .ref o]) (n := 6) (Nat.le_of_ble_eq_true rfl)
  rw [lg_entry_eq]
  generalize (lg_sl ([.ref w, .int x, .int y, .int z, .ref o]) ++ List.replicate (6 - (lg_sl ([.ref w, .int x, .int y, .int z, .ref o])).length) Slot.unset).toArray = ls at hl ⊢
  have hl : lv_has ls 6 [(0, .ref w), (1, .int x), (2, .int y), (3, .int z), (4, .ref o)] := hl
  refine lv_aload hx hb dL_trend_0 (lv_at hl 4 rfl) ?_
  refine lv_iconst (v := 0) hx hb dL_trend_2 (by decide) ?_
  refine lv_aload_n hx hb dL_trend_3 rfl (lv_at hl 0 rfl) ?_
  refine lv_iload_n hx hb dL_trend_4 rfl (lv_at hl 1 rfl) ?_
  refine lv_iload_n hx hb dL_trend_5 rfl (lv_at hl 2 rfl) ?_
  refine lv_iload_n hx hb dL_trend_6 rfl (lv_at hl 3 rfl) ?_
  refine lh_callT (As := [.int x, .int y, .int z]) (rest := [.int 0, .ref o]) ⟨hx, hb, hml, hown, hts⟩ (iX4_trend l D d L rc_s A w L2 (fun z => hwB (hAB w z)) hl0 x (lh_none x) y z) (cwV 3 hts gL_trend_X4_trend rfl rfl rfl (by decide +kernel) ⟨Nat.le_of_ble_eq_true rfl, Nat.le_of_ble_eq_true rfl⟩) hK hX hW hAB hV rfl hl.1 (Nat.le_of_ble_eq_true rfl) dL_trend_7 ⟨Nat.le_of_ble_eq_true rfl, Nat.le_of_ble_eq_true rfl⟩ rfl (fun ce q9 H locs hq hS hce hcv hcl => ?_)
  have hP := rf_keep1 hP (fun z => hq o z hoA)
  refine vx_catch (name := "java/lang/IndexOutOfBoundsException") hown [] ⟨0, 12, 15, 20⟩ [⟨0, 12, 19, 13⟩] (by rw [htab]; rfl) (fun z hz => nomatch hz) (by decide) (by decide) (hts (.classLink RL 20 "java/lang/IndexOutOfBoundsException") (by decide +kernel)) (va_Nw.use rfl hX.2.2.2.1.1) hce hcv hcl ?_
  refine lv_astore (lv' := [(5, .ref q9), (0, .ref w), (1, .int x), (2, .int y), (3, .int z), (4, .ref o)]) hx hb dL_trend_15 hl (by decide) rfl (fun ls hl => ?_)
  refine lv_iconst (v := 1) hx hb dL_trend_17 (by decide) ?_
  exact W.iret (v := 1) hx hb hr (fun U9 ht hW9 => ⟨⟨1, (), rfl, rfl, by show va_P D vwCl _ U9.heap; rw [ht]; exact hP⟩, hS.F ht⟩) hS.2.2 dL_trend_18
set_option maxHeartbeats 4000000 in
set_option maxRecDepth 100000 in
/-- the law: news -/
theorem hT_news (l : Launch) (D : va_G) (d : hs_Dm) (w : Nat) (L L2 : hs_Lo) (A A2 B : Nat → Prop) (o : Nat) (cL : ClassId) (f : Nat → Int64) (hwB : ¬ B w) (hAB : ∀ q, A q → B q) (hoB : B o) (hoA : ¬ A o) (hl0 : l.stackTraces = false) (x y : Int32) : lh_M l yL_news wsL_news ({ frames := 10, cells := 1, slots := 6, locals := 260 }) D d w L L2 A A2 B o cL f f [.ref w, .int x, .int y, .ref o] 1 1 6 := by
  refine va_MetW (cc := cL_news) (maxL := 5) (ret := (some .int)) (hh := [(0, 10, 13, 20), (0, 10, 17, 13)]) (by decide) rfl ?_
  intro p e s m args below meth c s₁ B0 hml hv
  obtain ⟨rfl, hW, hW2, hK, hX, hV, hP, hKL⟩ := hv
  have hx := B0.exec
  have hb := B0.bytes
  have hr := B0.returns
  have hts := atoms_spec (ws := wsL_news) B0.pre
  have hown : s.vm.findClass RL = some m.cls := findClass_of_methodNamed B0.named
  have hlocks := B0.notSynchronized
  have htab := vx_table (x := yL_news) B0 (hts (.codeWith yL_news cL_news 5 (some .int) [(0, 10, 13, 20), (0, 10, 17, 13)]) List.mem_cons_self)
  have hl := lv_entry ([.ref w, .int x, .int y, .ref o]) (n := 5) (Nat.le_of_ble_eq_true rfl)
  rw [lg_entry_eq]
  generalize (lg_sl ([.ref w, .int x, .int y, .ref o]) ++ List.replicate (5 - (lg_sl ([.ref w, .int x, .int y, .ref o])).length) Slot.unset).toArray = ls at hl ⊢
  have hl : lv_has ls 5 [(0, .ref w), (1, .int x), (2, .int y), (3, .ref o)] := hl
  refine lv_aload_n hx hb dL_news_0 rfl (lv_at hl 3 rfl) ?_
  refine lv_iconst (v := 0) hx hb dL_news_1 (by decide) ?_
  refine lv_aload_n hx hb dL_news_2 rfl (lv_at hl 0 rfl) ?_
  refine lv_iload_n hx hb dL_news_3 rfl (lv_at hl 1 rfl) ?_
  refine lv_iload_n hx hb dL_news_4 rfl (lv_at hl 2 rfl) ?_
  refine lh_callT (As := [.int x, .int y]) (rest := [.int 0, .ref o]) ⟨hx, hb, hml, hown, hts⟩ (iX4_news l D d L rc_s A w L2 (fun z => hwB (hAB w z)) hl0 x (lh_none x) y) (cwV 2 hts gL_news_X4_news rfl rfl rfl (by decide +kernel) ⟨Nat.le_of_ble_eq_true rfl, Nat.le_of_ble_eq_true rfl⟩) hK hX hW hAB hV rfl hl.1 (Nat.le_of_ble_eq_true rfl) dL_news_5 ⟨Nat.le_of_ble_eq_true rfl, Nat.le_of_ble_eq_true rfl⟩ rfl (fun ce q9 H locs hq hS hce hcv hcl => ?_)
  have hP := rf_keep1 hP (fun z => hq o z hoA)
  refine vx_catch (name := "java/lang/IndexOutOfBoundsException") hown [] ⟨0, 10, 13, 20⟩ [⟨0, 10, 17, 13⟩] (by rw [htab]; rfl) (fun z hz => nomatch hz) (by decide) (by decide) (hts (.classLink RL 20 "java/lang/IndexOutOfBoundsException") (by decide +kernel)) (va_Nw.use rfl hX.2.2.2.1.1) hce hcv hcl ?_
  refine lv_astore (lv' := [(4, .ref q9), (0, .ref w), (1, .int x), (2, .int y), (3, .ref o)]) hx hb dL_news_13 hl (by decide) rfl (fun ls hl => ?_)
  refine lv_iconst (v := 1) hx hb dL_news_15 (by decide) ?_
  exact W.iret (v := 1) hx hb hr (fun U9 ht hW9 => ⟨⟨1, (), rfl, rfl, by show va_P D vwCl _ U9.heap; rw [ht]; exact hP⟩, hS.F ht⟩) hS.2.2 dL_news_16
set_option maxHeartbeats 4000000 in
set_option maxRecDepth 100000 in
/-- the law: consent -/
theorem hT_consent (l : Launch) (D : va_G) (d : hs_Dm) (w : Nat) (L L2 : hs_Lo) (A A2 B : Nat → Prop) (o : Nat) (cL : ClassId) (f : Nat → Int64) (hwB : ¬ B w) (hAB : ∀ q, A q → B q) (hoB : B o) (hoA : ¬ A o) (hl0 : l.stackTraces = false) (x y : Int32) : lh_M l yL_consent wsL_consent ({ frames := 10, cells := 1, slots := 6, locals := 260 }) D d w L L2 A A2 B o cL f f [.ref w, .int x, .int y, .ref o] 1 1 6 := by
  refine va_MetW (cc := cL_consent) (maxL := 5) (ret := (some .int)) (hh := [(0, 10, 13, 20)]) (by decide) rfl ?_
  intro p e s m args below meth c s₁ B0 hml hv
  obtain ⟨rfl, hW, hW2, hK, hX, hV, hP, hKL⟩ := hv
  have hx := B0.exec
  have hb := B0.bytes
  have hr := B0.returns
  have hts := atoms_spec (ws := wsL_consent) B0.pre
  have hown : s.vm.findClass RL = some m.cls := findClass_of_methodNamed B0.named
  have hlocks := B0.notSynchronized
  have htab := vx_table (x := yL_consent) B0 (hts (.codeWith yL_consent cL_consent 5 (some .int) [(0, 10, 13, 20)]) List.mem_cons_self)
  have hl := lv_entry ([.ref w, .int x, .int y, .ref o]) (n := 5) (Nat.le_of_ble_eq_true rfl)
  rw [lg_entry_eq]
  generalize (lg_sl ([.ref w, .int x, .int y, .ref o]) ++ List.replicate (5 - (lg_sl ([.ref w, .int x, .int y, .ref o])).length) Slot.unset).toArray = ls at hl ⊢
  have hl : lv_has ls 5 [(0, .ref w), (1, .int x), (2, .int y), (3, .ref o)] := hl
  refine lv_aload_n hx hb dL_consent_0 rfl (lv_at hl 3 rfl) ?_
  refine lv_iconst (v := 0) hx hb dL_consent_1 (by decide) ?_
  refine lv_aload_n hx hb dL_consent_2 rfl (lv_at hl 0 rfl) ?_
  refine lv_iload_n hx hb dL_consent_3 rfl (lv_at hl 1 rfl) ?_
  refine lv_iload_n hx hb dL_consent_4 rfl (lv_at hl 2 rfl) ?_
  refine lh_callT (As := [.int x, .int y]) (rest := [.int 0, .ref o]) ⟨hx, hb, hml, hown, hts⟩ (iX4_consent l D d L rc_s A w L2 (fun z => hwB (hAB w z)) hl0 x (lh_none x) y) (cwV 2 hts gL_consent_X4_consent rfl rfl rfl (by decide +kernel) ⟨Nat.le_of_ble_eq_true rfl, Nat.le_of_ble_eq_true rfl⟩) hK hX hW hAB hV rfl hl.1 (Nat.le_of_ble_eq_true rfl) dL_consent_5 ⟨Nat.le_of_ble_eq_true rfl, Nat.le_of_ble_eq_true rfl⟩ rfl (fun ce q9 H locs hq hS hce hcv hcl => ?_)
  have hP := rf_keep1 hP (fun z => hq o z hoA)
  refine vx_catch (name := "java/lang/IndexOutOfBoundsException") hown [] ⟨0, 10, 13, 20⟩ [] (by rw [htab]; rfl) (fun z hz => nomatch hz) (by decide) (by decide) (hts (.classLink RL 20 "java/lang/IndexOutOfBoundsException") (by decide +kernel)) (va_Nw.use rfl hX.2.2.2.1.1) hce hcv hcl ?_
  refine lv_astore (lv' := [(4, .ref q9), (0, .ref w), (1, .int x), (2, .int y), (3, .ref o)]) hx hb dL_consent_13 hl (by decide) rfl (fun ls hl => ?_)
  refine lv_iconst (v := 1) hx hb dL_consent_15 (by decide) ?_
  exact W.iret (v := 1) hx hb hr (fun U9 ht hW9 => ⟨⟨1, (), rfl, rfl, by show va_P D vwCl _ U9.heap; rw [ht]; exact hP⟩, hS.F ht⟩) hS.2.2 dL_consent_16
set_option maxHeartbeats 4000000 in
set_option maxRecDepth 100000 in
/-- the law: measure -/
theorem hT_measure (l : Launch) (D : va_G) (d : hs_Dm) (w : Nat) (L L2 : hs_Lo) (A A2 B : Nat → Prop) (o : Nat) (cL : ClassId) (f : Nat → Int64) (hwB : ¬ B w) (hAB : ∀ q, A q → B q) (hoB : B o) (hoA : ¬ A o) (hl0 : l.stackTraces = false) (x y z u : Int32) : lh_M l yL_measure wsL_measure ({ frames := 10, cells := 1, slots := 6, locals := 260 }) D d w L L2 A A2 B o cL f f [.ref w, .int x, .int y, .int z, .int u, .ref o] 1 1 6 := by
  refine va_MetW (cc := cL_measure) (maxL := 7) (ret := (some .int)) (hh := [(0, 14, 17, 20), (0, 14, 21, 13)]) (by decide) rfl ?_
  intro p e s m args below meth c s₁ B0 hml hv
  obtain ⟨rfl, hW, hW2, hK, hX, hV, hP, hKL⟩ := hv
  have hx := B0.exec
  have hb := B0.bytes
  have hr := B0.returns
  have hts := atoms_spec (ws := wsL_measure) B0.pre
  have hown : s.vm.findClass RL = some m.cls := findClass_of_methodNamed B0.named
  have hlocks := B0.notSynchronized
  have htab := vx_table (x := yL_measure) B0 (hts (.codeWith yL_measure cL_measure 7 (some .int) [(0, 14, 17, 20), (0, 14, 21, 13)]) List.mem_cons_self)
  have hl := lv_entry ([.ref w, .int x, .int y, .int z, .int u, .ref o]) (n := 7) (Nat.le_of_ble_eq_true rfl)
  rw [lg_entry_eq]
  generalize (lg_sl ([.ref w, .int x, .int y, .int z, .int u, .ref o]) ++ List.replicate (7 - (lg_sl ([.ref w, .int x, .int y, .int z, .int u, .ref o])).length) Slot.unset).toArray = ls at hl ⊢
  have hl : lv_has ls 7 [(0, .ref w), (1, .int x), (2, .int y), (3, .int z), (4, .int u), (5, .ref o)] := hl
  refine lv_aload hx hb dL_measure_0 (lv_at hl 5 rfl) ?_
  refine lv_iconst (v := 0) hx hb dL_measure_2 (by decide) ?_
  refine lv_aload_n hx hb dL_measure_3 rfl (lv_at hl 0 rfl) ?_
  refine lv_iload_n hx hb dL_measure_4 rfl (lv_at hl 1 rfl) ?_
  refine lv_iload_n hx hb dL_measure_5 rfl (lv_at hl 2 rfl) ?_
  refine lv_iload_n hx hb dL_measure_6 rfl (lv_at hl 3 rfl) ?_
  refine lv_iload hx hb dL_measure_7 (lv_at hl 4 rfl) ?_
  refine lh_callT (As := [.int x, .int y, .int z, .int u]) (rest := [.int 0, .ref o]) ⟨hx, hb, hml, hown, hts⟩ (iX4_measure l D d L rc_s A w L2 (fun z => hwB (hAB w z)) hl0 x (lh_none x) y z u) (cwV 4 hts gL_measure_X4_measure rfl rfl rfl (by decide +kernel) ⟨Nat.le_of_ble_eq_true rfl, Nat.le_of_ble_eq_true rfl⟩) hK hX hW hAB hV rfl hl.1 (Nat.le_of_ble_eq_true rfl) dL_measure_9 ⟨Nat.le_of_ble_eq_true rfl, Nat.le_of_ble_eq_true rfl⟩ rfl (fun ce q9 H locs hq hS hce hcv hcl => ?_)
  have hP := rf_keep1 hP (fun z => hq o z hoA)
  refine vx_catch (name := "java/lang/IndexOutOfBoundsException") hown [] ⟨0, 14, 17, 20⟩ [⟨0, 14, 21, 13⟩] (by rw [htab]; rfl) (fun z hz => nomatch hz) (by decide) (by decide) (hts (.classLink RL 20 "java/lang/IndexOutOfBoundsException") (by decide +kernel)) (va_Nw.use rfl hX.2.2.2.1.1) hce hcv hcl ?_
  refine lv_astore (lv' := [(6, .ref q9), (0, .ref w), (1, .int x), (2, .int y), (3, .int z), (4, .int u), (5, .ref o)]) hx hb dL_measure_17 hl (by decide) rfl (fun ls hl => ?_)
  refine lv_iconst (v := 1) hx hb dL_measure_19 (by decide) ?_
  exact W.iret (v := 1) hx hb hr (fun U9 ht hW9 => ⟨⟨1, (), rfl, rfl, by show va_P D vwCl _ U9.heap; rw [ht]; exact hP⟩, hS.F ht⟩) hS.2.2 dL_measure_20
set_option maxHeartbeats 4000000 in
set_option maxRecDepth 100000 in
/-- the law: pay -/
theorem hT_pay (l : Launch) (D : va_G) (d : hs_Dm) (w : Nat) (L L2 : hs_Lo) (A A2 B : Nat → Prop) (o : Nat) (cL : ClassId) (f : Nat → Int64) (hwB : ¬ B w) (hAB : ∀ q, A q → B q) (hoB : B o) (hoA : ¬ A o) (hl0 : l.stackTraces = false) (x : Int32) : lh_M l yL_pay wsL_pay ({ frames := 10, cells := 1, slots := 6, locals := 260 }) D d w L L2 A A2 B o cL f f [.ref w, .int x, .ref o] 1 1 6 := by
  refine va_MetW (cc := cL_pay) (maxL := 4) (ret := (some .int)) (hh := [(0, 9, 12, 20)]) (by decide) rfl ?_
  intro p e s m args below meth c s₁ B0 hml hv
  obtain ⟨rfl, hW, hW2, hK, hX, hV, hP, hKL⟩ := hv
  have hx := B0.exec
  have hb := B0.bytes
  have hr := B0.returns
  have hts := atoms_spec (ws := wsL_pay) B0.pre
  have hown : s.vm.findClass RL = some m.cls := findClass_of_methodNamed B0.named
  have hlocks := B0.notSynchronized
  have htab := vx_table (x := yL_pay) B0 (hts (.codeWith yL_pay cL_pay 4 (some .int) [(0, 9, 12, 20)]) List.mem_cons_self)
  have hl := lv_entry ([.ref w, .int x, .ref o]) (n := 4) (Nat.le_of_ble_eq_true rfl)
  rw [lg_entry_eq]
  generalize (lg_sl ([.ref w, .int x, .ref o]) ++ List.replicate (4 - (lg_sl ([.ref w, .int x, .ref o])).length) Slot.unset).toArray = ls at hl ⊢
  have hl : lv_has ls 4 [(0, .ref w), (1, .int x), (2, .ref o)] := hl
  refine lv_aload_n hx hb dL_pay_0 rfl (lv_at hl 2 rfl) ?_
  refine lv_iconst (v := 0) hx hb dL_pay_1 (by decide) ?_
  refine lv_aload_n hx hb dL_pay_2 rfl (lv_at hl 0 rfl) ?_
  refine lv_iload_n hx hb dL_pay_3 rfl (lv_at hl 1 rfl) ?_
  refine lh_callT (As := [.int x]) (rest := [.int 0, .ref o]) ⟨hx, hb, hml, hown, hts⟩ (iX4_pay1 l D d L rc_s A w L2 (fun z => hwB (hAB w z)) hl0 x (lh_none x)) (cwV 1 hts gL_pay_X4_pay rfl rfl rfl (by decide +kernel) ⟨Nat.le_of_ble_eq_true rfl, Nat.le_of_ble_eq_true rfl⟩) hK hX hW hAB hV rfl hl.1 (Nat.le_of_ble_eq_true rfl) dL_pay_4 ⟨Nat.le_of_ble_eq_true rfl, Nat.le_of_ble_eq_true rfl⟩ rfl (fun ce q9 H locs hq hS hce hcv hcl => ?_)
  have hP := rf_keep1 hP (fun z => hq o z hoA)
  refine vx_catch (name := "java/lang/IndexOutOfBoundsException") hown [] ⟨0, 9, 12, 20⟩ [] (by rw [htab]; rfl) (fun z hz => nomatch hz) (by decide) (by decide) (hts (.classLink RL 20 "java/lang/IndexOutOfBoundsException") (by decide +kernel)) (va_Nw.use rfl hX.2.2.2.1.1) hce hcv hcl ?_
  refine lv_astore_n (lv' := [(3, .ref q9), (0, .ref w), (1, .int x), (2, .ref o)]) hx hb dL_pay_12 rfl hl (by decide) rfl (fun ls hl => ?_)
  refine lv_iconst (v := 1) hx hb dL_pay_13 (by decide) ?_
  exact W.iret (v := 1) hx hb hr (fun U9 ht hW9 => ⟨⟨1, (), rfl, rfl, by show va_P D vwCl _ U9.heap; rw [ht]; exact hP⟩, hS.F ht⟩) hS.2.2 dL_pay_14
set_option maxHeartbeats 4000000 in
set_option maxRecDepth 100000 in
/-- the law: figure -/
theorem hT_figure (l : Launch) (D : va_G) (d : hs_Dm) (w : Nat) (L L2 : hs_Lo) (A A2 B : Nat → Prop) (o : Nat) (cL : ClassId) (f : Nat → Int64) (hwB : ¬ B w) (hAB : ∀ q, A q → B q) (hoB : B o) (hoA : ¬ A o) (hl0 : l.stackTraces = false) (x : Int32) : lh_M l yL_figure wsL_figure ({ frames := 10, cells := 1, slots := 6, locals := 260 }) D d w L L2 A A2 B o cL f f [.ref w, .int x, .ref o] 1 1 6 := by
  refine va_MetW (cc := cL_figure) (maxL := 4) (ret := (some .int)) (hh := [(0, 9, 12, 20), (0, 9, 15, 15)]) (by decide) rfl ?_
  intro p e s m args below meth c s₁ B0 hml hv
  obtain ⟨rfl, hW, hW2, hK, hX, hV, hP, hKL⟩ := hv
  have hx := B0.exec
  have hb := B0.bytes
  have hr := B0.returns
  have hts := atoms_spec (ws := wsL_figure) B0.pre
  have hown : s.vm.findClass RL = some m.cls := findClass_of_methodNamed B0.named
  have hlocks := B0.notSynchronized
  have htab := vx_table (x := yL_figure) B0 (hts (.codeWith yL_figure cL_figure 4 (some .int) [(0, 9, 12, 20), (0, 9, 15, 15)]) List.mem_cons_self)
  have hl := lv_entry ([.ref w, .int x, .ref o]) (n := 4) (Nat.le_of_ble_eq_true rfl)
  rw [lg_entry_eq]
  generalize (lg_sl ([.ref w, .int x, .ref o]) ++ List.replicate (4 - (lg_sl ([.ref w, .int x, .ref o])).length) Slot.unset).toArray = ls at hl ⊢
  have hl : lv_has ls 4 [(0, .ref w), (1, .int x), (2, .ref o)] := hl
  refine lv_aload_n hx hb dL_figure_0 rfl (lv_at hl 2 rfl) ?_
  refine lv_iconst (v := 0) hx hb dL_figure_1 (by decide) ?_
  refine lv_aload_n hx hb dL_figure_2 rfl (lv_at hl 0 rfl) ?_
  refine lv_iload_n hx hb dL_figure_3 rfl (lv_at hl 1 rfl) ?_
  refine lh_callT (As := [.int x]) (rest := [.int 0, .ref o]) ⟨hx, hb, hml, hown, hts⟩ (iX4_figure l D d L rc_s A w L2 (fun z => hwB (hAB w z)) hl0 x (lh_none x)) (cwV 1 hts gL_figure_X4_figure rfl rfl rfl (by decide +kernel) ⟨Nat.le_of_ble_eq_true rfl, Nat.le_of_ble_eq_true rfl⟩) hK hX hW hAB hV rfl hl.1 (Nat.le_of_ble_eq_true rfl) dL_figure_4 ⟨Nat.le_of_ble_eq_true rfl, Nat.le_of_ble_eq_true rfl⟩ rfl (fun ce q9 H locs hq hS hce hcv hcl => ?_)
  have hP := rf_keep1 hP (fun z => hq o z hoA)
  refine vx_catch (name := "java/lang/IndexOutOfBoundsException") hown [] ⟨0, 9, 12, 20⟩ [⟨0, 9, 15, 15⟩] (by rw [htab]; rfl) (fun z hz => nomatch hz) (by decide) (by decide) (hts (.classLink RL 20 "java/lang/IndexOutOfBoundsException") (by decide +kernel)) (va_Nw.use rfl hX.2.2.2.1.1) hce hcv hcl ?_
  refine lv_astore_n (lv' := [(3, .ref q9), (0, .ref w), (1, .int x), (2, .ref o)]) hx hb dL_figure_12 rfl hl (by decide) rfl (fun ls hl => ?_)
  refine lv_iconst (v := 1) hx hb dL_figure_13 (by decide) ?_
  exact W.iret (v := 1) hx hb hr (fun U9 ht hW9 => ⟨⟨1, (), rfl, rfl, by show va_P D vwCl _ U9.heap; rw [ht]; exact hP⟩, hS.F ht⟩) hS.2.2 dL_figure_14
set_option maxHeartbeats 4000000 in
set_option maxRecDepth 100000 in
/-- the law: ofPerson -/
theorem hT_ofPerson (l : Launch) (D : va_G) (d : hs_Dm) (w : Nat) (L L2 : hs_Lo) (A A2 B : Nat → Prop) (o : Nat) (cL : ClassId) (f : Nat → Int64) (hwB : ¬ B w) (hAB : ∀ q, A q → B q) (hoB : B o) (hoA : ¬ A o) (hl0 : l.stackTraces = false) (x y : Int32) : lh_M l yL_ofPerson wsL_ofPerson ({ frames := 10, cells := 1, slots := 6, locals := 260 }) D d w L L2 A A2 B o cL f f [.ref w, .int x, .int y, .ref o] 1 1 6 := by
  refine va_MetW (cc := cL_ofPerson) (maxL := 5) (ret := (some .int)) (hh := [(0, 10, 13, 20), (0, 10, 17, 13)]) (by decide) rfl ?_
  intro p e s m args below meth c s₁ B0 hml hv
  obtain ⟨rfl, hW, hW2, hK, hX, hV, hP, hKL⟩ := hv
  have hx := B0.exec
  have hb := B0.bytes
  have hr := B0.returns
  have hts := atoms_spec (ws := wsL_ofPerson) B0.pre
  have hown : s.vm.findClass RL = some m.cls := findClass_of_methodNamed B0.named
  have hlocks := B0.notSynchronized
  have htab := vx_table (x := yL_ofPerson) B0 (hts (.codeWith yL_ofPerson cL_ofPerson 5 (some .int) [(0, 10, 13, 20), (0, 10, 17, 13)]) List.mem_cons_self)
  have hl := lv_entry ([.ref w, .int x, .int y, .ref o]) (n := 5) (Nat.le_of_ble_eq_true rfl)
  rw [lg_entry_eq]
  generalize (lg_sl ([.ref w, .int x, .int y, .ref o]) ++ List.replicate (5 - (lg_sl ([.ref w, .int x, .int y, .ref o])).length) Slot.unset).toArray = ls at hl ⊢
  have hl : lv_has ls 5 [(0, .ref w), (1, .int x), (2, .int y), (3, .ref o)] := hl
  refine lv_aload_n hx hb dL_ofPerson_0 rfl (lv_at hl 3 rfl) ?_
  refine lv_iconst (v := 0) hx hb dL_ofPerson_1 (by decide) ?_
  refine lv_aload_n hx hb dL_ofPerson_2 rfl (lv_at hl 0 rfl) ?_
  refine lv_iload_n hx hb dL_ofPerson_3 rfl (lv_at hl 1 rfl) ?_
  refine lv_iload_n hx hb dL_ofPerson_4 rfl (lv_at hl 2 rfl) ?_
  refine lh_callT (As := [.int x, .int y]) (rest := [.int 0, .ref o]) ⟨hx, hb, hml, hown, hts⟩ (iX4_ofPerson l D d L rc_s A w L2 (fun z => hwB (hAB w z)) hl0 x (lh_none x) y) (cwV 2 hts gL_ofPerson_X4_ofPerson rfl rfl rfl (by decide +kernel) ⟨Nat.le_of_ble_eq_true rfl, Nat.le_of_ble_eq_true rfl⟩) hK hX hW hAB hV rfl hl.1 (Nat.le_of_ble_eq_true rfl) dL_ofPerson_5 ⟨Nat.le_of_ble_eq_true rfl, Nat.le_of_ble_eq_true rfl⟩ rfl (fun ce q9 H locs hq hS hce hcv hcl => ?_)
  have hP := rf_keep1 hP (fun z => hq o z hoA)
  refine vx_catch (name := "java/lang/IndexOutOfBoundsException") hown [] ⟨0, 10, 13, 20⟩ [⟨0, 10, 17, 13⟩] (by rw [htab]; rfl) (fun z hz => nomatch hz) (by decide) (by decide) (hts (.classLink RL 20 "java/lang/IndexOutOfBoundsException") (by decide +kernel)) (va_Nw.use rfl hX.2.2.2.1.1) hce hcv hcl ?_
  refine lv_astore (lv' := [(4, .ref q9), (0, .ref w), (1, .int x), (2, .int y), (3, .ref o)]) hx hb dL_ofPerson_13 hl (by decide) rfl (fun ls hl => ?_)
  refine lv_iconst (v := 1) hx hb dL_ofPerson_15 (by decide) ?_
  exact W.iret (v := 1) hx hb hr (fun U9 ht hW9 => ⟨⟨1, (), rfl, rfl, by show va_P D vwCl _ U9.heap; rw [ht]; exact hP⟩, hS.F ht⟩) hS.2.2 dL_ofPerson_16
set_option maxHeartbeats 4000000 in
set_option maxRecDepth 100000 in
/-- the law: known -/
theorem hT_known (l : Launch) (D : va_G) (d : hs_Dm) (w : Nat) (L L2 : hs_Lo) (A A2 B : Nat → Prop) (o : Nat) (cL : ClassId) (f : Nat → Int64) (hwB : ¬ B w) (hAB : ∀ q, A q → B q) (hoB : B o) (hoA : ¬ A o) (hl0 : l.stackTraces = false) (x y z : Int32) : lh_M l yL_known wsL_known ({ frames := 10, cells := 1, slots := 6, locals := 260 }) D d w L L2 A A2 B o cL f f [.ref w, .int x, .int y, .int z, .ref o] 1 1 6 := by
  refine va_MetW (cc := cL_known) (maxL := 6) (ret := (some .int)) (hh := [(0, 12, 15, 20)]) (by decide) rfl ?_
  intro p e s m args below meth c s₁ B0 hml hv
  obtain ⟨rfl, hW, hW2, hK, hX, hV, hP, hKL⟩ := hv
  have hx := B0.exec
  have hb := B0.bytes
  have hr := B0.returns
  have hts := atoms_spec (ws := wsL_known) B0.pre
  have hown : s.vm.findClass RL = some m.cls := findClass_of_methodNamed B0.named
  have hlocks := B0.notSynchronized
  have htab := vx_table (x := yL_known) B0 (hts (.codeWith yL_known cL_known 6 (some .int) [(0, 12, 15, 20)]) List.mem_cons_self)
  have hl := lv_entry ([.ref w, .int x, .int y, .int z, .ref o]) (n := 6) (Nat.le_of_ble_eq_true rfl)
  rw [lg_entry_eq]
  generalize (lg_sl ([.ref w, .int x, .int y, .int z, .ref o]) ++ List.replicate (6 - (lg_sl ([.ref w, .int x, .int y, .int z, .ref o])).length) Slot.unset).toArray = ls at hl ⊢
  have hl : lv_has ls 6 [(0, .ref w), (1, .int x), (2, .int y), (3, .int z), (4, .ref o)] := hl
  refine lv_aload hx hb dL_known_0 (lv_at hl 4 rfl) ?_
  refine lv_iconst (v := 0) hx hb dL_known_2 (by decide) ?_
  refine lv_aload_n hx hb dL_known_3 rfl (lv_at hl 0 rfl) ?_
  refine lv_iload_n hx hb dL_known_4 rfl (lv_at hl 1 rfl) ?_
  refine lv_iload_n hx hb dL_known_5 rfl (lv_at hl 2 rfl) ?_
  refine lv_iload_n hx hb dL_known_6 rfl (lv_at hl 3 rfl) ?_
  refine lh_callT (As := [.int x, .int y, .int z]) (rest := [.int 0, .ref o]) ⟨hx, hb, hml, hown, hts⟩ (iX4_known l D d L rc_s A w L2 (fun z => hwB (hAB w z)) hl0 x (lh_none x) y z) (cwV 3 hts gL_known_X4_known rfl rfl rfl (by decide +kernel) ⟨Nat.le_of_ble_eq_true rfl, Nat.le_of_ble_eq_true rfl⟩) hK hX hW hAB hV rfl hl.1 (Nat.le_of_ble_eq_true rfl) dL_known_7 ⟨Nat.le_of_ble_eq_true rfl, Nat.le_of_ble_eq_true rfl⟩ rfl (fun ce q9 H locs hq hS hce hcv hcl => ?_)
  have hP := rf_keep1 hP (fun z => hq o z hoA)
  refine vx_catch (name := "java/lang/IndexOutOfBoundsException") hown [] ⟨0, 12, 15, 20⟩ [] (by rw [htab]; rfl) (fun z hz => nomatch hz) (by decide) (by decide) (hts (.classLink RL 20 "java/lang/IndexOutOfBoundsException") (by decide +kernel)) (va_Nw.use rfl hX.2.2.2.1.1) hce hcv hcl ?_
  refine lv_astore (lv' := [(5, .ref q9), (0, .ref w), (1, .int x), (2, .int y), (3, .int z), (4, .ref o)]) hx hb dL_known_15 hl (by decide) rfl (fun ls hl => ?_)
  refine lv_iconst (v := 1) hx hb dL_known_17 (by decide) ?_
  exact W.iret (v := 1) hx hb hr (fun U9 ht hW9 => ⟨⟨1, (), rfl, rfl, by show va_P D vwCl _ U9.heap; rw [ht]; exact hP⟩, hS.F ht⟩) hS.2.2 dL_known_18
set_option maxHeartbeats 4000000 in
set_option maxRecDepth 100000 in
/-- the law: wouldFame -/
theorem hT_wouldFame (l : Launch) (D : va_G) (d : hs_Dm) (w : Nat) (L L2 : hs_Lo) (A A2 B : Nat → Prop) (o : Nat) (cL : ClassId) (f : Nat → Int64) (hwB : ¬ B w) (hAB : ∀ q, A q → B q) (hoB : B o) (hoA : ¬ A o) (hl0 : l.stackTraces = false) (x y z : Int32) : lh_M l yL_wouldFame wsL_wouldFame ({ frames := 10, cells := 1, slots := 6, locals := 260 }) D d w L L2 A A2 B o cL f f [.ref w, .int x, .int y, .int z, .ref o] 1 1 6 := by
  refine va_MetW (cc := cL_wouldFame) (maxL := 6) (ret := (some .int)) (hh := [(0, 12, 15, 20), (0, 12, 19, 13)]) (by decide) rfl ?_
  intro p e s m args below meth c s₁ B0 hml hv
  obtain ⟨rfl, hW, hW2, hK, hX, hV, hP, hKL⟩ := hv
  have hx := B0.exec
  have hb := B0.bytes
  have hr := B0.returns
  have hts := atoms_spec (ws := wsL_wouldFame) B0.pre
  have hown : s.vm.findClass RL = some m.cls := findClass_of_methodNamed B0.named
  have hlocks := B0.notSynchronized
  have htab := vx_table (x := yL_wouldFame) B0 (hts (.codeWith yL_wouldFame cL_wouldFame 6 (some .int) [(0, 12, 15, 20), (0, 12, 19, 13)]) List.mem_cons_self)
  have hl := lv_entry ([.ref w, .int x, .int y, .int z, .ref o]) (n := 6) (Nat.le_of_ble_eq_true rfl)
  rw [lg_entry_eq]
  generalize (lg_sl ([.ref w, .int x, .int y, .int z, .ref o]) ++ List.replicate (6 - (lg_sl ([.ref w, .int x, .int y, .int z, .ref o])).length) Slot.unset).toArray = ls at hl ⊢
  have hl : lv_has ls 6 [(0, .ref w), (1, .int x), (2, .int y), (3, .int z), (4, .ref o)] := hl
  refine lv_aload hx hb dL_wouldFame_0 (lv_at hl 4 rfl) ?_
  refine lv_iconst (v := 0) hx hb dL_wouldFame_2 (by decide) ?_
  refine lv_aload_n hx hb dL_wouldFame_3 rfl (lv_at hl 0 rfl) ?_
  refine lv_iload_n hx hb dL_wouldFame_4 rfl (lv_at hl 1 rfl) ?_
  refine lv_iload_n hx hb dL_wouldFame_5 rfl (lv_at hl 2 rfl) ?_
  refine lv_iload_n hx hb dL_wouldFame_6 rfl (lv_at hl 3 rfl) ?_
  refine lh_callT (As := [.int x, .int y, .int z]) (rest := [.int 0, .ref o]) ⟨hx, hb, hml, hown, hts⟩ (iX4_wouldFame l D d L rc_s A w L2 (fun z => hwB (hAB w z)) hl0 x (lh_none x) y z) (cwV 3 hts gL_wouldFame_X4_wouldFame rfl rfl rfl (by decide +kernel) ⟨Nat.le_of_ble_eq_true rfl, Nat.le_of_ble_eq_true rfl⟩) hK hX hW hAB hV rfl hl.1 (Nat.le_of_ble_eq_true rfl) dL_wouldFame_7 ⟨Nat.le_of_ble_eq_true rfl, Nat.le_of_ble_eq_true rfl⟩ rfl (fun ce q9 H locs hq hS hce hcv hcl => ?_)
  have hP := rf_keep1 hP (fun z => hq o z hoA)
  refine vx_catch (name := "java/lang/IndexOutOfBoundsException") hown [] ⟨0, 12, 15, 20⟩ [⟨0, 12, 19, 13⟩] (by rw [htab]; rfl) (fun z hz => nomatch hz) (by decide) (by decide) (hts (.classLink RL 20 "java/lang/IndexOutOfBoundsException") (by decide +kernel)) (va_Nw.use rfl hX.2.2.2.1.1) hce hcv hcl ?_
  refine lv_astore (lv' := [(5, .ref q9), (0, .ref w), (1, .int x), (2, .int y), (3, .int z), (4, .ref o)]) hx hb dL_wouldFame_15 hl (by decide) rfl (fun ls hl => ?_)
  refine lv_iconst (v := 1) hx hb dL_wouldFame_17 (by decide) ?_
  exact W.iret (v := 1) hx hb hr (fun U9 ht hW9 => ⟨⟨1, (), rfl, rfl, by show va_P D vwCl _ U9.heap; rw [ht]; exact hP⟩, hS.F ht⟩) hS.2.2 dL_wouldFame_18
set_option maxHeartbeats 4000000 in
set_option maxRecDepth 100000 in
/-- the law: work -/
theorem hT_work (l : Launch) (D : va_G) (d : hs_Dm) (w : Nat) (L L2 : hs_Lo) (A A2 B : Nat → Prop) (o : Nat) (cL : ClassId) (f : Nat → Int64) (hwB : ¬ B w) (hAB : ∀ q, A q → B q) (hoB : B o) (hoA : ¬ A o) (hl0 : l.stackTraces = false) (x y : Int32) : lh_M l yL_work wsL_work ({ frames := 10, cells := 1, slots := 6, locals := 260 }) D d w L L2 A A2 B o cL f f [.ref w, .int x, .int y, .ref o] 1 1 6 := by
  refine va_MetW (cc := cL_work) (maxL := 5) (ret := (some .int)) (hh := [(0, 10, 13, 20), (0, 10, 17, 13), (0, 10, 21, 15)]) (by decide) rfl ?_
  intro p e s m args below meth c s₁ B0 hml hv
  obtain ⟨rfl, hW, hW2, hK, hX, hV, hP, hKL⟩ := hv
  have hx := B0.exec
  have hb := B0.bytes
  have hr := B0.returns
  have hts := atoms_spec (ws := wsL_work) B0.pre
  have hown : s.vm.findClass RL = some m.cls := findClass_of_methodNamed B0.named
  have hlocks := B0.notSynchronized
  have htab := vx_table (x := yL_work) B0 (hts (.codeWith yL_work cL_work 5 (some .int) [(0, 10, 13, 20), (0, 10, 17, 13), (0, 10, 21, 15)]) List.mem_cons_self)
  have hl := lv_entry ([.ref w, .int x, .int y, .ref o]) (n := 5) (Nat.le_of_ble_eq_true rfl)
  rw [lg_entry_eq]
  generalize (lg_sl ([.ref w, .int x, .int y, .ref o]) ++ List.replicate (5 - (lg_sl ([.ref w, .int x, .int y, .ref o])).length) Slot.unset).toArray = ls at hl ⊢
  have hl : lv_has ls 5 [(0, .ref w), (1, .int x), (2, .int y), (3, .ref o)] := hl
  refine lv_aload_n hx hb dL_work_0 rfl (lv_at hl 3 rfl) ?_
  refine lv_iconst (v := 0) hx hb dL_work_1 (by decide) ?_
  refine lv_aload_n hx hb dL_work_2 rfl (lv_at hl 0 rfl) ?_
  refine lv_iload_n hx hb dL_work_3 rfl (lv_at hl 1 rfl) ?_
  refine lv_iload_n hx hb dL_work_4 rfl (lv_at hl 2 rfl) ?_
  refine lh_callT (As := [.int x, .int y]) (rest := [.int 0, .ref o]) ⟨hx, hb, hml, hown, hts⟩ (iX4_work l D d L rc_s A w L2 (fun z => hwB (hAB w z)) hl0 x (lh_none x) y) (cwV 2 hts gL_work_X4_work rfl rfl rfl (by decide +kernel) ⟨Nat.le_of_ble_eq_true rfl, Nat.le_of_ble_eq_true rfl⟩) hK hX hW hAB hV rfl hl.1 (Nat.le_of_ble_eq_true rfl) dL_work_5 ⟨Nat.le_of_ble_eq_true rfl, Nat.le_of_ble_eq_true rfl⟩ rfl (fun ce q9 H locs hq hS hce hcv hcl => ?_)
  have hP := rf_keep1 hP (fun z => hq o z hoA)
  refine vx_catch (name := "java/lang/IndexOutOfBoundsException") hown [] ⟨0, 10, 13, 20⟩ [⟨0, 10, 17, 13⟩, ⟨0, 10, 21, 15⟩] (by rw [htab]; rfl) (fun z hz => nomatch hz) (by decide) (by decide) (hts (.classLink RL 20 "java/lang/IndexOutOfBoundsException") (by decide +kernel)) (va_Nw.use rfl hX.2.2.2.1.1) hce hcv hcl ?_
  refine lv_astore (lv' := [(4, .ref q9), (0, .ref w), (1, .int x), (2, .int y), (3, .ref o)]) hx hb dL_work_13 hl (by decide) rfl (fun ls hl => ?_)
  refine lv_iconst (v := 1) hx hb dL_work_15 (by decide) ?_
  exact W.iret (v := 1) hx hb hr (fun U9 ht hW9 => ⟨⟨1, (), rfl, rfl, by show va_P D vwCl _ U9.heap; rw [ht]; exact hP⟩, hS.F ht⟩) hS.2.2 dL_work_16
set_option maxHeartbeats 4000000 in
set_option maxRecDepth 100000 in
/-- the law: swap -/
theorem hT_swap (l : Launch) (D : va_G) (d : hs_Dm) (w : Nat) (L L2 : hs_Lo) (A A2 B : Nat → Prop) (o : Nat) (cL : ClassId) (f : Nat → Int64) (hwB : ¬ B w) (hAB : ∀ q, A q → B q) (hoB : B o) (hoA : ¬ A o) (hl0 : l.stackTraces = false) (x y : Int32) : lh_M l yL_swap wsL_swap ({ frames := 10, cells := 1, slots := 6, locals := 260 }) D d w L L2 A A2 B o cL f f [.ref w, .int x, .int y, .ref o] 1 1 6 := by
  refine va_MetW (cc := cL_swap) (maxL := 5) (ret := (some .int)) (hh := [(0, 10, 13, 20), (0, 10, 17, 13), (0, 10, 21, 15)]) (by decide) rfl ?_
  intro p e s m args below meth c s₁ B0 hml hv
  obtain ⟨rfl, hW, hW2, hK, hX, hV, hP, hKL⟩ := hv
  have hx := B0.exec
  have hb := B0.bytes
  have hr := B0.returns
  have hts := atoms_spec (ws := wsL_swap) B0.pre
  have hown : s.vm.findClass RL = some m.cls := findClass_of_methodNamed B0.named
  have hlocks := B0.notSynchronized
  have htab := vx_table (x := yL_swap) B0 (hts (.codeWith yL_swap cL_swap 5 (some .int) [(0, 10, 13, 20), (0, 10, 17, 13), (0, 10, 21, 15)]) List.mem_cons_self)
  have hl := lv_entry ([.ref w, .int x, .int y, .ref o]) (n := 5) (Nat.le_of_ble_eq_true rfl)
  rw [lg_entry_eq]
  generalize (lg_sl ([.ref w, .int x, .int y, .ref o]) ++ List.replicate (5 - (lg_sl ([.ref w, .int x, .int y, .ref o])).length) Slot.unset).toArray = ls at hl ⊢
  have hl : lv_has ls 5 [(0, .ref w), (1, .int x), (2, .int y), (3, .ref o)] := hl
  refine lv_aload_n hx hb dL_swap_0 rfl (lv_at hl 3 rfl) ?_
  refine lv_iconst (v := 0) hx hb dL_swap_1 (by decide) ?_
  refine lv_aload_n hx hb dL_swap_2 rfl (lv_at hl 0 rfl) ?_
  refine lv_iload_n hx hb dL_swap_3 rfl (lv_at hl 1 rfl) ?_
  refine lv_iload_n hx hb dL_swap_4 rfl (lv_at hl 2 rfl) ?_
  refine lh_callT (As := [.int x, .int y]) (rest := [.int 0, .ref o]) ⟨hx, hb, hml, hown, hts⟩ (iX4_swap l D d L rc_s A w L2 (fun z => hwB (hAB w z)) hl0 x (lh_none x) y) (cwV 2 hts gL_swap_X4_swap rfl rfl rfl (by decide +kernel) ⟨Nat.le_of_ble_eq_true rfl, Nat.le_of_ble_eq_true rfl⟩) hK hX hW hAB hV rfl hl.1 (Nat.le_of_ble_eq_true rfl) dL_swap_5 ⟨Nat.le_of_ble_eq_true rfl, Nat.le_of_ble_eq_true rfl⟩ rfl (fun ce q9 H locs hq hS hce hcv hcl => ?_)
  have hP := rf_keep1 hP (fun z => hq o z hoA)
  refine vx_catch (name := "java/lang/IndexOutOfBoundsException") hown [] ⟨0, 10, 13, 20⟩ [⟨0, 10, 17, 13⟩, ⟨0, 10, 21, 15⟩] (by rw [htab]; rfl) (fun z hz => nomatch hz) (by decide) (by decide) (hts (.classLink RL 20 "java/lang/IndexOutOfBoundsException") (by decide +kernel)) (va_Nw.use rfl hX.2.2.2.1.1) hce hcv hcl ?_
  refine lv_astore (lv' := [(4, .ref q9), (0, .ref w), (1, .int x), (2, .int y), (3, .ref o)]) hx hb dL_swap_13 hl (by decide) rfl (fun ls hl => ?_)
  refine lv_iconst (v := 1) hx hb dL_swap_15 (by decide) ?_
  exact W.iret (v := 1) hx hb hr (fun U9 ht hW9 => ⟨⟨1, (), rfl, rfl, by show va_P D vwCl _ U9.heap; rw [ht]; exact hP⟩, hS.F ht⟩) hS.2.2 dL_swap_16
set_option maxHeartbeats 4000000 in
set_option maxRecDepth 100000 in
/-- the law: mend -/
theorem hT_mend (l : Launch) (D : va_G) (d : hs_Dm) (w : Nat) (L L2 : hs_Lo) (A A2 B : Nat → Prop) (o : Nat) (cL : ClassId) (f : Nat → Int64) (hwB : ¬ B w) (hAB : ∀ q, A q → B q) (hoB : B o) (hoA : ¬ A o) (hl0 : l.stackTraces = false) (x : Int32) : lh_M l yL_mend wsL_mend ({ frames := 10, cells := 1, slots := 6, locals := 260 }) D d w L L2 A A2 B o cL f f [.ref w, .int x, .ref o] 1 1 6 := by
  refine va_MetW (cc := cL_mend) (maxL := 4) (ret := (some .int)) (hh := [(0, 9, 12, 20), (0, 9, 15, 15)]) (by decide) rfl ?_
  intro p e s m args below meth c s₁ B0 hml hv
  obtain ⟨rfl, hW, hW2, hK, hX, hV, hP, hKL⟩ := hv
  have hx := B0.exec
  have hb := B0.bytes
  have hr := B0.returns
  have hts := atoms_spec (ws := wsL_mend) B0.pre
  have hown : s.vm.findClass RL = some m.cls := findClass_of_methodNamed B0.named
  have hlocks := B0.notSynchronized
  have htab := vx_table (x := yL_mend) B0 (hts (.codeWith yL_mend cL_mend 4 (some .int) [(0, 9, 12, 20), (0, 9, 15, 15)]) List.mem_cons_self)
  have hl := lv_entry ([.ref w, .int x, .ref o]) (n := 4) (Nat.le_of_ble_eq_true rfl)
  rw [lg_entry_eq]
  generalize (lg_sl ([.ref w, .int x, .ref o]) ++ List.replicate (4 - (lg_sl ([.ref w, .int x, .ref o])).length) Slot.unset).toArray = ls at hl ⊢
  have hl : lv_has ls 4 [(0, .ref w), (1, .int x), (2, .ref o)] := hl
  refine lv_aload_n hx hb dL_mend_0 rfl (lv_at hl 2 rfl) ?_
  refine lv_iconst (v := 0) hx hb dL_mend_1 (by decide) ?_
  refine lv_aload_n hx hb dL_mend_2 rfl (lv_at hl 0 rfl) ?_
  refine lv_iload_n hx hb dL_mend_3 rfl (lv_at hl 1 rfl) ?_
  refine lh_callT (As := [.int x]) (rest := [.int 0, .ref o]) ⟨hx, hb, hml, hown, hts⟩ (iX4_mend1 l D d L rc_s A w L2 (fun z => hwB (hAB w z)) hl0 x (lh_none x)) (cwV 1 hts gL_mend_X4_mend rfl rfl rfl (by decide +kernel) ⟨Nat.le_of_ble_eq_true rfl, Nat.le_of_ble_eq_true rfl⟩) hK hX hW hAB hV rfl hl.1 (Nat.le_of_ble_eq_true rfl) dL_mend_4 ⟨Nat.le_of_ble_eq_true rfl, Nat.le_of_ble_eq_true rfl⟩ rfl (fun ce q9 H locs hq hS hce hcv hcl => ?_)
  have hP := rf_keep1 hP (fun z => hq o z hoA)
  refine vx_catch (name := "java/lang/IndexOutOfBoundsException") hown [] ⟨0, 9, 12, 20⟩ [⟨0, 9, 15, 15⟩] (by rw [htab]; rfl) (fun z hz => nomatch hz) (by decide) (by decide) (hts (.classLink RL 20 "java/lang/IndexOutOfBoundsException") (by decide +kernel)) (va_Nw.use rfl hX.2.2.2.1.1) hce hcv hcl ?_
  refine lv_astore_n (lv' := [(3, .ref q9), (0, .ref w), (1, .int x), (2, .ref o)]) hx hb dL_mend_12 rfl hl (by decide) rfl (fun ls hl => ?_)
  refine lv_iconst (v := 1) hx hb dL_mend_13 (by decide) ?_
  exact W.iret (v := 1) hx hb hr (fun U9 ht hW9 => ⟨⟨1, (), rfl, rfl, by show va_P D vwCl _ U9.heap; rw [ht]; exact hP⟩, hS.F ht⟩) hS.2.2 dL_mend_14
set_option maxHeartbeats 4000000 in
set_option maxRecDepth 100000 in
/-- the law: melt -/
theorem hT_melt (l : Launch) (D : va_G) (d : hs_Dm) (w : Nat) (L L2 : hs_Lo) (A A2 B : Nat → Prop) (o : Nat) (cL : ClassId) (f : Nat → Int64) (hwB : ¬ B w) (hAB : ∀ q, A q → B q) (hoB : B o) (hoA : ¬ A o) (hl0 : l.stackTraces = false) (x : Int32) : lh_M l yL_melt wsL_melt ({ frames := 10, cells := 1, slots := 6, locals := 260 }) D d w L L2 A A2 B o cL f f [.ref w, .int x, .ref o] 1 1 6 := by
  refine va_MetW (cc := cL_melt) (maxL := 4) (ret := (some .int)) (hh := [(0, 9, 12, 20), (0, 9, 15, 15)]) (by decide) rfl ?_
  intro p e s m args below meth c s₁ B0 hml hv
  obtain ⟨rfl, hW, hW2, hK, hX, hV, hP, hKL⟩ := hv
  have hx := B0.exec
  have hb := B0.bytes
  have hr := B0.returns
  have hts := atoms_spec (ws := wsL_melt) B0.pre
  have hown : s.vm.findClass RL = some m.cls := findClass_of_methodNamed B0.named
  have hlocks := B0.notSynchronized
  have htab := vx_table (x := yL_melt) B0 (hts (.codeWith yL_melt cL_melt 4 (some .int) [(0, 9, 12, 20), (0, 9, 15, 15)]) List.mem_cons_self)
  have hl := lv_entry ([.ref w, .int x, .ref o]) (n := 4) (Nat.le_of_ble_eq_true rfl)
  rw [lg_entry_eq]
  generalize (lg_sl ([.ref w, .int x, .ref o]) ++ List.replicate (4 - (lg_sl ([.ref w, .int x, .ref o])).length) Slot.unset).toArray = ls at hl ⊢
  have hl : lv_has ls 4 [(0, .ref w), (1, .int x), (2, .ref o)] := hl
  refine lv_aload_n hx hb dL_melt_0 rfl (lv_at hl 2 rfl) ?_
  refine lv_iconst (v := 0) hx hb dL_melt_1 (by decide) ?_
  refine lv_aload_n hx hb dL_melt_2 rfl (lv_at hl 0 rfl) ?_
  refine lv_iload_n hx hb dL_melt_3 rfl (lv_at hl 1 rfl) ?_
  refine lh_callT (As := [.int x]) (rest := [.int 0, .ref o]) ⟨hx, hb, hml, hown, hts⟩ (iX4_melt l D d L rc_s A w L2 (fun z => hwB (hAB w z)) hl0 x (lh_none x)) (cwV 1 hts gL_melt_X4_melt rfl rfl rfl (by decide +kernel) ⟨Nat.le_of_ble_eq_true rfl, Nat.le_of_ble_eq_true rfl⟩) hK hX hW hAB hV rfl hl.1 (Nat.le_of_ble_eq_true rfl) dL_melt_4 ⟨Nat.le_of_ble_eq_true rfl, Nat.le_of_ble_eq_true rfl⟩ rfl (fun ce q9 H locs hq hS hce hcv hcl => ?_)
  have hP := rf_keep1 hP (fun z => hq o z hoA)
  refine vx_catch (name := "java/lang/IndexOutOfBoundsException") hown [] ⟨0, 9, 12, 20⟩ [⟨0, 9, 15, 15⟩] (by rw [htab]; rfl) (fun z hz => nomatch hz) (by decide) (by decide) (hts (.classLink RL 20 "java/lang/IndexOutOfBoundsException") (by decide +kernel)) (va_Nw.use rfl hX.2.2.2.1.1) hce hcv hcl ?_
  refine lv_astore_n (lv' := [(3, .ref q9), (0, .ref w), (1, .int x), (2, .ref o)]) hx hb dL_melt_12 rfl hl (by decide) rfl (fun ls hl => ?_)
  refine lv_iconst (v := 1) hx hb dL_melt_13 (by decide) ?_
  exact W.iret (v := 1) hx hb hr (fun U9 ht hW9 => ⟨⟨1, (), rfl, rfl, by show va_P D vwCl _ U9.heap; rw [ht]; exact hP⟩, hS.F ht⟩) hS.2.2 dL_melt_14
set_option maxHeartbeats 4000000 in
set_option maxRecDepth 100000 in
/-- the law: tour -/
theorem hT_tour (l : Launch) (D : va_G) (d : hs_Dm) (w : Nat) (L L2 : hs_Lo) (A A2 B : Nat → Prop) (o : Nat) (cL : ClassId) (f : Nat → Int64) (hwB : ¬ B w) (hAB : ∀ q, A q → B q) (hoB : B o) (hoA : ¬ A o) (hl0 : l.stackTraces = false) (x y z : Int32) : lh_M l yL_tour wsL_tour ({ frames := 10, cells := 1, slots := 6, locals := 260 }) D d w L L2 A A2 B o cL f f [.ref w, .int x, .int y, .int z, .ref o] 1 1 6 := by
  refine va_MetW (cc := cL_tour) (maxL := 6) (ret := (some .int)) (hh := [(0, 12, 15, 20), (0, 12, 19, 13), (0, 12, 23, 15)]) (by decide) rfl ?_
  intro p e s m args below meth c s₁ B0 hml hv
  obtain ⟨rfl, hW, hW2, hK, hX, hV, hP, hKL⟩ := hv
  have hx := B0.exec
  have hb := B0.bytes
  have hr := B0.returns
  have hts := atoms_spec (ws := wsL_tour) B0.pre
  have hown : s.vm.findClass RL = some m.cls := findClass_of_methodNamed B0.named
  have hlocks := B0.notSynchronized
  have htab := vx_table (x := yL_tour) B0 (hts (.codeWith yL_tour cL_tour 6 (some .int) [(0, 12, 15, 20), (0, 12, 19, 13), (0, 12, 23, 15)]) List.mem_cons_self)
  have hl := lv_entry ([.ref w, .int x, .int y, .int z, .ref o]) (n := 6) (Nat.le_of_ble_eq_true rfl)
  rw [lg_entry_eq]
  generalize (lg_sl ([.ref w, .int x, .int y, .int z, .ref o]) ++ List.replicate (6 - (lg_sl ([.ref w, .int x, .int y, .int z, .ref o])).length) Slot.unset).toArray = ls at hl ⊢
  have hl : lv_has ls 6 [(0, .ref w), (1, .int x), (2, .int y), (3, .int z), (4, .ref o)] := hl
  refine lv_aload hx hb dL_tour_0 (lv_at hl 4 rfl) ?_
  refine lv_iconst (v := 0) hx hb dL_tour_2 (by decide) ?_
  refine lv_aload_n hx hb dL_tour_3 rfl (lv_at hl 0 rfl) ?_
  refine lv_iload_n hx hb dL_tour_4 rfl (lv_at hl 1 rfl) ?_
  refine lv_iload_n hx hb dL_tour_5 rfl (lv_at hl 2 rfl) ?_
  refine lv_iload_n hx hb dL_tour_6 rfl (lv_at hl 3 rfl) ?_
  refine lh_callT (As := [.int x, .int y, .int z]) (rest := [.int 0, .ref o]) ⟨hx, hb, hml, hown, hts⟩ (iX4_tour l D d L rc_s A w L2 (fun z => hwB (hAB w z)) hl0 x (lh_none x) y z) (cwV 3 hts gL_tour_X4_tour rfl rfl rfl (by decide +kernel) ⟨Nat.le_of_ble_eq_true rfl, Nat.le_of_ble_eq_true rfl⟩) hK hX hW hAB hV rfl hl.1 (Nat.le_of_ble_eq_true rfl) dL_tour_7 ⟨Nat.le_of_ble_eq_true rfl, Nat.le_of_ble_eq_true rfl⟩ rfl (fun ce q9 H locs hq hS hce hcv hcl => ?_)
  have hP := rf_keep1 hP (fun z => hq o z hoA)
  refine vx_catch (name := "java/lang/IndexOutOfBoundsException") hown [] ⟨0, 12, 15, 20⟩ [⟨0, 12, 19, 13⟩, ⟨0, 12, 23, 15⟩] (by rw [htab]; rfl) (fun z hz => nomatch hz) (by decide) (by decide) (hts (.classLink RL 20 "java/lang/IndexOutOfBoundsException") (by decide +kernel)) (va_Nw.use rfl hX.2.2.2.1.1) hce hcv hcl ?_
  refine lv_astore (lv' := [(5, .ref q9), (0, .ref w), (1, .int x), (2, .int y), (3, .int z), (4, .ref o)]) hx hb dL_tour_15 hl (by decide) rfl (fun ls hl => ?_)
  refine lv_iconst (v := 1) hx hb dL_tour_17 (by decide) ?_
  exact W.iret (v := 1) hx hb hr (fun U9 ht hW9 => ⟨⟨1, (), rfl, rfl, by show va_P D vwCl _ U9.heap; rw [ht]; exact hP⟩, hS.F ht⟩) hS.2.2 dL_tour_18
set_option maxHeartbeats 4000000 in
set_option maxRecDepth 100000 in
/-- the law: show -/
theorem hT_show (l : Launch) (D : va_G) (d : hs_Dm) (w : Nat) (L L2 : hs_Lo) (A A2 B : Nat → Prop) (o : Nat) (cL : ClassId) (f : Nat → Int64) (hwB : ¬ B w) (hAB : ∀ q, A q → B q) (hoB : B o) (hoA : ¬ A o) (hl0 : l.stackTraces = false) (x y : Int32) : lh_M l yL_show wsL_show ({ frames := 10, cells := 1, slots := 6, locals := 260 }) D d w L L2 A A2 B o cL f f [.ref w, .int x, .int y, .ref o] 1 1 6 := by
  refine va_MetW (cc := cL_show) (maxL := 5) (ret := (some .int)) (hh := [(0, 10, 13, 20), (0, 10, 17, 15)]) (by decide) rfl ?_
  intro p e s m args below meth c s₁ B0 hml hv
  obtain ⟨rfl, hW, hW2, hK, hX, hV, hP, hKL⟩ := hv
  have hx := B0.exec
  have hb := B0.bytes
  have hr := B0.returns
  have hts := atoms_spec (ws := wsL_show) B0.pre
  have hown : s.vm.findClass RL = some m.cls := findClass_of_methodNamed B0.named
  have hlocks := B0.notSynchronized
  have htab := vx_table (x := yL_show) B0 (hts (.codeWith yL_show cL_show 5 (some .int) [(0, 10, 13, 20), (0, 10, 17, 15)]) List.mem_cons_self)
  have hl := lv_entry ([.ref w, .int x, .int y, .ref o]) (n := 5) (Nat.le_of_ble_eq_true rfl)
  rw [lg_entry_eq]
  generalize (lg_sl ([.ref w, .int x, .int y, .ref o]) ++ List.replicate (5 - (lg_sl ([.ref w, .int x, .int y, .ref o])).length) Slot.unset).toArray = ls at hl ⊢
  have hl : lv_has ls 5 [(0, .ref w), (1, .int x), (2, .int y), (3, .ref o)] := hl
  refine lv_aload_n hx hb dL_show_0 rfl (lv_at hl 3 rfl) ?_
  refine lv_iconst (v := 0) hx hb dL_show_1 (by decide) ?_
  refine lv_aload_n hx hb dL_show_2 rfl (lv_at hl 0 rfl) ?_
  refine lv_iload_n hx hb dL_show_3 rfl (lv_at hl 1 rfl) ?_
  refine lv_iload_n hx hb dL_show_4 rfl (lv_at hl 2 rfl) ?_
  refine lh_callT (As := [.int x, .int y]) (rest := [.int 0, .ref o]) ⟨hx, hb, hml, hown, hts⟩ (iX4_show l D d L rc_s A w L2 (fun z => hwB (hAB w z)) hl0 x (lh_none x) y) (cwV 2 hts gL_show_X4_show rfl rfl rfl (by decide +kernel) ⟨Nat.le_of_ble_eq_true rfl, Nat.le_of_ble_eq_true rfl⟩) hK hX hW hAB hV rfl hl.1 (Nat.le_of_ble_eq_true rfl) dL_show_5 ⟨Nat.le_of_ble_eq_true rfl, Nat.le_of_ble_eq_true rfl⟩ rfl (fun ce q9 H locs hq hS hce hcv hcl => ?_)
  have hP := rf_keep1 hP (fun z => hq o z hoA)
  refine vx_catch (name := "java/lang/IndexOutOfBoundsException") hown [] ⟨0, 10, 13, 20⟩ [⟨0, 10, 17, 15⟩] (by rw [htab]; rfl) (fun z hz => nomatch hz) (by decide) (by decide) (hts (.classLink RL 20 "java/lang/IndexOutOfBoundsException") (by decide +kernel)) (va_Nw.use rfl hX.2.2.2.1.1) hce hcv hcl ?_
  refine lv_astore (lv' := [(4, .ref q9), (0, .ref w), (1, .int x), (2, .int y), (3, .ref o)]) hx hb dL_show_13 hl (by decide) rfl (fun ls hl => ?_)
  refine lv_iconst (v := 1) hx hb dL_show_15 (by decide) ?_
  exact W.iret (v := 1) hx hb hr (fun U9 ht hW9 => ⟨⟨1, (), rfl, rfl, by show va_P D vwCl _ U9.heap; rw [ht]; exact hP⟩, hS.F ht⟩) hS.2.2 dL_show_16
set_option maxHeartbeats 4000000 in
set_option maxRecDepth 100000 in
/-- the law: take -/
theorem hT_take (l : Launch) (D : va_G) (d : hs_Dm) (w : Nat) (L L2 : hs_Lo) (A A2 B : Nat → Prop) (o : Nat) (cL : ClassId) (f : Nat → Int64) (hwB : ¬ B w) (hAB : ∀ q, A q → B q) (hoB : B o) (hoA : ¬ A o) (hl0 : l.stackTraces = false) (x : Int32) : lh_M l yL_take wsL_take ({ frames := 10, cells := 1, slots := 6, locals := 260 }) D d w L L2 A A2 B o cL f f [.ref w, .int x, .ref o] 1 1 6 := by
  refine va_MetW (cc := cL_take) (maxL := 4) (ret := (some .int)) (hh := [(0, 9, 12, 20), (0, 9, 15, 15)]) (by decide) rfl ?_
  intro p e s m args below meth c s₁ B0 hml hv
  obtain ⟨rfl, hW, hW2, hK, hX, hV, hP, hKL⟩ := hv
  have hx := B0.exec
  have hb := B0.bytes
  have hr := B0.returns
  have hts := atoms_spec (ws := wsL_take) B0.pre
  have hown : s.vm.findClass RL = some m.cls := findClass_of_methodNamed B0.named
  have hlocks := B0.notSynchronized
  have htab := vx_table (x := yL_take) B0 (hts (.codeWith yL_take cL_take 4 (some .int) [(0, 9, 12, 20), (0, 9, 15, 15)]) List.mem_cons_self)
  have hl := lv_entry ([.ref w, .int x, .ref o]) (n := 4) (Nat.le_of_ble_eq_true rfl)
  rw [lg_entry_eq]
  generalize (lg_sl ([.ref w, .int x, .ref o]) ++ List.replicate (4 - (lg_sl ([.ref w, .int x, .ref o])).length) Slot.unset).toArray = ls at hl ⊢
  have hl : lv_has ls 4 [(0, .ref w), (1, .int x), (2, .ref o)] := hl
  refine lv_aload_n hx hb dL_take_0 rfl (lv_at hl 2 rfl) ?_
  refine lv_iconst (v := 0) hx hb dL_take_1 (by decide) ?_
  refine lv_aload_n hx hb dL_take_2 rfl (lv_at hl 0 rfl) ?_
  refine lv_iload_n hx hb dL_take_3 rfl (lv_at hl 1 rfl) ?_
  refine lh_callT (As := [.int x]) (rest := [.int 0, .ref o]) ⟨hx, hb, hml, hown, hts⟩ (iX4_take l D d L rc_s A w L2 (fun z => hwB (hAB w z)) hl0 x (lh_none x)) (cwV 1 hts gL_take_X4_take rfl rfl rfl (by decide +kernel) ⟨Nat.le_of_ble_eq_true rfl, Nat.le_of_ble_eq_true rfl⟩) hK hX hW hAB hV rfl hl.1 (Nat.le_of_ble_eq_true rfl) dL_take_4 ⟨Nat.le_of_ble_eq_true rfl, Nat.le_of_ble_eq_true rfl⟩ rfl (fun ce q9 H locs hq hS hce hcv hcl => ?_)
  have hP := rf_keep1 hP (fun z => hq o z hoA)
  refine vx_catch (name := "java/lang/IndexOutOfBoundsException") hown [] ⟨0, 9, 12, 20⟩ [⟨0, 9, 15, 15⟩] (by rw [htab]; rfl) (fun z hz => nomatch hz) (by decide) (by decide) (hts (.classLink RL 20 "java/lang/IndexOutOfBoundsException") (by decide +kernel)) (va_Nw.use rfl hX.2.2.2.1.1) hce hcv hcl ?_
  refine lv_astore_n (lv' := [(3, .ref q9), (0, .ref w), (1, .int x), (2, .ref o)]) hx hb dL_take_12 rfl hl (by decide) rfl (fun ls hl => ?_)
  refine lv_iconst (v := 1) hx hb dL_take_13 (by decide) ?_
  exact W.iret (v := 1) hx hb hr (fun U9 ht hW9 => ⟨⟨1, (), rfl, rfl, by show va_P D vwCl _ U9.heap; rw [ht]; exact hP⟩, hS.F ht⟩) hS.2.2 dL_take_14
set_option maxHeartbeats 4000000 in
set_option maxRecDepth 100000 in
/-- the law: ofFigure -/
theorem hT_ofFigure (l : Launch) (D : va_G) (d : hs_Dm) (w : Nat) (L L2 : hs_Lo) (A A2 B : Nat → Prop) (o : Nat) (cL : ClassId) (f : Nat → Int64) (hwB : ¬ B w) (hAB : ∀ q, A q → B q) (hoB : B o) (hoA : ¬ A o) (hl0 : l.stackTraces = false) (x y : Int32) : lh_M l yL_ofFigure wsL_ofFigure ({ frames := 10, cells := 1, slots := 6, locals := 260 }) D d w L L2 A A2 B o cL f f [.ref w, .int x, .int y, .ref o] 1 1 6 := by
  refine va_MetW (cc := cL_ofFigure) (maxL := 5) (ret := (some .int)) (hh := [(0, 10, 13, 20), (0, 10, 17, 13)]) (by decide) rfl ?_
  intro p e s m args below meth c s₁ B0 hml hv
  obtain ⟨rfl, hW, hW2, hK, hX, hV, hP, hKL⟩ := hv
  have hx := B0.exec
  have hb := B0.bytes
  have hr := B0.returns
  have hts := atoms_spec (ws := wsL_ofFigure) B0.pre
  have hown : s.vm.findClass RL = some m.cls := findClass_of_methodNamed B0.named
  have hlocks := B0.notSynchronized
  have htab := vx_table (x := yL_ofFigure) B0 (hts (.codeWith yL_ofFigure cL_ofFigure 5 (some .int) [(0, 10, 13, 20), (0, 10, 17, 13)]) List.mem_cons_self)
  have hl := lv_entry ([.ref w, .int x, .int y, .ref o]) (n := 5) (Nat.le_of_ble_eq_true rfl)
  rw [lg_entry_eq]
  generalize (lg_sl ([.ref w, .int x, .int y, .ref o]) ++ List.replicate (5 - (lg_sl ([.ref w, .int x, .int y, .ref o])).length) Slot.unset).toArray = ls at hl ⊢
  have hl : lv_has ls 5 [(0, .ref w), (1, .int x), (2, .int y), (3, .ref o)] := hl
  refine lv_aload_n hx hb dL_ofFigure_0 rfl (lv_at hl 3 rfl) ?_
  refine lv_iconst (v := 0) hx hb dL_ofFigure_1 (by decide) ?_
  refine lv_aload_n hx hb dL_ofFigure_2 rfl (lv_at hl 0 rfl) ?_
  refine lv_iload_n hx hb dL_ofFigure_3 rfl (lv_at hl 1 rfl) ?_
  refine lv_iload_n hx hb dL_ofFigure_4 rfl (lv_at hl 2 rfl) ?_
  refine lh_callT (As := [.int x, .int y]) (rest := [.int 0, .ref o]) ⟨hx, hb, hml, hown, hts⟩ (iX4_ofFigure l D d L rc_s A w L2 (fun z => hwB (hAB w z)) hl0 x (lh_none x) y) (cwV 2 hts gL_ofFigure_X4_ofFigure rfl rfl rfl (by decide +kernel) ⟨Nat.le_of_ble_eq_true rfl, Nat.le_of_ble_eq_true rfl⟩) hK hX hW hAB hV rfl hl.1 (Nat.le_of_ble_eq_true rfl) dL_ofFigure_5 ⟨Nat.le_of_ble_eq_true rfl, Nat.le_of_ble_eq_true rfl⟩ rfl (fun ce q9 H locs hq hS hce hcv hcl => ?_)
  have hP := rf_keep1 hP (fun z => hq o z hoA)
  refine vx_catch (name := "java/lang/IndexOutOfBoundsException") hown [] ⟨0, 10, 13, 20⟩ [⟨0, 10, 17, 13⟩] (by rw [htab]; rfl) (fun z hz => nomatch hz) (by decide) (by decide) (hts (.classLink RL 20 "java/lang/IndexOutOfBoundsException") (by decide +kernel)) (va_Nw.use rfl hX.2.2.2.1.1) hce hcv hcl ?_
  refine lv_astore (lv' := [(4, .ref q9), (0, .ref w), (1, .int x), (2, .int y), (3, .ref o)]) hx hb dL_ofFigure_13 hl (by decide) rfl (fun ls hl => ?_)
  refine lv_iconst (v := 1) hx hb dL_ofFigure_15 (by decide) ?_
  exact W.iret (v := 1) hx hb hr (fun U9 ht hW9 => ⟨⟨1, (), rfl, rfl, by show va_P D vwCl _ U9.heap; rw [ht]; exact hP⟩, hS.F ht⟩) hS.2.2 dL_ofFigure_16
set_option maxHeartbeats 4000000 in
set_option maxRecDepth 100000 in
/-- the law: readyIn -/
theorem hT_readyIn (l : Launch) (D : va_G) (d : hs_Dm) (w : Nat) (L L2 : hs_Lo) (A A2 B : Nat → Prop) (o : Nat) (cL : ClassId) (f : Nat → Int64) (hwB : ¬ B w) (hAB : ∀ q, A q → B q) (hoB : B o) (hoA : ¬ A o) (hl0 : l.stackTraces = false) (x : Int32) : lh_M l yL_readyIn wsL_readyIn ({ frames := 10, cells := 1, slots := 6, locals := 260 }) D d w L L2 A A2 B o cL f f [.ref w, .int x, .ref o] 1 1 6 := by
  refine va_MetW (cc := cL_readyIn) (maxL := 4) (ret := (some .int)) (hh := [(0, 9, 12, 20)]) (by decide) rfl ?_
  intro p e s m args below meth c s₁ B0 hml hv
  obtain ⟨rfl, hW, hW2, hK, hX, hV, hP, hKL⟩ := hv
  have hx := B0.exec
  have hb := B0.bytes
  have hr := B0.returns
  have hts := atoms_spec (ws := wsL_readyIn) B0.pre
  have hown : s.vm.findClass RL = some m.cls := findClass_of_methodNamed B0.named
  have hlocks := B0.notSynchronized
  have htab := vx_table (x := yL_readyIn) B0 (hts (.codeWith yL_readyIn cL_readyIn 4 (some .int) [(0, 9, 12, 20)]) List.mem_cons_self)
  have hl := lv_entry ([.ref w, .int x, .ref o]) (n := 4) (Nat.le_of_ble_eq_true rfl)
  rw [lg_entry_eq]
  generalize (lg_sl ([.ref w, .int x, .ref o]) ++ List.replicate (4 - (lg_sl ([.ref w, .int x, .ref o])).length) Slot.unset).toArray = ls at hl ⊢
  have hl : lv_has ls 4 [(0, .ref w), (1, .int x), (2, .ref o)] := hl
  refine lv_aload_n hx hb dL_readyIn_0 rfl (lv_at hl 2 rfl) ?_
  refine lv_iconst (v := 0) hx hb dL_readyIn_1 (by decide) ?_
  refine lv_aload_n hx hb dL_readyIn_2 rfl (lv_at hl 0 rfl) ?_
  refine lv_iload_n hx hb dL_readyIn_3 rfl (lv_at hl 1 rfl) ?_
  refine lh_callT (As := [.int x]) (rest := [.int 0, .ref o]) ⟨hx, hb, hml, hown, hts⟩ (iX4_readyIn l D d L rc_s A w L2 (fun z => hwB (hAB w z)) hl0 x (lh_none x)) (cwV 1 hts gL_readyIn_X4_readyIn rfl rfl rfl (by decide +kernel) ⟨Nat.le_of_ble_eq_true rfl, Nat.le_of_ble_eq_true rfl⟩) hK hX hW hAB hV rfl hl.1 (Nat.le_of_ble_eq_true rfl) dL_readyIn_4 ⟨Nat.le_of_ble_eq_true rfl, Nat.le_of_ble_eq_true rfl⟩ rfl (fun ce q9 H locs hq hS hce hcv hcl => ?_)
  have hP := rf_keep1 hP (fun z => hq o z hoA)
  refine vx_catch (name := "java/lang/IndexOutOfBoundsException") hown [] ⟨0, 9, 12, 20⟩ [] (by rw [htab]; rfl) (fun z hz => nomatch hz) (by decide) (by decide) (hts (.classLink RL 20 "java/lang/IndexOutOfBoundsException") (by decide +kernel)) (va_Nw.use rfl hX.2.2.2.1.1) hce hcv hcl ?_
  refine lv_astore_n (lv' := [(3, .ref q9), (0, .ref w), (1, .int x), (2, .ref o)]) hx hb dL_readyIn_12 rfl hl (by decide) rfl (fun ls hl => ?_)
  refine lv_iconst (v := 1) hx hb dL_readyIn_13 (by decide) ?_
  exact W.iret (v := 1) hx hb hr (fun U9 ht hW9 => ⟨⟨1, (), rfl, rfl, by show va_P D vwCl _ U9.heap; rw [ht]; exact hP⟩, hS.F ht⟩) hS.2.2 dL_readyIn_14
set_option maxHeartbeats 4000000 in
set_option maxRecDepth 100000 in
/-- the law: meltsIn -/
theorem hT_meltsIn (l : Launch) (D : va_G) (d : hs_Dm) (w : Nat) (L L2 : hs_Lo) (A A2 B : Nat → Prop) (o : Nat) (cL : ClassId) (f : Nat → Int64) (hwB : ¬ B w) (hAB : ∀ q, A q → B q) (hoB : B o) (hoA : ¬ A o) (hl0 : l.stackTraces = false) (x y z : Int32) : lh_M l yL_meltsIn wsL_meltsIn ({ frames := 10, cells := 1, slots := 6, locals := 260 }) D d w L L2 A A2 B o cL f f [.ref w, .int x, .int y, .int z, .ref o] 1 1 6 := by
  refine va_MetW (cc := cL_meltsIn) (maxL := 6) (ret := (some .int)) (hh := [(0, 12, 15, 20), (0, 12, 19, 13)]) (by decide) rfl ?_
  intro p e s m args below meth c s₁ B0 hml hv
  obtain ⟨rfl, hW, hW2, hK, hX, hV, hP, hKL⟩ := hv
  have hx := B0.exec
  have hb := B0.bytes
  have hr := B0.returns
  have hts := atoms_spec (ws := wsL_meltsIn) B0.pre
  have hown : s.vm.findClass RL = some m.cls := findClass_of_methodNamed B0.named
  have hlocks := B0.notSynchronized
  have htab := vx_table (x := yL_meltsIn) B0 (hts (.codeWith yL_meltsIn cL_meltsIn 6 (some .int) [(0, 12, 15, 20), (0, 12, 19, 13)]) List.mem_cons_self)
  have hl := lv_entry ([.ref w, .int x, .int y, .int z, .ref o]) (n := 6) (Nat.le_of_ble_eq_true rfl)
  rw [lg_entry_eq]
  generalize (lg_sl ([.ref w, .int x, .int y, .int z, .ref o]) ++ List.replicate (6 - (lg_sl ([.ref w, .int x, .int y, .int z, .ref o])).length) Slot.unset).toArray = ls at hl ⊢
  have hl : lv_has ls 6 [(0, .ref w), (1, .int x), (2, .int y), (3, .int z), (4, .ref o)] := hl
  refine lv_aload hx hb dL_meltsIn_0 (lv_at hl 4 rfl) ?_
  refine lv_iconst (v := 0) hx hb dL_meltsIn_2 (by decide) ?_
  refine lv_aload_n hx hb dL_meltsIn_3 rfl (lv_at hl 0 rfl) ?_
  refine lv_iload_n hx hb dL_meltsIn_4 rfl (lv_at hl 1 rfl) ?_
  refine lv_iload_n hx hb dL_meltsIn_5 rfl (lv_at hl 2 rfl) ?_
  refine lv_iload_n hx hb dL_meltsIn_6 rfl (lv_at hl 3 rfl) ?_
  refine lh_callT (As := [.int x, .int y, .int z]) (rest := [.int 0, .ref o]) ⟨hx, hb, hml, hown, hts⟩ (iX4_meltsIn l D d L rc_s A w L2 (fun z => hwB (hAB w z)) hl0 x (lh_none x) y z) (cwV 3 hts gL_meltsIn_X4_meltsIn rfl rfl rfl (by decide +kernel) ⟨Nat.le_of_ble_eq_true rfl, Nat.le_of_ble_eq_true rfl⟩) hK hX hW hAB hV rfl hl.1 (Nat.le_of_ble_eq_true rfl) dL_meltsIn_7 ⟨Nat.le_of_ble_eq_true rfl, Nat.le_of_ble_eq_true rfl⟩ rfl (fun ce q9 H locs hq hS hce hcv hcl => ?_)
  have hP := rf_keep1 hP (fun z => hq o z hoA)
  refine vx_catch (name := "java/lang/IndexOutOfBoundsException") hown [] ⟨0, 12, 15, 20⟩ [⟨0, 12, 19, 13⟩] (by rw [htab]; rfl) (fun z hz => nomatch hz) (by decide) (by decide) (hts (.classLink RL 20 "java/lang/IndexOutOfBoundsException") (by decide +kernel)) (va_Nw.use rfl hX.2.2.2.1.1) hce hcv hcl ?_
  refine lv_astore (lv' := [(5, .ref q9), (0, .ref w), (1, .int x), (2, .int y), (3, .int z), (4, .ref o)]) hx hb dL_meltsIn_15 hl (by decide) rfl (fun ls hl => ?_)
  refine lv_iconst (v := 1) hx hb dL_meltsIn_17 (by decide) ?_
  exact W.iret (v := 1) hx hb hr (fun U9 ht hW9 => ⟨⟨1, (), rfl, rfl, by show va_P D vwCl _ U9.heap; rw [ht]; exact hP⟩, hS.F ht⟩) hS.2.2 dL_meltsIn_18
set_option maxHeartbeats 4000000 in
set_option maxRecDepth 100000 in
/-- the law: lamps -/
theorem hT_lamps (l : Launch) (D : va_G) (d : hs_Dm) (w : Nat) (L L2 : hs_Lo) (A A2 B : Nat → Prop) (o : Nat) (cL : ClassId) (f : Nat → Int64) (hwB : ¬ B w) (hAB : ∀ q, A q → B q) (hoB : B o) (hoA : ¬ A o) (hl0 : l.stackTraces = false) (x y : Int32) : lh_M l yL_lamps wsL_lamps ({ frames := 10, cells := 1, slots := 6, locals := 260 }) D d w L L2 A A2 B o cL f f [.ref w, .int x, .int y, .ref o] 1 1 6 := by
  refine va_MetW (cc := cL_lamps) (maxL := 5) (ret := (some .int)) (hh := [(0, 10, 13, 20), (0, 10, 17, 13)]) (by decide) rfl ?_
  intro p e s m args below meth c s₁ B0 hml hv
  obtain ⟨rfl, hW, hW2, hK, hX, hV, hP, hKL⟩ := hv
  have hx := B0.exec
  have hb := B0.bytes
  have hr := B0.returns
  have hts := atoms_spec (ws := wsL_lamps) B0.pre
  have hown : s.vm.findClass RL = some m.cls := findClass_of_methodNamed B0.named
  have hlocks := B0.notSynchronized
  have htab := vx_table (x := yL_lamps) B0 (hts (.codeWith yL_lamps cL_lamps 5 (some .int) [(0, 10, 13, 20), (0, 10, 17, 13)]) List.mem_cons_self)
  have hl := lv_entry ([.ref w, .int x, .int y, .ref o]) (n := 5) (Nat.le_of_ble_eq_true rfl)
  rw [lg_entry_eq]
  generalize (lg_sl ([.ref w, .int x, .int y, .ref o]) ++ List.replicate (5 - (lg_sl ([.ref w, .int x, .int y, .ref o])).length) Slot.unset).toArray = ls at hl ⊢
  have hl : lv_has ls 5 [(0, .ref w), (1, .int x), (2, .int y), (3, .ref o)] := hl
  refine lv_aload_n hx hb dL_lamps_0 rfl (lv_at hl 3 rfl) ?_
  refine lv_iconst (v := 0) hx hb dL_lamps_1 (by decide) ?_
  refine lv_aload_n hx hb dL_lamps_2 rfl (lv_at hl 0 rfl) ?_
  refine lv_iload_n hx hb dL_lamps_3 rfl (lv_at hl 1 rfl) ?_
  refine lv_iload_n hx hb dL_lamps_4 rfl (lv_at hl 2 rfl) ?_
  refine lh_callT (As := [.int x, .int y]) (rest := [.int 0, .ref o]) ⟨hx, hb, hml, hown, hts⟩ (iX4_lamps l D d L rc_s A w L2 (fun z => hwB (hAB w z)) hl0 x (lh_none x) y) (cwV 2 hts gL_lamps_X4_lamps rfl rfl rfl (by decide +kernel) ⟨Nat.le_of_ble_eq_true rfl, Nat.le_of_ble_eq_true rfl⟩) hK hX hW hAB hV rfl hl.1 (Nat.le_of_ble_eq_true rfl) dL_lamps_5 ⟨Nat.le_of_ble_eq_true rfl, Nat.le_of_ble_eq_true rfl⟩ rfl (fun ce q9 H locs hq hS hce hcv hcl => ?_)
  have hP := rf_keep1 hP (fun z => hq o z hoA)
  refine vx_catch (name := "java/lang/IndexOutOfBoundsException") hown [] ⟨0, 10, 13, 20⟩ [⟨0, 10, 17, 13⟩] (by rw [htab]; rfl) (fun z hz => nomatch hz) (by decide) (by decide) (hts (.classLink RL 20 "java/lang/IndexOutOfBoundsException") (by decide +kernel)) (va_Nw.use rfl hX.2.2.2.1.1) hce hcv hcl ?_
  refine lv_astore (lv' := [(4, .ref q9), (0, .ref w), (1, .int x), (2, .int y), (3, .ref o)]) hx hb dL_lamps_13 hl (by decide) rfl (fun ls hl => ?_)
  refine lv_iconst (v := 1) hx hb dL_lamps_15 (by decide) ?_
  exact W.iret (v := 1) hx hb hr (fun U9 ht hW9 => ⟨⟨1, (), rfl, rfl, by show va_P D vwCl _ U9.heap; rw [ht]; exact hP⟩, hS.F ht⟩) hS.2.2 dL_lamps_16
set_option maxHeartbeats 4000000 in
set_option maxRecDepth 100000 in
/-- the law: clean -/
theorem hT_clean (l : Launch) (D : va_G) (d : hs_Dm) (w : Nat) (L L2 : hs_Lo) (A A2 B : Nat → Prop) (o : Nat) (cL : ClassId) (f : Nat → Int64) (hwB : ¬ B w) (hAB : ∀ q, A q → B q) (hoB : B o) (hoA : ¬ A o) (hl0 : l.stackTraces = false) (x : Int32) : lh_M l yL_clean wsL_clean ({ frames := 10, cells := 1, slots := 6, locals := 260 }) D d w L L2 A A2 B o cL f f [.ref w, .int x, .ref o] 1 1 6 := by
  refine va_MetW (cc := cL_clean) (maxL := 4) (ret := (some .int)) (hh := [(0, 9, 12, 20)]) (by decide) rfl ?_
  intro p e s m args below meth c s₁ B0 hml hv
  obtain ⟨rfl, hW, hW2, hK, hX, hV, hP, hKL⟩ := hv
  have hx := B0.exec
  have hb := B0.bytes
  have hr := B0.returns
  have hts := atoms_spec (ws := wsL_clean) B0.pre
  have hown : s.vm.findClass RL = some m.cls := findClass_of_methodNamed B0.named
  have hlocks := B0.notSynchronized
  have htab := vx_table (x := yL_clean) B0 (hts (.codeWith yL_clean cL_clean 4 (some .int) [(0, 9, 12, 20)]) List.mem_cons_self)
  have hl := lv_entry ([.ref w, .int x, .ref o]) (n := 4) (Nat.le_of_ble_eq_true rfl)
  rw [lg_entry_eq]
  generalize (lg_sl ([.ref w, .int x, .ref o]) ++ List.replicate (4 - (lg_sl ([.ref w, .int x, .ref o])).length) Slot.unset).toArray = ls at hl ⊢
  have hl : lv_has ls 4 [(0, .ref w), (1, .int x), (2, .ref o)] := hl
  refine lv_aload_n hx hb dL_clean_0 rfl (lv_at hl 2 rfl) ?_
  refine lv_iconst (v := 0) hx hb dL_clean_1 (by decide) ?_
  refine lv_aload_n hx hb dL_clean_2 rfl (lv_at hl 0 rfl) ?_
  refine lv_iload_n hx hb dL_clean_3 rfl (lv_at hl 1 rfl) ?_
  refine lh_callT (As := [.int x]) (rest := [.int 0, .ref o]) ⟨hx, hb, hml, hown, hts⟩ (iX4_clean l D d L rc_s A w L2 (fun z => hwB (hAB w z)) hl0 x (lh_none x)) (cwV 1 hts gL_clean_X4_clean rfl rfl rfl (by decide +kernel) ⟨Nat.le_of_ble_eq_true rfl, Nat.le_of_ble_eq_true rfl⟩) hK hX hW hAB hV rfl hl.1 (Nat.le_of_ble_eq_true rfl) dL_clean_4 ⟨Nat.le_of_ble_eq_true rfl, Nat.le_of_ble_eq_true rfl⟩ rfl (fun ce q9 H locs hq hS hce hcv hcl => ?_)
  have hP := rf_keep1 hP (fun z => hq o z hoA)
  refine vx_catch (name := "java/lang/IndexOutOfBoundsException") hown [] ⟨0, 9, 12, 20⟩ [] (by rw [htab]; rfl) (fun z hz => nomatch hz) (by decide) (by decide) (hts (.classLink RL 20 "java/lang/IndexOutOfBoundsException") (by decide +kernel)) (va_Nw.use rfl hX.2.2.2.1.1) hce hcv hcl ?_
  refine lv_astore_n (lv' := [(3, .ref q9), (0, .ref w), (1, .int x), (2, .ref o)]) hx hb dL_clean_12 rfl hl (by decide) rfl (fun ls hl => ?_)
  refine lv_iconst (v := 1) hx hb dL_clean_13 (by decide) ?_
  exact W.iret (v := 1) hx hb hr (fun U9 ht hW9 => ⟨⟨1, (), rfl, rfl, by show va_P D vwCl _ U9.heap; rw [ht]; exact hP⟩, hS.F ht⟩) hS.2.2 dL_clean_14
set_option maxHeartbeats 4000000 in
set_option maxRecDepth 100000 in
/-- the law: ofRoom -/
theorem hT_ofRoom (l : Launch) (D : va_G) (d : hs_Dm) (w : Nat) (L L2 : hs_Lo) (A A2 B : Nat → Prop) (o : Nat) (cL : ClassId) (f : Nat → Int64) (hwB : ¬ B w) (hAB : ∀ q, A q → B q) (hoB : B o) (hoA : ¬ A o) (hl0 : l.stackTraces = false) (x y : Int32) : lh_M l yL_ofRoom wsL_ofRoom ({ frames := 10, cells := 1, slots := 6, locals := 260 }) D d w L L2 A A2 B o cL f f [.ref w, .int x, .int y, .ref o] 1 1 6 := by
  refine va_MetW (cc := cL_ofRoom) (maxL := 5) (ret := (some .int)) (hh := [(0, 10, 13, 20), (0, 10, 17, 13)]) (by decide) rfl ?_
  intro p e s m args below meth c s₁ B0 hml hv
  obtain ⟨rfl, hW, hW2, hK, hX, hV, hP, hKL⟩ := hv
  have hx := B0.exec
  have hb := B0.bytes
  have hr := B0.returns
  have hts := atoms_spec (ws := wsL_ofRoom) B0.pre
  have hown : s.vm.findClass RL = some m.cls := findClass_of_methodNamed B0.named
  have hlocks := B0.notSynchronized
  have htab := vx_table (x := yL_ofRoom) B0 (hts (.codeWith yL_ofRoom cL_ofRoom 5 (some .int) [(0, 10, 13, 20), (0, 10, 17, 13)]) List.mem_cons_self)
  have hl := lv_entry ([.ref w, .int x, .int y, .ref o]) (n := 5) (Nat.le_of_ble_eq_true rfl)
  rw [lg_entry_eq]
  generalize (lg_sl ([.ref w, .int x, .int y, .ref o]) ++ List.replicate (5 - (lg_sl ([.ref w, .int x, .int y, .ref o])).length) Slot.unset).toArray = ls at hl ⊢
  have hl : lv_has ls 5 [(0, .ref w), (1, .int x), (2, .int y), (3, .ref o)] := hl
  refine lv_aload_n hx hb dL_ofRoom_0 rfl (lv_at hl 3 rfl) ?_
  refine lv_iconst (v := 0) hx hb dL_ofRoom_1 (by decide) ?_
  refine lv_aload_n hx hb dL_ofRoom_2 rfl (lv_at hl 0 rfl) ?_
  refine lv_iload_n hx hb dL_ofRoom_3 rfl (lv_at hl 1 rfl) ?_
  refine lv_iload_n hx hb dL_ofRoom_4 rfl (lv_at hl 2 rfl) ?_
  refine lh_callT (As := [.int x, .int y]) (rest := [.int 0, .ref o]) ⟨hx, hb, hml, hown, hts⟩ (iX4_ofRoom l D d L rc_s A w L2 (fun z => hwB (hAB w z)) hl0 x (lh_none x) y) (cwV 2 hts gL_ofRoom_X4_ofRoom rfl rfl rfl (by decide +kernel) ⟨Nat.le_of_ble_eq_true rfl, Nat.le_of_ble_eq_true rfl⟩) hK hX hW hAB hV rfl hl.1 (Nat.le_of_ble_eq_true rfl) dL_ofRoom_5 ⟨Nat.le_of_ble_eq_true rfl, Nat.le_of_ble_eq_true rfl⟩ rfl (fun ce q9 H locs hq hS hce hcv hcl => ?_)
  have hP := rf_keep1 hP (fun z => hq o z hoA)
  refine vx_catch (name := "java/lang/IndexOutOfBoundsException") hown [] ⟨0, 10, 13, 20⟩ [⟨0, 10, 17, 13⟩] (by rw [htab]; rfl) (fun z hz => nomatch hz) (by decide) (by decide) (hts (.classLink RL 20 "java/lang/IndexOutOfBoundsException") (by decide +kernel)) (va_Nw.use rfl hX.2.2.2.1.1) hce hcv hcl ?_
  refine lv_astore (lv' := [(4, .ref q9), (0, .ref w), (1, .int x), (2, .int y), (3, .ref o)]) hx hb dL_ofRoom_13 hl (by decide) rfl (fun ls hl => ?_)
  refine lv_iconst (v := 1) hx hb dL_ofRoom_15 (by decide) ?_
  exact W.iret (v := 1) hx hb hr (fun U9 ht hW9 => ⟨⟨1, (), rfl, rfl, by show va_P D vwCl _ U9.heap; rw [ht]; exact hP⟩, hS.F ht⟩) hS.2.2 dL_ofRoom_16
set_option maxHeartbeats 4000000 in
set_option maxRecDepth 100000 in
/-- the law: person -/
theorem hA_person_0 (l : Launch) (D : va_G) (d : hs_Dm) (w : Nat) (L L2 : hs_Lo) (A A2 B : Nat → Prop) (o : Nat) (cL : ClassId) (f : Nat → Int64) (hwB : ¬ B w) (hAB : ∀ q, A q → B q) (hoB : B o) (hoA : ¬ A o) (hl0 : l.stackTraces = false) (x y z : Int32)  (h0 : x < 0 ∨ ¬ x ≤ 999) : lh_M l yL_person wsL_person ({ frames := 10, cells := 1, slots := 6, locals := 260 }) D d w L L2 A A2 B o cL f f [.ref w, .int x, .int y, .int z, .ref o] 1 1 6 := by
  refine va_MetW (cc := cL_person) (maxL := 6) (ret := (some .int)) (hh := [(0, 12, 15, 13), (0, 12, 19, 15)]) (by decide) rfl ?_
  intro p e s m args below meth c s₁ B0 hml hv
  obtain ⟨rfl, hW, hW2, hK, hX, hV, hP, hKL⟩ := hv
  have hx := B0.exec
  have hb := B0.bytes
  have hr := B0.returns
  have hts := atoms_spec (ws := wsL_person) B0.pre
  have hown : s.vm.findClass RL = some m.cls := findClass_of_methodNamed B0.named
  have hlocks := B0.notSynchronized
  have htab := vx_table (x := yL_person) B0 (hts (.codeWith yL_person cL_person 6 (some .int) [(0, 12, 15, 13), (0, 12, 19, 15)]) List.mem_cons_self)
  have hl := lv_entry ([.ref w, .int x, .int y, .int z, .ref o]) (n := 6) (Nat.le_of_ble_eq_true rfl)
  rw [lg_entry_eq]
  generalize (lg_sl ([.ref w, .int x, .int y, .int z, .ref o]) ++ List.replicate (6 - (lg_sl ([.ref w, .int x, .int y, .int z, .ref o])).length) Slot.unset).toArray = ls at hl ⊢
  have hl : lv_has ls 6 [(0, .ref w), (1, .int x), (2, .int y), (3, .int z), (4, .ref o)] := hl
  refine lv_aload hx hb dL_person_0 (lv_at hl 4 rfl) ?_
  refine lv_iconst (v := 0) hx hb dL_person_2 (by decide) ?_
  refine lv_aload_n hx hb dL_person_3 rfl (lv_at hl 0 rfl) ?_
  refine lv_iload_n hx hb dL_person_4 rfl (lv_at hl 1 rfl) ?_
  refine lv_iload_n hx hb dL_person_5 rfl (lv_at hl 2 rfl) ?_
  refine lv_iload_n hx hb dL_person_6 rfl (lv_at hl 3 rfl) ?_
  refine lh_callT (As := [.int x, .int y, .int z]) (rest := [.int 0, .ref o]) ⟨hx, hb, hml, hown, hts⟩ (aX4_person_0 l D d L rc_s A w L2 (fun z => hwB (hAB w z)) hl0 x y z h0) (cwV 3 hts gL_person_X4_person rfl rfl rfl (by decide +kernel) ⟨Nat.le_of_ble_eq_true rfl, Nat.le_of_ble_eq_true rfl⟩) hK hX hW hAB hV rfl hl.1 (Nat.le_of_ble_eq_true rfl) dL_person_7 ⟨Nat.le_of_ble_eq_true rfl, Nat.le_of_ble_eq_true rfl⟩ rfl (fun ce q9 H locs hq hS hce hcv hcl => ?_)
  have hP := rf_keep1 hP (fun z => hq o z hoA)
  refine vx_catch (name := "java/lang/IllegalArgumentException") hown [] ⟨0, 12, 15, 13⟩ [⟨0, 12, 19, 15⟩] (by rw [htab]; rfl) (fun z hz => nomatch hz) (by decide) (by decide) (hts (.classLink RL 13 "java/lang/IllegalArgumentException") (by decide +kernel)) (va_Nw.use rfl hX.2.2.2.1.2.1) hce hcv hcl ?_
  refine lv_astore (lv' := [(5, .ref q9), (0, .ref w), (1, .int x), (2, .int y), (3, .int z), (4, .ref o)]) hx hb dL_person_15 hl (by decide) rfl (fun ls hl => ?_)
  refine lv_iconst (v := 1) hx hb dL_person_17 (by decide) ?_
  exact W.iret (v := 1) hx hb hr (fun U9 ht hW9 => ⟨⟨1, (), rfl, rfl, by show va_P D vwCl _ U9.heap; rw [ht]; exact hP⟩, hS.F ht⟩) hS.2.2 dL_person_18
set_option maxHeartbeats 4000000 in
set_option maxRecDepth 100000 in
/-- the law: person -/
theorem hA_person_1 (l : Launch) (D : va_G) (d : hs_Dm) (w : Nat) (L L2 : hs_Lo) (A A2 B : Nat → Prop) (o : Nat) (cL : ClassId) (f : Nat → Int64) (hwB : ¬ B w) (hAB : ∀ q, A q → B q) (hoB : B o) (hoA : ¬ A o) (hl0 : l.stackTraces = false) (x y z : Int32) (h1 : ¬ x < 0) (g1 : x ≤ 999) (h0 : y < 0 ∨ ¬ y ≤ 999) : lh_M l yL_person wsL_person ({ frames := 10, cells := 1, slots := 6, locals := 260 }) D d w L L2 A A2 B o cL f f [.ref w, .int x, .int y, .int z, .ref o] 1 1 6 := by
  refine va_MetW (cc := cL_person) (maxL := 6) (ret := (some .int)) (hh := [(0, 12, 15, 13), (0, 12, 19, 15)]) (by decide) rfl ?_
  intro p e s m args below meth c s₁ B0 hml hv
  obtain ⟨rfl, hW, hW2, hK, hX, hV, hP, hKL⟩ := hv
  have hx := B0.exec
  have hb := B0.bytes
  have hr := B0.returns
  have hts := atoms_spec (ws := wsL_person) B0.pre
  have hown : s.vm.findClass RL = some m.cls := findClass_of_methodNamed B0.named
  have hlocks := B0.notSynchronized
  have htab := vx_table (x := yL_person) B0 (hts (.codeWith yL_person cL_person 6 (some .int) [(0, 12, 15, 13), (0, 12, 19, 15)]) List.mem_cons_self)
  have hl := lv_entry ([.ref w, .int x, .int y, .int z, .ref o]) (n := 6) (Nat.le_of_ble_eq_true rfl)
  rw [lg_entry_eq]
  generalize (lg_sl ([.ref w, .int x, .int y, .int z, .ref o]) ++ List.replicate (6 - (lg_sl ([.ref w, .int x, .int y, .int z, .ref o])).length) Slot.unset).toArray = ls at hl ⊢
  have hl : lv_has ls 6 [(0, .ref w), (1, .int x), (2, .int y), (3, .int z), (4, .ref o)] := hl
  refine lv_aload hx hb dL_person_0 (lv_at hl 4 rfl) ?_
  refine lv_iconst (v := 0) hx hb dL_person_2 (by decide) ?_
  refine lv_aload_n hx hb dL_person_3 rfl (lv_at hl 0 rfl) ?_
  refine lv_iload_n hx hb dL_person_4 rfl (lv_at hl 1 rfl) ?_
  refine lv_iload_n hx hb dL_person_5 rfl (lv_at hl 2 rfl) ?_
  refine lv_iload_n hx hb dL_person_6 rfl (lv_at hl 3 rfl) ?_
  refine lh_callT (As := [.int x, .int y, .int z]) (rest := [.int 0, .ref o]) ⟨hx, hb, hml, hown, hts⟩ (aX4_person_1 l D d L rc_s A w L2 (fun z => hwB (hAB w z)) hl0 x y z h1 g1 h0) (cwV 3 hts gL_person_X4_person rfl rfl rfl (by decide +kernel) ⟨Nat.le_of_ble_eq_true rfl, Nat.le_of_ble_eq_true rfl⟩) hK hX hW hAB hV rfl hl.1 (Nat.le_of_ble_eq_true rfl) dL_person_7 ⟨Nat.le_of_ble_eq_true rfl, Nat.le_of_ble_eq_true rfl⟩ rfl (fun ce q9 H locs hq hS hce hcv hcl => ?_)
  have hP := rf_keep1 hP (fun z => hq o z hoA)
  refine vx_catch (name := "java/lang/IllegalArgumentException") hown [] ⟨0, 12, 15, 13⟩ [⟨0, 12, 19, 15⟩] (by rw [htab]; rfl) (fun z hz => nomatch hz) (by decide) (by decide) (hts (.classLink RL 13 "java/lang/IllegalArgumentException") (by decide +kernel)) (va_Nw.use rfl hX.2.2.2.1.2.1) hce hcv hcl ?_
  refine lv_astore (lv' := [(5, .ref q9), (0, .ref w), (1, .int x), (2, .int y), (3, .int z), (4, .ref o)]) hx hb dL_person_15 hl (by decide) rfl (fun ls hl => ?_)
  refine lv_iconst (v := 1) hx hb dL_person_17 (by decide) ?_
  exact W.iret (v := 1) hx hb hr (fun U9 ht hW9 => ⟨⟨1, (), rfl, rfl, by show va_P D vwCl _ U9.heap; rw [ht]; exact hP⟩, hS.F ht⟩) hS.2.2 dL_person_18
set_option maxHeartbeats 4000000 in
set_option maxRecDepth 100000 in
/-- the law: person -/
theorem hA_person_2 (l : Launch) (D : va_G) (d : hs_Dm) (w : Nat) (L L2 : hs_Lo) (A A2 B : Nat → Prop) (o : Nat) (cL : ClassId) (f : Nat → Int64) (hwB : ¬ B w) (hAB : ∀ q, A q → B q) (hoB : B o) (hoA : ¬ A o) (hl0 : l.stackTraces = false) (x y z : Int32) (h1 : ¬ x < 0) (g1 : x ≤ 999) (h2 : ¬ y < 0) (g2 : y ≤ 999) (h0 : z < 0 ∨ ¬ z ≤ 999) : lh_M l yL_person wsL_person ({ frames := 10, cells := 1, slots := 6, locals := 260 }) D d w L L2 A A2 B o cL f f [.ref w, .int x, .int y, .int z, .ref o] 1 1 6 := by
  refine va_MetW (cc := cL_person) (maxL := 6) (ret := (some .int)) (hh := [(0, 12, 15, 13), (0, 12, 19, 15)]) (by decide) rfl ?_
  intro p e s m args below meth c s₁ B0 hml hv
  obtain ⟨rfl, hW, hW2, hK, hX, hV, hP, hKL⟩ := hv
  have hx := B0.exec
  have hb := B0.bytes
  have hr := B0.returns
  have hts := atoms_spec (ws := wsL_person) B0.pre
  have hown : s.vm.findClass RL = some m.cls := findClass_of_methodNamed B0.named
  have hlocks := B0.notSynchronized
  have htab := vx_table (x := yL_person) B0 (hts (.codeWith yL_person cL_person 6 (some .int) [(0, 12, 15, 13), (0, 12, 19, 15)]) List.mem_cons_self)
  have hl := lv_entry ([.ref w, .int x, .int y, .int z, .ref o]) (n := 6) (Nat.le_of_ble_eq_true rfl)
  rw [lg_entry_eq]
  generalize (lg_sl ([.ref w, .int x, .int y, .int z, .ref o]) ++ List.replicate (6 - (lg_sl ([.ref w, .int x, .int y, .int z, .ref o])).length) Slot.unset).toArray = ls at hl ⊢
  have hl : lv_has ls 6 [(0, .ref w), (1, .int x), (2, .int y), (3, .int z), (4, .ref o)] := hl
  refine lv_aload hx hb dL_person_0 (lv_at hl 4 rfl) ?_
  refine lv_iconst (v := 0) hx hb dL_person_2 (by decide) ?_
  refine lv_aload_n hx hb dL_person_3 rfl (lv_at hl 0 rfl) ?_
  refine lv_iload_n hx hb dL_person_4 rfl (lv_at hl 1 rfl) ?_
  refine lv_iload_n hx hb dL_person_5 rfl (lv_at hl 2 rfl) ?_
  refine lv_iload_n hx hb dL_person_6 rfl (lv_at hl 3 rfl) ?_
  refine lh_callT (As := [.int x, .int y, .int z]) (rest := [.int 0, .ref o]) ⟨hx, hb, hml, hown, hts⟩ (aX4_person_2 l D d L rc_s A w L2 (fun z => hwB (hAB w z)) hl0 x y z h1 g1 h2 g2 h0) (cwV 3 hts gL_person_X4_person rfl rfl rfl (by decide +kernel) ⟨Nat.le_of_ble_eq_true rfl, Nat.le_of_ble_eq_true rfl⟩) hK hX hW hAB hV rfl hl.1 (Nat.le_of_ble_eq_true rfl) dL_person_7 ⟨Nat.le_of_ble_eq_true rfl, Nat.le_of_ble_eq_true rfl⟩ rfl (fun ce q9 H locs hq hS hce hcv hcl => ?_)
  have hP := rf_keep1 hP (fun z => hq o z hoA)
  refine vx_catch (name := "java/lang/IllegalArgumentException") hown [] ⟨0, 12, 15, 13⟩ [⟨0, 12, 19, 15⟩] (by rw [htab]; rfl) (fun z hz => nomatch hz) (by decide) (by decide) (hts (.classLink RL 13 "java/lang/IllegalArgumentException") (by decide +kernel)) (va_Nw.use rfl hX.2.2.2.1.2.1) hce hcv hcl ?_
  refine lv_astore (lv' := [(5, .ref q9), (0, .ref w), (1, .int x), (2, .int y), (3, .int z), (4, .ref o)]) hx hb dL_person_15 hl (by decide) rfl (fun ls hl => ?_)
  refine lv_iconst (v := 1) hx hb dL_person_17 (by decide) ?_
  exact W.iret (v := 1) hx hb hr (fun U9 ht hW9 => ⟨⟨1, (), rfl, rfl, by show va_P D vwCl _ U9.heap; rw [ht]; exact hP⟩, hS.F ht⟩) hS.2.2 dL_person_18
set_option maxHeartbeats 4000000 in
set_option maxRecDepth 100000 in
/-- the law: room -/
theorem hA_room_0 (l : Launch) (D : va_G) (d : hs_Dm) (w : Nat) (L L2 : hs_Lo) (A A2 B : Nat → Prop) (o : Nat) (cL : ClassId) (f : Nat → Int64) (hwB : ¬ B w) (hAB : ∀ q, A q → B q) (hoB : B o) (hoA : ¬ A o) (hl0 : l.stackTraces = false) (x y : Int32)  (h0 : x < 0 ∨ ¬ x ≤ 9) : lh_M l yL_room wsL_room ({ frames := 10, cells := 1, slots := 6, locals := 260 }) D d w L L2 A A2 B o cL f f [.ref w, .int x, .int y, .ref o] 1 1 6 := by
  refine va_MetW (cc := cL_room) (maxL := 5) (ret := (some .int)) (hh := [(0, 10, 13, 13), (0, 10, 17, 15)]) (by decide) rfl ?_
  intro p e s m args below meth c s₁ B0 hml hv
  obtain ⟨rfl, hW, hW2, hK, hX, hV, hP, hKL⟩ := hv
  have hx := B0.exec
  have hb := B0.bytes
  have hr := B0.returns
  have hts := atoms_spec (ws := wsL_room) B0.pre
  have hown : s.vm.findClass RL = some m.cls := findClass_of_methodNamed B0.named
  have hlocks := B0.notSynchronized
  have htab := vx_table (x := yL_room) B0 (hts (.codeWith yL_room cL_room 5 (some .int) [(0, 10, 13, 13), (0, 10, 17, 15)]) List.mem_cons_self)
  have hl := lv_entry ([.ref w, .int x, .int y, .ref o]) (n := 5) (Nat.le_of_ble_eq_true rfl)
  rw [lg_entry_eq]
  generalize (lg_sl ([.ref w, .int x, .int y, .ref o]) ++ List.replicate (5 - (lg_sl ([.ref w, .int x, .int y, .ref o])).length) Slot.unset).toArray = ls at hl ⊢
  have hl : lv_has ls 5 [(0, .ref w), (1, .int x), (2, .int y), (3, .ref o)] := hl
  refine lv_aload_n hx hb dL_room_0 rfl (lv_at hl 3 rfl) ?_
  refine lv_iconst (v := 0) hx hb dL_room_1 (by decide) ?_
  refine lv_aload_n hx hb dL_room_2 rfl (lv_at hl 0 rfl) ?_
  refine lv_iload_n hx hb dL_room_3 rfl (lv_at hl 1 rfl) ?_
  refine lv_iload_n hx hb dL_room_4 rfl (lv_at hl 2 rfl) ?_
  refine lh_callT (As := [.int x, .int y]) (rest := [.int 0, .ref o]) ⟨hx, hb, hml, hown, hts⟩ (aX4_room_0 l D d L rc_s A w L2 (fun z => hwB (hAB w z)) hl0 x y h0) (cwV 2 hts gL_room_X4_room rfl rfl rfl (by decide +kernel) ⟨Nat.le_of_ble_eq_true rfl, Nat.le_of_ble_eq_true rfl⟩) hK hX hW hAB hV rfl hl.1 (Nat.le_of_ble_eq_true rfl) dL_room_5 ⟨Nat.le_of_ble_eq_true rfl, Nat.le_of_ble_eq_true rfl⟩ rfl (fun ce q9 H locs hq hS hce hcv hcl => ?_)
  have hP := rf_keep1 hP (fun z => hq o z hoA)
  refine vx_catch (name := "java/lang/IllegalArgumentException") hown [] ⟨0, 10, 13, 13⟩ [⟨0, 10, 17, 15⟩] (by rw [htab]; rfl) (fun z hz => nomatch hz) (by decide) (by decide) (hts (.classLink RL 13 "java/lang/IllegalArgumentException") (by decide +kernel)) (va_Nw.use rfl hX.2.2.2.1.2.1) hce hcv hcl ?_
  refine lv_astore (lv' := [(4, .ref q9), (0, .ref w), (1, .int x), (2, .int y), (3, .ref o)]) hx hb dL_room_13 hl (by decide) rfl (fun ls hl => ?_)
  refine lv_iconst (v := 1) hx hb dL_room_15 (by decide) ?_
  exact W.iret (v := 1) hx hb hr (fun U9 ht hW9 => ⟨⟨1, (), rfl, rfl, by show va_P D vwCl _ U9.heap; rw [ht]; exact hP⟩, hS.F ht⟩) hS.2.2 dL_room_16
set_option maxHeartbeats 4000000 in
set_option maxRecDepth 100000 in
/-- the law: room -/
theorem hA_room_1 (l : Launch) (D : va_G) (d : hs_Dm) (w : Nat) (L L2 : hs_Lo) (A A2 B : Nat → Prop) (o : Nat) (cL : ClassId) (f : Nat → Int64) (hwB : ¬ B w) (hAB : ∀ q, A q → B q) (hoB : B o) (hoA : ¬ A o) (hl0 : l.stackTraces = false) (x y : Int32) (h1 : ¬ x < 0) (g1 : x ≤ 9) (h0 : y < 1 ∨ ¬ y ≤ 4) : lh_M l yL_room wsL_room ({ frames := 10, cells := 1, slots := 6, locals := 260 }) D d w L L2 A A2 B o cL f f [.ref w, .int x, .int y, .ref o] 1 1 6 := by
  refine va_MetW (cc := cL_room) (maxL := 5) (ret := (some .int)) (hh := [(0, 10, 13, 13), (0, 10, 17, 15)]) (by decide) rfl ?_
  intro p e s m args below meth c s₁ B0 hml hv
  obtain ⟨rfl, hW, hW2, hK, hX, hV, hP, hKL⟩ := hv
  have hx := B0.exec
  have hb := B0.bytes
  have hr := B0.returns
  have hts := atoms_spec (ws := wsL_room) B0.pre
  have hown : s.vm.findClass RL = some m.cls := findClass_of_methodNamed B0.named
  have hlocks := B0.notSynchronized
  have htab := vx_table (x := yL_room) B0 (hts (.codeWith yL_room cL_room 5 (some .int) [(0, 10, 13, 13), (0, 10, 17, 15)]) List.mem_cons_self)
  have hl := lv_entry ([.ref w, .int x, .int y, .ref o]) (n := 5) (Nat.le_of_ble_eq_true rfl)
  rw [lg_entry_eq]
  generalize (lg_sl ([.ref w, .int x, .int y, .ref o]) ++ List.replicate (5 - (lg_sl ([.ref w, .int x, .int y, .ref o])).length) Slot.unset).toArray = ls at hl ⊢
  have hl : lv_has ls 5 [(0, .ref w), (1, .int x), (2, .int y), (3, .ref o)] := hl
  refine lv_aload_n hx hb dL_room_0 rfl (lv_at hl 3 rfl) ?_
  refine lv_iconst (v := 0) hx hb dL_room_1 (by decide) ?_
  refine lv_aload_n hx hb dL_room_2 rfl (lv_at hl 0 rfl) ?_
  refine lv_iload_n hx hb dL_room_3 rfl (lv_at hl 1 rfl) ?_
  refine lv_iload_n hx hb dL_room_4 rfl (lv_at hl 2 rfl) ?_
  refine lh_callT (As := [.int x, .int y]) (rest := [.int 0, .ref o]) ⟨hx, hb, hml, hown, hts⟩ (aX4_room_1 l D d L rc_s A w L2 (fun z => hwB (hAB w z)) hl0 x y h1 g1 h0) (cwV 2 hts gL_room_X4_room rfl rfl rfl (by decide +kernel) ⟨Nat.le_of_ble_eq_true rfl, Nat.le_of_ble_eq_true rfl⟩) hK hX hW hAB hV rfl hl.1 (Nat.le_of_ble_eq_true rfl) dL_room_5 ⟨Nat.le_of_ble_eq_true rfl, Nat.le_of_ble_eq_true rfl⟩ rfl (fun ce q9 H locs hq hS hce hcv hcl => ?_)
  have hP := rf_keep1 hP (fun z => hq o z hoA)
  refine vx_catch (name := "java/lang/IllegalArgumentException") hown [] ⟨0, 10, 13, 13⟩ [⟨0, 10, 17, 15⟩] (by rw [htab]; rfl) (fun z hz => nomatch hz) (by decide) (by decide) (hts (.classLink RL 13 "java/lang/IllegalArgumentException") (by decide +kernel)) (va_Nw.use rfl hX.2.2.2.1.2.1) hce hcv hcl ?_
  refine lv_astore (lv' := [(4, .ref q9), (0, .ref w), (1, .int x), (2, .int y), (3, .ref o)]) hx hb dL_room_13 hl (by decide) rfl (fun ls hl => ?_)
  refine lv_iconst (v := 1) hx hb dL_room_15 (by decide) ?_
  exact W.iret (v := 1) hx hb hr (fun U9 ht hW9 => ⟨⟨1, (), rfl, rfl, by show va_P D vwCl _ U9.heap; rw [ht]; exact hP⟩, hS.F ht⟩) hS.2.2 dL_room_16
set_option maxHeartbeats 4000000 in
set_option maxRecDepth 100000 in
/-- the law: price -/
theorem hA_price_0 (l : Launch) (D : va_G) (d : hs_Dm) (w : Nat) (L L2 : hs_Lo) (A A2 B : Nat → Prop) (o : Nat) (cL : ClassId) (f : Nat → Int64) (hwB : ¬ B w) (hAB : ∀ q, A q → B q) (hoB : B o) (hoA : ¬ A o) (hl0 : l.stackTraces = false) (x : Int32)  (h0 : x < 0 ∨ ¬ x ≤ 20) : lh_M l yL_price wsL_price ({ frames := 10, cells := 1, slots := 6, locals := 260 }) D d w L L2 A A2 B o cL f f [.ref w, .int x, .ref o] 1 1 6 := by
  refine va_MetW (cc := cL_price) (maxL := 4) (ret := (some .int)) (hh := [(0, 9, 12, 13)]) (by decide) rfl ?_
  intro p e s m args below meth c s₁ B0 hml hv
  obtain ⟨rfl, hW, hW2, hK, hX, hV, hP, hKL⟩ := hv
  have hx := B0.exec
  have hb := B0.bytes
  have hr := B0.returns
  have hts := atoms_spec (ws := wsL_price) B0.pre
  have hown : s.vm.findClass RL = some m.cls := findClass_of_methodNamed B0.named
  have hlocks := B0.notSynchronized
  have htab := vx_table (x := yL_price) B0 (hts (.codeWith yL_price cL_price 4 (some .int) [(0, 9, 12, 13)]) List.mem_cons_self)
  have hl := lv_entry ([.ref w, .int x, .ref o]) (n := 4) (Nat.le_of_ble_eq_true rfl)
  rw [lg_entry_eq]
  generalize (lg_sl ([.ref w, .int x, .ref o]) ++ List.replicate (4 - (lg_sl ([.ref w, .int x, .ref o])).length) Slot.unset).toArray = ls at hl ⊢
  have hl : lv_has ls 4 [(0, .ref w), (1, .int x), (2, .ref o)] := hl
  refine lv_aload_n hx hb dL_price_0 rfl (lv_at hl 2 rfl) ?_
  refine lv_iconst (v := 0) hx hb dL_price_1 (by decide) ?_
  refine lv_aload_n hx hb dL_price_2 rfl (lv_at hl 0 rfl) ?_
  refine lv_iload_n hx hb dL_price_3 rfl (lv_at hl 1 rfl) ?_
  refine lh_callT (As := [.int x]) (rest := [.int 0, .ref o]) ⟨hx, hb, hml, hown, hts⟩ (aX4_price_0 l D d L rc_s A w L2 (fun z => hwB (hAB w z)) hl0 x h0) (cwV 1 hts gL_price_X4_price rfl rfl rfl (by decide +kernel) ⟨Nat.le_of_ble_eq_true rfl, Nat.le_of_ble_eq_true rfl⟩) hK hX hW hAB hV rfl hl.1 (Nat.le_of_ble_eq_true rfl) dL_price_4 ⟨Nat.le_of_ble_eq_true rfl, Nat.le_of_ble_eq_true rfl⟩ rfl (fun ce q9 H locs hq hS hce hcv hcl => ?_)
  have hP := rf_keep1 hP (fun z => hq o z hoA)
  refine vx_catch (name := "java/lang/IllegalArgumentException") hown [] ⟨0, 9, 12, 13⟩ [] (by rw [htab]; rfl) (fun z hz => nomatch hz) (by decide) (by decide) (hts (.classLink RL 13 "java/lang/IllegalArgumentException") (by decide +kernel)) (va_Nw.use rfl hX.2.2.2.1.2.1) hce hcv hcl ?_
  refine lv_astore_n (lv' := [(3, .ref q9), (0, .ref w), (1, .int x), (2, .ref o)]) hx hb dL_price_12 rfl hl (by decide) rfl (fun ls hl => ?_)
  refine lv_iconst (v := 1) hx hb dL_price_13 (by decide) ?_
  exact W.iret (v := 1) hx hb hr (fun U9 ht hW9 => ⟨⟨1, (), rfl, rfl, by show va_P D vwCl _ U9.heap; rw [ht]; exact hP⟩, hS.F ht⟩) hS.2.2 dL_price_14
set_option maxHeartbeats 4000000 in
set_option maxRecDepth 100000 in
/-- the law: pass -/
theorem hA_pass_0 (l : Launch) (D : va_G) (d : hs_Dm) (w : Nat) (L L2 : hs_Lo) (A A2 B : Nat → Prop) (o : Nat) (cL : ClassId) (f : Nat → Int64) (hwB : ¬ B w) (hAB : ∀ q, A q → B q) (hoB : B o) (hoA : ¬ A o) (hl0 : l.stackTraces = false) (x y z : Int32)  (h0 : x < 1 ∨ ¬ x ≤ 40) : lh_M l yL_pass wsL_pass ({ frames := 10, cells := 1, slots := 6, locals := 260 }) D d w L L2 A A2 B o cL f f [.ref w, .int x, .int y, .int z, .ref o] 1 1 6 := by
  refine va_MetW (cc := cL_pass) (maxL := 6) (ret := (some .int)) (hh := [(0, 12, 15, 13)]) (by decide) rfl ?_
  intro p e s m args below meth c s₁ B0 hml hv
  obtain ⟨rfl, hW, hW2, hK, hX, hV, hP, hKL⟩ := hv
  have hx := B0.exec
  have hb := B0.bytes
  have hr := B0.returns
  have hts := atoms_spec (ws := wsL_pass) B0.pre
  have hown : s.vm.findClass RL = some m.cls := findClass_of_methodNamed B0.named
  have hlocks := B0.notSynchronized
  have htab := vx_table (x := yL_pass) B0 (hts (.codeWith yL_pass cL_pass 6 (some .int) [(0, 12, 15, 13)]) List.mem_cons_self)
  have hl := lv_entry ([.ref w, .int x, .int y, .int z, .ref o]) (n := 6) (Nat.le_of_ble_eq_true rfl)
  rw [lg_entry_eq]
  generalize (lg_sl ([.ref w, .int x, .int y, .int z, .ref o]) ++ List.replicate (6 - (lg_sl ([.ref w, .int x, .int y, .int z, .ref o])).length) Slot.unset).toArray = ls at hl ⊢
  have hl : lv_has ls 6 [(0, .ref w), (1, .int x), (2, .int y), (3, .int z), (4, .ref o)] := hl
  refine lv_aload hx hb dL_pass_0 (lv_at hl 4 rfl) ?_
  refine lv_iconst (v := 0) hx hb dL_pass_2 (by decide) ?_
  refine lv_aload_n hx hb dL_pass_3 rfl (lv_at hl 0 rfl) ?_
  refine lv_iload_n hx hb dL_pass_4 rfl (lv_at hl 1 rfl) ?_
  refine lv_iload_n hx hb dL_pass_5 rfl (lv_at hl 2 rfl) ?_
  refine lv_iload_n hx hb dL_pass_6 rfl (lv_at hl 3 rfl) ?_
  refine lh_callT (As := [.int x, .int y, .int z]) (rest := [.int 0, .ref o]) ⟨hx, hb, hml, hown, hts⟩ (aX4_pass_0 l D d L rc_s A w L2 (fun z => hwB (hAB w z)) hl0 x y z h0) (cwV 3 hts gL_pass_X4_pass rfl rfl rfl (by decide +kernel) ⟨Nat.le_of_ble_eq_true rfl, Nat.le_of_ble_eq_true rfl⟩) hK hX hW hAB hV rfl hl.1 (Nat.le_of_ble_eq_true rfl) dL_pass_7 ⟨Nat.le_of_ble_eq_true rfl, Nat.le_of_ble_eq_true rfl⟩ rfl (fun ce q9 H locs hq hS hce hcv hcl => ?_)
  have hP := rf_keep1 hP (fun z => hq o z hoA)
  refine vx_catch (name := "java/lang/IllegalArgumentException") hown [] ⟨0, 12, 15, 13⟩ [] (by rw [htab]; rfl) (fun z hz => nomatch hz) (by decide) (by decide) (hts (.classLink RL 13 "java/lang/IllegalArgumentException") (by decide +kernel)) (va_Nw.use rfl hX.2.2.2.1.2.1) hce hcv hcl ?_
  refine lv_astore (lv' := [(5, .ref q9), (0, .ref w), (1, .int x), (2, .int y), (3, .int z), (4, .ref o)]) hx hb dL_pass_15 hl (by decide) rfl (fun ls hl => ?_)
  refine lv_iconst (v := 1) hx hb dL_pass_17 (by decide) ?_
  exact W.iret (v := 1) hx hb hr (fun U9 ht hW9 => ⟨⟨1, (), rfl, rfl, by show va_P D vwCl _ U9.heap; rw [ht]; exact hP⟩, hS.F ht⟩) hS.2.2 dL_pass_18
set_option maxHeartbeats 4000000 in
set_option maxRecDepth 100000 in
/-- the law: pass -/
theorem hA_pass_1 (l : Launch) (D : va_G) (d : hs_Dm) (w : Nat) (L L2 : hs_Lo) (A A2 B : Nat → Prop) (o : Nat) (cL : ClassId) (f : Nat → Int64) (hwB : ¬ B w) (hAB : ∀ q, A q → B q) (hoB : B o) (hoA : ¬ A o) (hl0 : l.stackTraces = false) (x y z : Int32) (h1 : ¬ x < 1) (g1 : x ≤ 40) (h0 : y < 0 ∨ ¬ y ≤ 2000) : lh_M l yL_pass wsL_pass ({ frames := 10, cells := 1, slots := 6, locals := 260 }) D d w L L2 A A2 B o cL f f [.ref w, .int x, .int y, .int z, .ref o] 1 1 6 := by
  refine va_MetW (cc := cL_pass) (maxL := 6) (ret := (some .int)) (hh := [(0, 12, 15, 13)]) (by decide) rfl ?_
  intro p e s m args below meth c s₁ B0 hml hv
  obtain ⟨rfl, hW, hW2, hK, hX, hV, hP, hKL⟩ := hv
  have hx := B0.exec
  have hb := B0.bytes
  have hr := B0.returns
  have hts := atoms_spec (ws := wsL_pass) B0.pre
  have hown : s.vm.findClass RL = some m.cls := findClass_of_methodNamed B0.named
  have hlocks := B0.notSynchronized
  have htab := vx_table (x := yL_pass) B0 (hts (.codeWith yL_pass cL_pass 6 (some .int) [(0, 12, 15, 13)]) List.mem_cons_self)
  have hl := lv_entry ([.ref w, .int x, .int y, .int z, .ref o]) (n := 6) (Nat.le_of_ble_eq_true rfl)
  rw [lg_entry_eq]
  generalize (lg_sl ([.ref w, .int x, .int y, .int z, .ref o]) ++ List.replicate (6 - (lg_sl ([.ref w, .int x, .int y, .int z, .ref o])).length) Slot.unset).toArray = ls at hl ⊢
  have hl : lv_has ls 6 [(0, .ref w), (1, .int x), (2, .int y), (3, .int z), (4, .ref o)] := hl
  refine lv_aload hx hb dL_pass_0 (lv_at hl 4 rfl) ?_
  refine lv_iconst (v := 0) hx hb dL_pass_2 (by decide) ?_
  refine lv_aload_n hx hb dL_pass_3 rfl (lv_at hl 0 rfl) ?_
  refine lv_iload_n hx hb dL_pass_4 rfl (lv_at hl 1 rfl) ?_
  refine lv_iload_n hx hb dL_pass_5 rfl (lv_at hl 2 rfl) ?_
  refine lv_iload_n hx hb dL_pass_6 rfl (lv_at hl 3 rfl) ?_
  refine lh_callT (As := [.int x, .int y, .int z]) (rest := [.int 0, .ref o]) ⟨hx, hb, hml, hown, hts⟩ (aX4_pass_1 l D d L rc_s A w L2 (fun z => hwB (hAB w z)) hl0 x y z h1 g1 h0) (cwV 3 hts gL_pass_X4_pass rfl rfl rfl (by decide +kernel) ⟨Nat.le_of_ble_eq_true rfl, Nat.le_of_ble_eq_true rfl⟩) hK hX hW hAB hV rfl hl.1 (Nat.le_of_ble_eq_true rfl) dL_pass_7 ⟨Nat.le_of_ble_eq_true rfl, Nat.le_of_ble_eq_true rfl⟩ rfl (fun ce q9 H locs hq hS hce hcv hcl => ?_)
  have hP := rf_keep1 hP (fun z => hq o z hoA)
  refine vx_catch (name := "java/lang/IllegalArgumentException") hown [] ⟨0, 12, 15, 13⟩ [] (by rw [htab]; rfl) (fun z hz => nomatch hz) (by decide) (by decide) (hts (.classLink RL 13 "java/lang/IllegalArgumentException") (by decide +kernel)) (va_Nw.use rfl hX.2.2.2.1.2.1) hce hcv hcl ?_
  refine lv_astore (lv' := [(5, .ref q9), (0, .ref w), (1, .int x), (2, .int y), (3, .int z), (4, .ref o)]) hx hb dL_pass_15 hl (by decide) rfl (fun ls hl => ?_)
  refine lv_iconst (v := 1) hx hb dL_pass_17 (by decide) ?_
  exact W.iret (v := 1) hx hb hr (fun U9 ht hW9 => ⟨⟨1, (), rfl, rfl, by show va_P D vwCl _ U9.heap; rw [ht]; exact hP⟩, hS.F ht⟩) hS.2.2 dL_pass_18
set_option maxHeartbeats 4000000 in
set_option maxRecDepth 100000 in
/-- the law: pass -/
theorem hA_pass_2 (l : Launch) (D : va_G) (d : hs_Dm) (w : Nat) (L L2 : hs_Lo) (A A2 B : Nat → Prop) (o : Nat) (cL : ClassId) (f : Nat → Int64) (hwB : ¬ B w) (hAB : ∀ q, A q → B q) (hoB : B o) (hoA : ¬ A o) (hl0 : l.stackTraces = false) (x y z : Int32) (h1 : ¬ x < 1) (g1 : x ≤ 40) (h2 : ¬ y < 0) (g2 : y ≤ 2000) (h0 : z < 0 ∨ ¬ z ≤ 40) : lh_M l yL_pass wsL_pass ({ frames := 10, cells := 1, slots := 6, locals := 260 }) D d w L L2 A A2 B o cL f f [.ref w, .int x, .int y, .int z, .ref o] 1 1 6 := by
  refine va_MetW (cc := cL_pass) (maxL := 6) (ret := (some .int)) (hh := [(0, 12, 15, 13)]) (by decide) rfl ?_
  intro p e s m args below meth c s₁ B0 hml hv
  obtain ⟨rfl, hW, hW2, hK, hX, hV, hP, hKL⟩ := hv
  have hx := B0.exec
  have hb := B0.bytes
  have hr := B0.returns
  have hts := atoms_spec (ws := wsL_pass) B0.pre
  have hown : s.vm.findClass RL = some m.cls := findClass_of_methodNamed B0.named
  have hlocks := B0.notSynchronized
  have htab := vx_table (x := yL_pass) B0 (hts (.codeWith yL_pass cL_pass 6 (some .int) [(0, 12, 15, 13)]) List.mem_cons_self)
  have hl := lv_entry ([.ref w, .int x, .int y, .int z, .ref o]) (n := 6) (Nat.le_of_ble_eq_true rfl)
  rw [lg_entry_eq]
  generalize (lg_sl ([.ref w, .int x, .int y, .int z, .ref o]) ++ List.replicate (6 - (lg_sl ([.ref w, .int x, .int y, .int z, .ref o])).length) Slot.unset).toArray = ls at hl ⊢
  have hl : lv_has ls 6 [(0, .ref w), (1, .int x), (2, .int y), (3, .int z), (4, .ref o)] := hl
  refine lv_aload hx hb dL_pass_0 (lv_at hl 4 rfl) ?_
  refine lv_iconst (v := 0) hx hb dL_pass_2 (by decide) ?_
  refine lv_aload_n hx hb dL_pass_3 rfl (lv_at hl 0 rfl) ?_
  refine lv_iload_n hx hb dL_pass_4 rfl (lv_at hl 1 rfl) ?_
  refine lv_iload_n hx hb dL_pass_5 rfl (lv_at hl 2 rfl) ?_
  refine lv_iload_n hx hb dL_pass_6 rfl (lv_at hl 3 rfl) ?_
  refine lh_callT (As := [.int x, .int y, .int z]) (rest := [.int 0, .ref o]) ⟨hx, hb, hml, hown, hts⟩ (aX4_pass_2 l D d L rc_s A w L2 (fun z => hwB (hAB w z)) hl0 x y z h1 g1 h2 g2 h0) (cwV 3 hts gL_pass_X4_pass rfl rfl rfl (by decide +kernel) ⟨Nat.le_of_ble_eq_true rfl, Nat.le_of_ble_eq_true rfl⟩) hK hX hW hAB hV rfl hl.1 (Nat.le_of_ble_eq_true rfl) dL_pass_7 ⟨Nat.le_of_ble_eq_true rfl, Nat.le_of_ble_eq_true rfl⟩ rfl (fun ce q9 H locs hq hS hce hcv hcl => ?_)
  have hP := rf_keep1 hP (fun z => hq o z hoA)
  refine vx_catch (name := "java/lang/IllegalArgumentException") hown [] ⟨0, 12, 15, 13⟩ [] (by rw [htab]; rfl) (fun z hz => nomatch hz) (by decide) (by decide) (hts (.classLink RL 13 "java/lang/IllegalArgumentException") (by decide +kernel)) (va_Nw.use rfl hX.2.2.2.1.2.1) hce hcv hcl ?_
  refine lv_astore (lv' := [(5, .ref q9), (0, .ref w), (1, .int x), (2, .int y), (3, .int z), (4, .ref o)]) hx hb dL_pass_15 hl (by decide) rfl (fun ls hl => ?_)
  refine lv_iconst (v := 1) hx hb dL_pass_17 (by decide) ?_
  exact W.iret (v := 1) hx hb hr (fun U9 ht hW9 => ⟨⟨1, (), rfl, rfl, by show va_P D vwCl _ U9.heap; rw [ht]; exact hP⟩, hS.F ht⟩) hS.2.2 dL_pass_18
set_option maxHeartbeats 4000000 in
set_option maxRecDepth 100000 in
/-- the law: many -/
theorem hA_many_0 (l : Launch) (D : va_G) (d : hs_Dm) (w : Nat) (L L2 : hs_Lo) (A A2 B : Nat → Prop) (o : Nat) (cL : ClassId) (f : Nat → Int64) (hwB : ¬ B w) (hAB : ∀ q, A q → B q) (hoB : B o) (hoA : ¬ A o) (hl0 : l.stackTraces = false) (x : Int32)  (h0 : x < 0 ∨ ¬ x ≤ 14) : lh_M l yL_many wsL_many ({ frames := 10, cells := 1, slots := 6, locals := 260 }) D d w L L2 A A2 B o cL f f [.ref w, .int x, .ref o] 1 1 6 := by
  refine va_MetW (cc := cL_many) (maxL := 4) (ret := (some .int)) (hh := [(0, 9, 12, 13)]) (by decide) rfl ?_
  intro p e s m args below meth c s₁ B0 hml hv
  obtain ⟨rfl, hW, hW2, hK, hX, hV, hP, hKL⟩ := hv
  have hx := B0.exec
  have hb := B0.bytes
  have hr := B0.returns
  have hts := atoms_spec (ws := wsL_many) B0.pre
  have hown : s.vm.findClass RL = some m.cls := findClass_of_methodNamed B0.named
  have hlocks := B0.notSynchronized
  have htab := vx_table (x := yL_many) B0 (hts (.codeWith yL_many cL_many 4 (some .int) [(0, 9, 12, 13)]) List.mem_cons_self)
  have hl := lv_entry ([.ref w, .int x, .ref o]) (n := 4) (Nat.le_of_ble_eq_true rfl)
  rw [lg_entry_eq]
  generalize (lg_sl ([.ref w, .int x, .ref o]) ++ List.replicate (4 - (lg_sl ([.ref w, .int x, .ref o])).length) Slot.unset).toArray = ls at hl ⊢
  have hl : lv_has ls 4 [(0, .ref w), (1, .int x), (2, .ref o)] := hl
  refine lv_aload_n hx hb dL_many_0 rfl (lv_at hl 2 rfl) ?_
  refine lv_iconst (v := 0) hx hb dL_many_1 (by decide) ?_
  refine lv_aload_n hx hb dL_many_2 rfl (lv_at hl 0 rfl) ?_
  refine lv_iload_n hx hb dL_many_3 rfl (lv_at hl 1 rfl) ?_
  refine lh_callT (As := [.int x]) (rest := [.int 0, .ref o]) ⟨hx, hb, hml, hown, hts⟩ (aX4_many_0 l D d L rc_s A w L2 (fun z => hwB (hAB w z)) hl0 x h0) (cwV 1 hts gL_many_X4_many rfl rfl rfl (by decide +kernel) ⟨Nat.le_of_ble_eq_true rfl, Nat.le_of_ble_eq_true rfl⟩) hK hX hW hAB hV rfl hl.1 (Nat.le_of_ble_eq_true rfl) dL_many_4 ⟨Nat.le_of_ble_eq_true rfl, Nat.le_of_ble_eq_true rfl⟩ rfl (fun ce q9 H locs hq hS hce hcv hcl => ?_)
  have hP := rf_keep1 hP (fun z => hq o z hoA)
  refine vx_catch (name := "java/lang/IllegalArgumentException") hown [] ⟨0, 9, 12, 13⟩ [] (by rw [htab]; rfl) (fun z hz => nomatch hz) (by decide) (by decide) (hts (.classLink RL 13 "java/lang/IllegalArgumentException") (by decide +kernel)) (va_Nw.use rfl hX.2.2.2.1.2.1) hce hcv hcl ?_
  refine lv_astore_n (lv' := [(3, .ref q9), (0, .ref w), (1, .int x), (2, .ref o)]) hx hb dL_many_12 rfl hl (by decide) rfl (fun ls hl => ?_)
  refine lv_iconst (v := 1) hx hb dL_many_13 (by decide) ?_
  exact W.iret (v := 1) hx hb hr (fun U9 ht hW9 => ⟨⟨1, (), rfl, rfl, by show va_P D vwCl _ U9.heap; rw [ht]; exact hP⟩, hS.F ht⟩) hS.2.2 dL_many_14
set_option maxHeartbeats 4000000 in
set_option maxRecDepth 100000 in
/-- the law: person -/
theorem hK_person (l : Launch) (D : va_G) (d : hs_Dm) (w : Nat) (L L2 : hs_Lo) (A A2 B : Nat → Prop) (o : Nat) (cL : ClassId) (f : Nat → Int64) (hwB : ¬ B w) (hAB : ∀ q, A q → B q) (hoB : B o) (hoA : ¬ A o) (x y z : Int32) (hx0 : ¬ x < 0) (hx9 : x ≤ 999) (hy0 : ¬ y < 0) (hy9 : y ≤ 999) (hz0 : ¬ z < 0) (hz9 : z ≤ 999) : lh_M l yL_person wsL_person ({ frames := 10, cells := 0, slots := 0, locals := 260 }) D d w L L2 A A2 B o cL f (vp_updL f (0 : Int32).toNatClampNeg (nI 0).toInt64) [.ref w, .int x, .int y, .int z, .ref o] 0 0 0 := by
  refine va_MetW (cc := cL_person) (maxL := 6) (ret := (some .int)) (hh := [(0, 12, 15, 13), (0, 12, 19, 15)]) (by decide) rfl ?_
  intro p e s m args below meth c s₁ B0 hml hv
  obtain ⟨rfl, hW, hW2, hK, hX, hV, hP, hKL⟩ := hv
  have hx := B0.exec
  have hb := B0.bytes
  have hr := B0.returns
  have hts := atoms_spec (ws := wsL_person) B0.pre
  have hown : s.vm.findClass RL = some m.cls := findClass_of_methodNamed B0.named
  have hlocks := B0.notSynchronized
  have htab := vx_table (x := yL_person) B0 (hts (.codeWith yL_person cL_person 6 (some .int) [(0, 12, 15, 13), (0, 12, 19, 15)]) List.mem_cons_self)
  have hl := lv_entry ([.ref w, .int x, .int y, .int z, .ref o]) (n := 6) (Nat.le_of_ble_eq_true rfl)
  rw [lg_entry_eq]
  generalize (lg_sl ([.ref w, .int x, .int y, .int z, .ref o]) ++ List.replicate (6 - (lg_sl ([.ref w, .int x, .int y, .int z, .ref o])).length) Slot.unset).toArray = ls at hl ⊢
  have hl : lv_has ls 6 [(0, .ref w), (1, .int x), (2, .int y), (3, .int z), (4, .ref o)] := hl
  refine lv_aload hx hb dL_person_0 (lv_at hl 4 rfl) ?_
  refine lv_iconst (v := 0) hx hb dL_person_2 (by decide) ?_
  refine lv_aload_n hx hb dL_person_3 rfl (lv_at hl 0 rfl) ?_
  refine lv_iload_n hx hb dL_person_4 rfl (lv_at hl 1 rfl) ?_
  refine lv_iload_n hx hb dL_person_5 rfl (lv_at hl 2 rfl) ?_
  refine lv_iload_n hx hb dL_person_6 rfl (lv_at hl 3 rfl) ?_
  refine lh_call (As := [.int x, .int y, .int z]) (rest := [.int 0, .ref o]) ⟨hx, hb, hml, hown, hts⟩ (kX4_person l D d L rc_s A w L2 (fun z => hwB (hAB w z)) 0 0 0 rc_s_ok (by decide) x y z hx0 hx9 hy0 hy9 hz0 hz9) (cwV 3 hts gL_person_X4_person rfl rfl rfl (by decide +kernel) ⟨Nat.le_of_ble_eq_true rfl, Nat.le_of_ble_eq_true rfl⟩) hK hX hW hAB hV rfl hl.1 (Nat.le_of_ble_eq_true rfl) dL_person_7 ⟨Nat.zero_le _, Nat.zero_le _⟩ rfl (fun r_ τ_ H locs hp hq hS => ?_)
  obtain ⟨rfl, -⟩ := hp
  have hP := rf_keep1 hP (fun z => hq o z hoA)
  refine lv_i2l hx hb dL_person_10 rfl ?_
  refine va_last hx hb hKL hP (va_D1 hoB) hS 0 0 rfl rfl (by unfold vp_in; decide) dL_person_11 (fun H locs hP hD hS => ?_)
  refine lv_goto (tgt := 23) hx hb dL_person_12 (by decide) ?_
  refine lv_iconst (v := 0) hx hb dL_person_23 (by decide) ?_
  exact W.iret (v := 0) hx hb hr (fun U9 ht hW9 => ⟨⟨0, (), rfl, rfl, by show va_P D vwCl _ U9.heap; rw [ht]; exact hP⟩, hS.F ht⟩) hS.2.2 dL_person_24
set_option maxHeartbeats 4000000 in
set_option maxRecDepth 100000 in
/-- the law: room -/
theorem hK_room (l : Launch) (D : va_G) (d : hs_Dm) (w : Nat) (L L2 : hs_Lo) (A A2 B : Nat → Prop) (o : Nat) (cL : ClassId) (f : Nat → Int64) (hwB : ¬ B w) (hAB : ∀ q, A q → B q) (hoB : B o) (hoA : ¬ A o) (x y : Int32) (hx0 : ¬ x < 0) (hx9 : x ≤ 9) (hy0 : ¬ y < 1) (hy9 : y ≤ 4) : lh_M l yL_room wsL_room ({ frames := 10, cells := 0, slots := 0, locals := 260 }) D d w L L2 A A2 B o cL f (vp_updL f (0 : Int32).toNatClampNeg (nI 0).toInt64) [.ref w, .int x, .int y, .ref o] 0 0 0 := by
  refine va_MetW (cc := cL_room) (maxL := 5) (ret := (some .int)) (hh := [(0, 10, 13, 13), (0, 10, 17, 15)]) (by decide) rfl ?_
  intro p e s m args below meth c s₁ B0 hml hv
  obtain ⟨rfl, hW, hW2, hK, hX, hV, hP, hKL⟩ := hv
  have hx := B0.exec
  have hb := B0.bytes
  have hr := B0.returns
  have hts := atoms_spec (ws := wsL_room) B0.pre
  have hown : s.vm.findClass RL = some m.cls := findClass_of_methodNamed B0.named
  have hlocks := B0.notSynchronized
  have htab := vx_table (x := yL_room) B0 (hts (.codeWith yL_room cL_room 5 (some .int) [(0, 10, 13, 13), (0, 10, 17, 15)]) List.mem_cons_self)
  have hl := lv_entry ([.ref w, .int x, .int y, .ref o]) (n := 5) (Nat.le_of_ble_eq_true rfl)
  rw [lg_entry_eq]
  generalize (lg_sl ([.ref w, .int x, .int y, .ref o]) ++ List.replicate (5 - (lg_sl ([.ref w, .int x, .int y, .ref o])).length) Slot.unset).toArray = ls at hl ⊢
  have hl : lv_has ls 5 [(0, .ref w), (1, .int x), (2, .int y), (3, .ref o)] := hl
  refine lv_aload_n hx hb dL_room_0 rfl (lv_at hl 3 rfl) ?_
  refine lv_iconst (v := 0) hx hb dL_room_1 (by decide) ?_
  refine lv_aload_n hx hb dL_room_2 rfl (lv_at hl 0 rfl) ?_
  refine lv_iload_n hx hb dL_room_3 rfl (lv_at hl 1 rfl) ?_
  refine lv_iload_n hx hb dL_room_4 rfl (lv_at hl 2 rfl) ?_
  refine lh_call (As := [.int x, .int y]) (rest := [.int 0, .ref o]) ⟨hx, hb, hml, hown, hts⟩ (kX4_room l D d L rc_s A w L2 (fun z => hwB (hAB w z)) 0 0 0 rc_s_ok (by decide) x y hx0 hx9 hy0 hy9) (cwV 2 hts gL_room_X4_room rfl rfl rfl (by decide +kernel) ⟨Nat.le_of_ble_eq_true rfl, Nat.le_of_ble_eq_true rfl⟩) hK hX hW hAB hV rfl hl.1 (Nat.le_of_ble_eq_true rfl) dL_room_5 ⟨Nat.zero_le _, Nat.zero_le _⟩ rfl (fun r_ τ_ H locs hp hq hS => ?_)
  obtain ⟨rfl, -⟩ := hp
  have hP := rf_keep1 hP (fun z => hq o z hoA)
  refine lv_i2l hx hb dL_room_8 rfl ?_
  refine va_last hx hb hKL hP (va_D1 hoB) hS 0 0 rfl rfl (by unfold vp_in; decide) dL_room_9 (fun H locs hP hD hS => ?_)
  refine lv_goto (tgt := 21) hx hb dL_room_10 (by decide) ?_
  refine lv_iconst (v := 0) hx hb dL_room_21 (by decide) ?_
  exact W.iret (v := 0) hx hb hr (fun U9 ht hW9 => ⟨⟨0, (), rfl, rfl, by show va_P D vwCl _ U9.heap; rw [ht]; exact hP⟩, hS.F ht⟩) hS.2.2 dL_room_22
set_option maxHeartbeats 4000000 in
set_option maxRecDepth 100000 in
/-- the law: price -/
theorem hK_price (l : Launch) (D : va_G) (d : hs_Dm) (w : Nat) (L L2 : hs_Lo) (A A2 B : Nat → Prop) (o : Nat) (cL : ClassId) (f : Nat → Int64) (hwB : ¬ B w) (hAB : ∀ q, A q → B q) (hoB : B o) (hoA : ¬ A o) (x : Int32) (hx0 : ¬ x < 0) (hx9 : x ≤ 20) : lh_M l yL_price wsL_price ({ frames := 10, cells := 0, slots := 0, locals := 260 }) D d w L L2 A A2 B o cL f (vp_updL f (0 : Int32).toNatClampNeg (rc_s 0 0 9).toInt64) [.ref w, .int x, .ref o] 0 0 0 := by
  refine va_MetW (cc := cL_price) (maxL := 4) (ret := (some .int)) (hh := [(0, 9, 12, 13)]) (by decide) rfl ?_
  intro p e s m args below meth c s₁ B0 hml hv
  obtain ⟨rfl, hW, hW2, hK, hX, hV, hP, hKL⟩ := hv
  have hx := B0.exec
  have hb := B0.bytes
  have hr := B0.returns
  have hts := atoms_spec (ws := wsL_price) B0.pre
  have hown : s.vm.findClass RL = some m.cls := findClass_of_methodNamed B0.named
  have hlocks := B0.notSynchronized
  have htab := vx_table (x := yL_price) B0 (hts (.codeWith yL_price cL_price 4 (some .int) [(0, 9, 12, 13)]) List.mem_cons_self)
  have hl := lv_entry ([.ref w, .int x, .ref o]) (n := 4) (Nat.le_of_ble_eq_true rfl)
  rw [lg_entry_eq]
  generalize (lg_sl ([.ref w, .int x, .ref o]) ++ List.replicate (4 - (lg_sl ([.ref w, .int x, .ref o])).length) Slot.unset).toArray = ls at hl ⊢
  have hl : lv_has ls 4 [(0, .ref w), (1, .int x), (2, .ref o)] := hl
  refine lv_aload_n hx hb dL_price_0 rfl (lv_at hl 2 rfl) ?_
  refine lv_iconst (v := 0) hx hb dL_price_1 (by decide) ?_
  refine lv_aload_n hx hb dL_price_2 rfl (lv_at hl 0 rfl) ?_
  refine lv_iload_n hx hb dL_price_3 rfl (lv_at hl 1 rfl) ?_
  refine lh_call (As := [.int x]) (rest := [.int 0, .ref o]) ⟨hx, hb, hml, hown, hts⟩ (kX4_price l D d L rc_s A w L2 (fun z => hwB (hAB w z)) 0 0 0 rc_s_ok x hx0 hx9) (cwV 1 hts gL_price_X4_price rfl rfl rfl (by decide +kernel) ⟨Nat.le_of_ble_eq_true rfl, Nat.le_of_ble_eq_true rfl⟩) hK hX hW hAB hV rfl hl.1 (Nat.le_of_ble_eq_true rfl) dL_price_4 ⟨Nat.zero_le _, Nat.zero_le _⟩ rfl (fun r_ τ_ H locs hp hq hS => ?_)
  obtain ⟨rfl, -⟩ := hp
  have hP := rf_keep1 hP (fun z => hq o z hoA)
  refine lv_i2l hx hb dL_price_7 rfl ?_
  refine va_last hx hb hKL hP (va_D1 hoB) hS 0 0 rfl rfl (by unfold vp_in; decide) dL_price_8 (fun H locs hP hD hS => ?_)
  refine lv_goto (tgt := 15) hx hb dL_price_9 (by decide) ?_
  refine lv_iconst (v := 0) hx hb dL_price_15 (by decide) ?_
  exact W.iret (v := 0) hx hb hr (fun U9 ht hW9 => ⟨⟨0, (), rfl, rfl, by show va_P D vwCl _ U9.heap; rw [ht]; exact hP⟩, hS.F ht⟩) hS.2.2 dL_price_16
set_option maxHeartbeats 4000000 in
set_option maxRecDepth 100000 in
/-- the law: pass -/
theorem hK_pass (l : Launch) (D : va_G) (d : hs_Dm) (w : Nat) (L L2 : hs_Lo) (A A2 B : Nat → Prop) (o : Nat) (cL : ClassId) (f : Nat → Int64) (hwB : ¬ B w) (hAB : ∀ q, A q → B q) (hoB : B o) (hoA : ¬ A o) (M : Nat) (hM1 : 1 ≤ M) (hM : M ≤ 40) (x z : Int32) (hx0 : ¬ x < 0) (hx9 : x ≤ 2000) (hz0 : ¬ z < 0) (hz9 : z ≤ 40) : lh_M l yL_pass wsL_pass ({ frames := 10, cells := 0, slots := 0, locals := 260 }) D d w L L2 A A2 B o cL f (vp_updL f (0 : Int32).toNatClampNeg ((sp_pass rc_s 0 0 x z M).1).toInt64) [.ref w, .int (nI M), .int x, .int z, .ref o] 0 0 0 := by
  refine va_MetW (cc := cL_pass) (maxL := 6) (ret := (some .int)) (hh := [(0, 12, 15, 13)]) (by decide) rfl ?_
  intro p e s m args below meth c s₁ B0 hml hv
  obtain ⟨rfl, hW, hW2, hK, hX, hV, hP, hKL⟩ := hv
  have hx := B0.exec
  have hb := B0.bytes
  have hr := B0.returns
  have hts := atoms_spec (ws := wsL_pass) B0.pre
  have hown : s.vm.findClass RL = some m.cls := findClass_of_methodNamed B0.named
  have hlocks := B0.notSynchronized
  have htab := vx_table (x := yL_pass) B0 (hts (.codeWith yL_pass cL_pass 6 (some .int) [(0, 12, 15, 13)]) List.mem_cons_self)
  have hl := lv_entry ([.ref w, .int (nI M), .int x, .int z, .ref o]) (n := 6) (Nat.le_of_ble_eq_true rfl)
  rw [lg_entry_eq]
  generalize (lg_sl ([.ref w, .int (nI M), .int x, .int z, .ref o]) ++ List.replicate (6 - (lg_sl ([.ref w, .int (nI M), .int x, .int z, .ref o])).length) Slot.unset).toArray = ls at hl ⊢
  have hl : lv_has ls 6 [(0, .ref w), (1, .int (nI M)), (2, .int x), (3, .int z), (4, .ref o)] := hl
  refine lv_aload hx hb dL_pass_0 (lv_at hl 4 rfl) ?_
  refine lv_iconst (v := 0) hx hb dL_pass_2 (by decide) ?_
  refine lv_aload_n hx hb dL_pass_3 rfl (lv_at hl 0 rfl) ?_
  refine lv_iload_n hx hb dL_pass_4 rfl (lv_at hl 1 rfl) ?_
  refine lv_iload_n hx hb dL_pass_5 rfl (lv_at hl 2 rfl) ?_
  refine lv_iload_n hx hb dL_pass_6 rfl (lv_at hl 3 rfl) ?_
  refine lh_call (As := [.int (nI M), .int x, .int z]) (rest := [.int 0, .ref o]) ⟨hx, hb, hml, hown, hts⟩ (kX4_pass l D d L rc_s A w L2 (fun z => hwB (hAB w z)) 0 0 0 rc_s_ok M hM1 hM x z hx0 hx9 hz0 hz9) (cwV 3 hts gL_pass_X4_pass rfl rfl rfl (by decide +kernel) ⟨Nat.le_of_ble_eq_true rfl, Nat.le_of_ble_eq_true rfl⟩) hK hX hW hAB hV rfl hl.1 (Nat.le_of_ble_eq_true rfl) dL_pass_7 ⟨Nat.zero_le _, Nat.zero_le _⟩ rfl (fun r_ τ_ H locs hp hq hS => ?_)
  obtain ⟨rfl, -⟩ := hp
  have hP := rf_keep1 hP (fun z => hq o z hoA)
  refine lv_i2l hx hb dL_pass_10 rfl ?_
  refine va_last hx hb hKL hP (va_D1 hoB) hS 0 0 rfl rfl (by unfold vp_in; decide) dL_pass_11 (fun H locs hP hD hS => ?_)
  refine lv_goto (tgt := 19) hx hb dL_pass_12 (by decide) ?_
  refine lv_iconst (v := 0) hx hb dL_pass_19 (by decide) ?_
  exact W.iret (v := 0) hx hb hr (fun U9 ht hW9 => ⟨⟨0, (), rfl, rfl, by show va_P D vwCl _ U9.heap; rw [ht]; exact hP⟩, hS.F ht⟩) hS.2.2 dL_pass_20
set_option maxHeartbeats 4000000 in
set_option maxRecDepth 100000 in
/-- the law: many -/
theorem hK_many (l : Launch) (D : va_G) (d : hs_Dm) (w : Nat) (L L2 : hs_Lo) (A A2 B : Nat → Prop) (o : Nat) (cL : ClassId) (f : Nat → Int64) (hwB : ¬ B w) (hAB : ∀ q, A q → B q) (hoB : B o) (hoA : ¬ A o) (n : Nat) (hn : n < 15) : lh_M l yL_many wsL_many ({ frames := 10, cells := 0, slots := 0, locals := 260 }) D d w L L2 A A2 B o cL f (vp_updL f (0 : Int32).toNatClampNeg (sp_many rc_s 0 0 n).toInt64) [.ref w, .int (nI n), .ref o] 0 0 0 := by
  refine va_MetW (cc := cL_many) (maxL := 4) (ret := (some .int)) (hh := [(0, 9, 12, 13)]) (by decide) rfl ?_
  intro p e s m args below meth c s₁ B0 hml hv
  obtain ⟨rfl, hW, hW2, hK, hX, hV, hP, hKL⟩ := hv
  have hx := B0.exec
  have hb := B0.bytes
  have hr := B0.returns
  have hts := atoms_spec (ws := wsL_many) B0.pre
  have hown : s.vm.findClass RL = some m.cls := findClass_of_methodNamed B0.named
  have hlocks := B0.notSynchronized
  have htab := vx_table (x := yL_many) B0 (hts (.codeWith yL_many cL_many 4 (some .int) [(0, 9, 12, 13)]) List.mem_cons_self)
  have hl := lv_entry ([.ref w, .int (nI n), .ref o]) (n := 4) (Nat.le_of_ble_eq_true rfl)
  rw [lg_entry_eq]
  generalize (lg_sl ([.ref w, .int (nI n), .ref o]) ++ List.replicate (4 - (lg_sl ([.ref w, .int (nI n), .ref o])).length) Slot.unset).toArray = ls at hl ⊢
  have hl : lv_has ls 4 [(0, .ref w), (1, .int (nI n)), (2, .ref o)] := hl
  refine lv_aload_n hx hb dL_many_0 rfl (lv_at hl 2 rfl) ?_
  refine lv_iconst (v := 0) hx hb dL_many_1 (by decide) ?_
  refine lv_aload_n hx hb dL_many_2 rfl (lv_at hl 0 rfl) ?_
  refine lv_iload_n hx hb dL_many_3 rfl (lv_at hl 1 rfl) ?_
  refine lh_call (As := [.int (nI n)]) (rest := [.int 0, .ref o]) ⟨hx, hb, hml, hown, hts⟩ (kX4_many l D d L rc_s A w L2 (fun z => hwB (hAB w z)) 0 0 0 rc_s_ok n hn) (cwV 1 hts gL_many_X4_many rfl rfl rfl (by decide +kernel) ⟨Nat.le_of_ble_eq_true rfl, Nat.le_of_ble_eq_true rfl⟩) hK hX hW hAB hV rfl hl.1 (Nat.le_of_ble_eq_true rfl) dL_many_4 ⟨Nat.zero_le _, Nat.zero_le _⟩ rfl (fun r_ τ_ H locs hp hq hS => ?_)
  obtain ⟨rfl, -⟩ := hp
  have hP := rf_keep1 hP (fun z => hq o z hoA)
  refine lv_i2l hx hb dL_many_7 rfl ?_
  refine va_last hx hb hKL hP (va_D1 hoB) hS 0 0 rfl rfl (by unfold vp_in; decide) dL_many_8 (fun H locs hP hD hS => ?_)
  refine lv_goto (tgt := 15) hx hb dL_many_9 (by decide) ?_
  refine lv_iconst (v := 0) hx hb dL_many_15 (by decide) ?_
  exact W.iret (v := 0) hx hb hr (fun U9 ht hW9 => ⟨⟨0, (), rfl, rfl, by show va_P D vwCl _ U9.heap; rw [ht]; exact hP⟩, hS.F ht⟩) hS.2.2 dL_many_16
