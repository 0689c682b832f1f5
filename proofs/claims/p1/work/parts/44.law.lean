/-! THE LAW, over one call -/
theorem rf_callI {p : Program} {l : Launch} {e : Env} {R : Room} {s : State} {m : MethodId} {args : Array Value} {below : List Frame} {meth : Method} {c : Code} {H : Heap} {locs : List Loc} {cells slots : Nat} {Q : State → Prop} {cc : ByteArray} {pc : Nat} {ls : Array Slot} {rest : List Value} {D : va_G} {d : hs_Dm} {cB : ClassId} {Cn : Nat → va_E} {b mm : Nat} {y : MethodName} {bytes : ByteArray} {maxL nL n index mc ms k : Nat} {ws : List Cond} {rm : Room} {Ts : List Cond} {own : String} {As st : List Value} {C0 C2 : Nat → va_E} (S : CallFix p m c cc nL s args Ts own) (hM : rf_M l y ws rm D d cB C0 C2 (b + mm) 1 k (.ref (b + mm) :: As) mc ms) (cw : CallB R s args own index y bytes maxL none ws rm mc ms n ∧ y.name = "<init>" ∧ (Cond.instanceMethod y).before args s = true) (hK : va_K D vwCl (hs_ty d) s) (hK2 : va_K D vwCl [(cB, .array .int)] s) (hAA : va_AOA .int s) (hNw : va_Nw (.methodLinkNest RX6 9 yX5_init RX6) s) (hg : rg D Cn b (mm + 1) H) (h0 : C0 0 = Cn mm) (hz : H.size = b + (mm + 1)) (hS : va_S (rg_A b) s.heap H locs) (hn : As.length = n) (hsize : ls.size = nL) (hrest : (rest.map fun v => v.category).sum ≤ 8) (hdg : decode cc pc = .ok (.invokespecial index, 3)) (hf : cells + mc ≤ R.cells ∧ slots + ms ≤ R.slots) (hst : st = As.reverse ++ .ref (b + mm) :: rest)
    (kk : ∀ (H1 : Heap) (locs1 : List Loc), rg D (fun j => if j < mm then Cn j else C2 (j - mm)) b (mm + k) H1 → H1.size = b + (mm + k) → va_S (rg_A b) s.heap H1 locs1 → W p l e R s m args below meth c H1 locs1 (cells + mc) (slots + ms) Q (F0 m (pc + 3) ls rest)) : W p l e R s m args below meth c H locs cells slots Q (F0 m pc ls st) := by
  subst hst
  have hlast : rg D C0 (b + mm) 1 H := fun j hj => by
    have e : j = 0 := by omega
    subst e
    rw [h0]
    exact hg mm (by omega)
  refine va_callv (va_runI S hM cw ⟨rf_blind, fun U hU hW2 => ⟨rfl, ⟨by rw [hU]; omega, by rw [hU]; exact hlast, va_K.moved hW2.alike hK⟩, va_K.moved hW2.alike hK2, over_moved hW2.alike hAA, va_Nw.warmM hW2 hNw⟩⟩ rfl hn hsize rfl (lv_room hrest) hdg hf) hS (fun q _ h => Nat.le_trans (Nat.le_add_right b mm) h) (fun q h => Nat.le_trans (Nat.le_add_right b mm) h) (fun u t H1 locs1 ht _ _ hB hzz hq hS1 => ?_)
  obtain ⟨b1, b2, -⟩ := hB
  rw [ht] at b1 b2
  exact kk H1 locs1 (rg.join ((hg.sub (Nat.le_succ mm)).kept (fun q h1 h2 => hq q h1 (by show ¬ b + mm ≤ q; omega))) b2) (by omega) hS1
theorem rg_newl {p : Program} {l : Launch} {e : Env} {R : Room} {s : State} {m : MethodId} {args : Array Value} {below : List Frame} {meth : Method} {c : Code} {H : Heap} {locs : List Loc} {cells slots : Nat} {Q : State → Prop} {cc : ByteArray} {pc : Nat} {ls : Array Slot} {rest : List Value} {D : va_G} {Cn : Nat → va_E} {b mm : Nat} {cL : ClassId} (hexec : p.tables.exec = Jvm.exec) (hb : c.code = cc) (harr : (Cond.arrayClass .long).before args s = true) (hK : va_K D vwCl [(cL, .long)] s) (hg : rg D Cn b mm H) (hz : H.size = b + mm) (hS : va_S (rg_A b) s.heap H locs)
    (hcells : cells + 1 ≤ R.cells) (hslots : slots + 1 ≤ R.slots) (hdg : decode cc pc = .ok (.newarray .long, 2))
    (kk : ∀ (H1 : Heap), rg D (va_up Cn mm (.inl (cL, 1, .inr (.inl (fun _ => 0))))) b (mm + 1) H1 → H1.size = b + (mm + 1) → va_S (rg_A b) s.heap H1 locs → W p l e R s m args below meth c H1 locs (cells + 1) (slots + 1) Q (F0 m (pc + 2) ls (.ref (b + mm) :: rest))) : W p l e R s m args below meth c H locs cells slots Q (F0 m pc ls (.int 1 :: rest)) := by
  refine va_newaK hexec hb (atype := .long) harr (g := F0 m pc ls (.int 1 :: rest)) rfl hdg rfl (n := 1) (N := 1) (by decide) rfl (by decide) hcells hslots hz fun H1 cA e1 z1 o1 hA hf => ?_
  have hcA : cA = cL := Option.some.inj (hf.symm.trans (hK.2 0 _ rfl).2)
  subst hcA
  have oq : ∀ q : Nat, q < H.size → H1[q]? = H[q]? := fun q hq => o1 q (by omega)
  exact kk H1 (hg.push hz (by show H1[b + mm]? = some (vp_cell _ _); rw [vp_cell_l]; exact e1) oq) (by omega) (rg_S hS (by omega) oq)
section LWR
variable {p : Program} {l : Launch} {e : Env} {R : Room} {s : State} {m : MethodId} {args : Array Value} {below : List Frame} {meth : Method} {c : Code} {H : Heap} {locs : List Loc} {cells slots : Nat} {Q : State → Prop}
variable {cc : ByteArray} {pc : Nat} {ls : Array Slot} {rest : List Value} {D : va_G} {d : hs_Dm} {L L2 : hs_Lo} {A A1 A2 B B1 : Nat → Prop} {w o : Nat} {cL : ClassId} {f g : Nat → Int64}
variable {y : MethodName} {bytes : ByteArray} {maxL nL n index mc ms : Nat} {ret : Option FieldType} {hh : List (Nat × Nat × Nat × Nat)} {ws : List Cond} {rm : Room} {Ts : List Cond} {own X : String} {As st : List Value} {ans : Int32}
theorem lw_help (S : CallFix p m c cc nL s args Ts own) (hM : lh_M l y ws rm D d w L L2 A A2 B o cL f g As ans mc ms) (cw : vx_CSW R s args own index y bytes maxL ret hh ws rm mc ms n) (hW : hs_W D d L rc_s A H) (hW2 : hs_W D d L2 rc_s A2 H) (hK : va_K D vwCl (hs_ty d) s) (hX : hx_E d.2.2.2.2 B1 s) (hBB : ∀ q, B q → B1 q) (hV : va_at D vwCl (w, .inr (cWx, [.ref (L 0 0), .ref (L2 0 0)])) H) (hO : va_P D vwCl [(o, .inl (cL, 1, .inr (.inl f)))] H) (hKL : va_K D vwCl [(cL, .long)] s) (hS : va_S B1 s.heap H locs) (hn : As.length = n) (hsize : ls.size = nL) (hrest : (rest.map fun v => v.category).sum ≤ 8) (hdg : decode cc pc = .ok (.invokestatic index, 3)) (hf : cells + mc ≤ R.cells ∧ slots + ms ≤ R.slots) (hst : st = As.reverse ++ rest)
    (kk : ∀ (H1 : Heap) (locs1 : List Loc), va_P D vwCl [(o, .inl (cL, 1, .inr (.inl g)))] H1 → (∀ q : Nat, q < H.size → ¬ B q → H1[q]? = H[q]?) → H.size ≤ H1.size → va_S B1 s.heap H1 locs1 → W p l e R s m args below meth c H1 locs1 (cells + mc) (slots + ms) Q (F0 m (pc + 3) ls (.int ans :: rest))) : W p l e R s m args below meth c H locs cells slots Q (F0 m pc ls st) := by
  subst hst
  exact va_calli (vx_runSW S hM cw ⟨lh_blind, fun U hU hW9 => ⟨rfl, by rw [hU]; exact hW, by rw [hU]; exact hW2, va_K.moved hW9.alike hK, (hX.on hW9 hU hS).narrow hBB, by rw [hU]; exact hV, by rw [hU]; exact hO, va_K.moved hW9.alike hKL⟩⟩ rfl hn hsize rfl (lv_room hrest) hdg hf) hS (fun q _ h => hBB q h) (fun q h => hBB q h) (fun r u t H1 locs1 ht _ hp hB hz hq hS1 => by
    subst hp
    rw [ht] at hB
    exact kk H1 locs1 hB hq hz hS1)
theorem lw_ref {ty : List (ClassId × FieldType)} {V V2 : va_W} {post : Int32 → Prop} {C : String} {b q0 ci : Nat} {fs : List Value} {r : vw_C} (S : CallFix p m c cc nL s args Ts own) (hM : rf_Mi l y ws rm D ty H.size V V2 B (.ref b :: As) post mc ms) (cw : CallW R s args own C index y bytes maxL ret ws rm mc ms n) (hK : va_K D vwCl ty s) (hPc : va_P D vwCl V H) (hBB : ∀ q, B q → B1 q) (hS : va_S B1 s.heap H locs) (he : V[q0]? = some (b, .inr (ci, fs))) (hc : vwCl[ci]? = some r) (hC : r.1 = C) (hn : As.length = n) (hsize : ls.size = nL) (hrest : (rest.map fun v => v.category).sum ≤ 8) (hdg : decode cc pc = .ok (.invokevirtual index, 3)) (hf : cells + mc ≤ R.cells ∧ slots + ms ≤ R.slots) (hst : st = As.reverse ++ .ref b :: rest)
    (kk : ∀ (r : Int32) (H1 : Heap) (locs1 : List Loc), post r → va_P D vwCl V2 H1 → (∀ q : Nat, q < H.size → ¬ B q → H1[q]? = H[q]?) → H.size ≤ H1.size → va_S B1 s.heap H1 locs1 → W p l e R s m args below meth c H1 locs1 (cells + mc) (slots + ms) Q (F0 m (pc + 3) ls (.int r :: rest))) : W p l e R s m args below meth c H locs cells slots Q (F0 m pc ls st) := by
  subst hst
  subst hC
  exact va_calli (va_runV S hM cw ⟨rf_blind2, va_recv hK hPc hc he, fun U hU hW2 => ⟨rfl, by rw [hU], by rw [hU]; exact hPc, va_K.moved hW2.alike hK⟩⟩ rfl hn hsize rfl (lv_room hrest) hdg hf) hS (fun q _ h => hBB q h) (fun q h => hBB q h) (fun r u t H1 locs1 ht _ hp hB hz hq hS1 => kk r H1 locs1 hp (by rw [ht] at hB; exact hB) hq hz hS1)
theorem lw_refl {ty : List (ClassId × FieldType)} {V V2 : va_W} {post : Int64 → Prop} {C : String} {b q0 ci : Nat} {fs : List Value} {r : vw_C} (S : CallFix p m c cc nL s args Ts own) (hM : rf_Ml l y ws rm D ty H.size V V2 B (.ref b :: As) post mc ms) (cw : CallW R s args own C index y bytes maxL ret ws rm mc ms n) (hK : va_K D vwCl ty s) (hPc : va_P D vwCl V H) (hBB : ∀ q, B q → B1 q) (hS : va_S B1 s.heap H locs) (he : V[q0]? = some (b, .inr (ci, fs))) (hc : vwCl[ci]? = some r) (hC : r.1 = C) (hn : As.length = n) (hsize : ls.size = nL) (hrest : (rest.map fun v => v.category).sum ≤ 8) (hdg : decode cc pc = .ok (.invokevirtual index, 3)) (hf : cells + mc ≤ R.cells ∧ slots + ms ≤ R.slots) (hst : st = As.reverse ++ .ref b :: rest)
    (kk : ∀ (r : Int64) (H1 : Heap) (locs1 : List Loc), post r → va_S B1 s.heap H1 locs1 → W p l e R s m args below meth c H1 locs1 (cells + mc) (slots + ms) Q (F0 m (pc + 3) ls (.long r :: rest))) : W p l e R s m args below meth c H locs cells slots Q (F0 m pc ls st) := by
  subst hst
  subst hC
  exact va_calll (va_runV S hM cw ⟨rf_blind2, va_recv hK hPc hc he, fun U hU hW2 => ⟨rfl, by rw [hU], by rw [hU]; exact hPc, va_K.moved hW2.alike hK⟩⟩ rfl hn hsize rfl (lv_room hrest) hdg hf) hS (fun q _ h => hBB q h) (fun q h => hBB q h) (fun r u t H1 locs1 ht _ hp hB hz hq hS1 => kk r H1 locs1 hp hS1)
theorem lw_refd {ty : List (ClassId × FieldType)} {V V2 : va_W} {post : UInt64 → Prop} {C : String} {b q0 ci : Nat} {fs : List Value} {r : vw_C} (S : CallFix p m c cc nL s args Ts own) (hM : rf_Md l y ws rm D ty H.size V V2 B (.ref b :: As) post mc ms) (cw : CallW R s args own C index y bytes maxL ret ws rm mc ms n) (hK : va_K D vwCl ty s) (hPc : va_P D vwCl V H) (hBB : ∀ q, B q → B1 q) (hS : va_S B1 s.heap H locs) (he : V[q0]? = some (b, .inr (ci, fs))) (hc : vwCl[ci]? = some r) (hC : r.1 = C) (hn : As.length = n) (hsize : ls.size = nL) (hrest : (rest.map fun v => v.category).sum ≤ 8) (hdg : decode cc pc = .ok (.invokevirtual index, 3)) (hf : cells + mc ≤ R.cells ∧ slots + ms ≤ R.slots) (hst : st = As.reverse ++ .ref b :: rest)
    (kk : ∀ (r : UInt64) (H1 : Heap) (locs1 : List Loc), post r → va_S B1 s.heap H1 locs1 → W p l e R s m args below meth c H1 locs1 (cells + mc) (slots + ms) Q (F0 m (pc + 3) ls (.double r :: rest))) : W p l e R s m args below meth c H locs cells slots Q (F0 m pc ls st) := by
  subst hst
  subst hC
  exact va_calld (va_runV S hM cw ⟨rf_blind2, va_recv hK hPc hc he, fun U hU hW2 => ⟨rfl, by rw [hU], by rw [hU]; exact hPc, va_K.moved hW2.alike hK⟩⟩ rfl hn hsize rfl (lv_room hrest) hdg hf) hS (fun q _ h => hBB q h) (fun q h => hBB q h) (fun r u t H1 locs1 ht _ hp hB hz hq hS1 => kk r H1 locs1 hp hS1)
/-- the class, called by the law itself -/
theorem lw_clsi {σ : hs_St} {post : Int32 → hs_St → Prop} (S : CallFix p m c cc nL s args Ts own) (hM : wx_Mi l y ws rm D d w L L2 σ A (.ref w :: As) post) (cw : CallW R s args own RX4 index y bytes maxL ret ws rm 0 0 n) (hK : va_K D vwCl (hs_ty d) s) (hX : hx_E d.2.2.2.2 B1 s) (hW : hs_W D d L σ A H) (hBB : ∀ q, A q → B1 q) (hV : va_at D vwCl (w, .inr (cWx, [.ref (L 0 0), .ref (L2 0 0)])) H) (hVP : va_P D vwCl [(w, .inr (cWx, [.ref (L 0 0), .ref (L2 0 0)]))] H) (hS : va_S B1 s.heap H locs) (hn : As.length = n) (hsize : ls.size = nL) (hrest : (rest.map fun v => v.category).sum ≤ 8) (hdg : decode cc pc = .ok (.invokevirtual index, 3)) (hf : cells + 0 ≤ R.cells ∧ slots + 0 ≤ R.slots) (hst : st = As.reverse ++ .ref w :: rest)
    (kk : ∀ (r : Int32) (τ : hs_St) (H1 : Heap) (locs1 : List Loc), post r τ → (∀ q : Nat, q < H.size → ¬ A q → H1[q]? = H[q]?) → H.size ≤ H1.size → va_S B1 s.heap H1 locs1 → W p l e R s m args below meth c H1 locs1 cells slots Q (F0 m (pc + 3) ls (.int r :: rest))) : W p l e R s m args below meth c H locs cells slots Q (F0 m pc ls st) := by
  subst hst
  exact va_calli (va_runV S hM cw ⟨wx_blind, va_recv hK hVP (q0 := 0) (show vwCl[cWx]? = some (RX4, TX4, 2) from rfl) rfl, fun U hU hW9 => ⟨rfl, ⟨⟨by rw [hU]; exact hW, va_K.moved hW9.alike hK⟩, (hX.on hW9 hU hS).narrow hBB⟩, by rw [hU]; exact hV⟩⟩ rfl hn hsize rfl (lv_room hrest) hdg hf) hS (fun q _ h => hBB q h) (fun q h => hBB q h) (fun r τ t H1 locs1 ht _ hp hB hz9 hq hS1 => kk r τ H1 locs1 hp hq hz9 hS1)
theorem lw_clsd {σ : hs_St} {post : UInt64 → hs_St → Prop} (S : CallFix p m c cc nL s args Ts own) (hM : wx_Md l y ws rm D d w L L2 σ A (.ref w :: As) post) (cw : CallW R s args own RX4 index y bytes maxL ret ws rm 0 0 n) (hK : va_K D vwCl (hs_ty d) s) (hX : hx_E d.2.2.2.2 B1 s) (hW : hs_W D d L σ A H) (hBB : ∀ q, A q → B1 q) (hV : va_at D vwCl (w, .inr (cWx, [.ref (L 0 0), .ref (L2 0 0)])) H) (hVP : va_P D vwCl [(w, .inr (cWx, [.ref (L 0 0), .ref (L2 0 0)]))] H) (hS : va_S B1 s.heap H locs) (hn : As.length = n) (hsize : ls.size = nL) (hrest : (rest.map fun v => v.category).sum ≤ 8) (hdg : decode cc pc = .ok (.invokevirtual index, 3)) (hf : cells + 0 ≤ R.cells ∧ slots + 0 ≤ R.slots) (hst : st = As.reverse ++ .ref w :: rest)
    (kk : ∀ (r : UInt64) (τ : hs_St) (H1 : Heap) (locs1 : List Loc), post r τ → (∀ q : Nat, q < H.size → ¬ A q → H1[q]? = H[q]?) → H.size ≤ H1.size → va_S B1 s.heap H1 locs1 → W p l e R s m args below meth c H1 locs1 cells slots Q (F0 m (pc + 3) ls (.double r :: rest))) : W p l e R s m args below meth c H locs cells slots Q (F0 m pc ls st) := by
  subst hst
  exact va_calld (va_runV S hM cw ⟨wx_blind, va_recv hK hVP (q0 := 0) (show vwCl[cWx]? = some (RX4, TX4, 2) from rfl) rfl, fun U hU hW9 => ⟨rfl, ⟨⟨by rw [hU]; exact hW, va_K.moved hW9.alike hK⟩, (hX.on hW9 hU hS).narrow hBB⟩, by rw [hU]; exact hV⟩⟩ rfl hn hsize rfl (lv_room hrest) hdg hf) hS (fun q _ h => hBB q h) (fun q h => hBB q h) (fun r τ t H1 locs1 ht _ hp hB hz9 hq hS1 => kk r τ H1 locs1 hp hq hz9 hS1)
theorem lw_clsl {σ σ2 : hs_St} {post : Int64 → hs_St → Prop} (S : CallFix p m c cc nL s args Ts own) (hM : tw_Ml l y ws rm D d w L σ A L2 σ2 A2 (.ref w :: As) post) (cw : CallW R s args own RX4 index y bytes maxL ret ws rm 0 0 n) (hK : va_K D vwCl (hs_ty d) s) (hX : hx_E d.2.2.2.2 B1 s) (hW : hs_W D d L σ A H) (hW2 : hs_W D d L2 σ2 A2 H) (hBB : ∀ q, tw_A A A2 q → B1 q) (hV : va_at D vwCl (w, .inr (cWx, [.ref (L 0 0), .ref (L2 0 0)])) H) (hVP : va_P D vwCl [(w, .inr (cWx, [.ref (L 0 0), .ref (L2 0 0)]))] H) (hS : va_S B1 s.heap H locs) (hn : As.length = n) (hsize : ls.size = nL) (hrest : (rest.map fun v => v.category).sum ≤ 8) (hdg : decode cc pc = .ok (.invokevirtual index, 3)) (hf : cells + 0 ≤ R.cells ∧ slots + 0 ≤ R.slots) (hst : st = As.reverse ++ .ref w :: rest)
    (kk : ∀ (r : Int64) (τ : hs_St) (H1 : Heap) (locs1 : List Loc), post r τ → (∀ q : Nat, q < H.size → ¬ tw_A A A2 q → H1[q]? = H[q]?) → H.size ≤ H1.size → va_S B1 s.heap H1 locs1 → W p l e R s m args below meth c H1 locs1 cells slots Q (F0 m (pc + 3) ls (.long r :: rest))) : W p l e R s m args below meth c H locs cells slots Q (F0 m pc ls st) := by
  subst hst
  exact va_calll (va_runV S hM cw ⟨tw_blind, va_recv hK hVP (q0 := 0) (show vwCl[cWx]? = some (RX4, TX4, 2) from rfl) rfl, fun U hU hW9 => ⟨rfl, ⟨by rw [hU]; exact hW, by rw [hU]; exact hW2, va_K.moved hW9.alike hK⟩, (hX.on hW9 hU hS).narrow hBB, by rw [hU]; exact hV⟩⟩ rfl hn hsize rfl (lv_room hrest) hdg hf) hS (fun q _ h => hBB q h) (fun q h => hBB q h) (fun r τ t H1 locs1 ht _ hp hB hz hq hS1 => kk r τ H1 locs1 hp hq hz hS1)
end LWR
theorem lw_Dc {A : Nat → Prop} {a : Nat} {e : va_E} {ws : va_W} (h : va_D A ws) (ha : A a) (hn : ∀ q ∈ ws, q.1 ≠ a) : va_D A ((a, e) :: ws) := by
  refine ⟨fun i j p q h1 h2 he => ?_, fun k q hk => ?_⟩
  · cases i with
    | zero =>
      cases j with
      | zero => rfl
      | succ j =>
        cases h1
        exact absurd he.symm (hn q (List.mem_of_getElem? h2))
    | succ i =>
      cases j with
      | zero =>
        cases h2
        exact absurd he (hn p (List.mem_of_getElem? h1))
      | succ j => rw [h.1 i j p q h1 h2 he]
  · cases k with
    | zero => cases hk; exact ha
    | succ k => exact h.2 k q hk
theorem va_D0 {A : Nat → Prop} : va_D A [] := ⟨fun i j p q h => by simp at h, fun k q h => by simp at h⟩
theorem sp_in_1 {k lo hi : Int32} (h0 : ¬ k < lo) (h1 : k ≤ hi) : sp_in k lo hi = 1 := by
  unfold sp_in
  rw [if_neg h0, if_neg (fun z => by rw [Int32.lt_iff_toInt_lt] at z; rw [Int32.le_iff_toInt_le] at h1; omega)]
theorem sp_in_0 {k lo hi : Int32} (h : k < lo ∨ ¬ k ≤ hi) : sp_in k lo hi = 0 := by
  unfold sp_in
  rcases h with h | h
  · rw [if_pos h]
  · split
    · rfl
    · rw [if_pos (by rw [Int32.lt_iff_toInt_lt]; rw [Int32.le_iff_toInt_le] at h; omega)]
theorem sp_pass0 (x z : Int32) : ∀ (n : Nat) (σ : hs_St), (sp_pass σ 0 0 x z n).1 = 0
  | 0, σ => rfl
  | n + 1, σ => by
    show (sp_pass σ 0 0 x z n).1 + (sp_day (sp_pass σ 0 0 x z n).2 0 0 x z).1 = 0
    rw [sp_pass0 x z n σ]
    show (0 : Int32) + ((0 : Int32) + 0) = 0
    decide
theorem rf_many_eq : ∀ n, n < 15 → sp_many rc_s 0 0 n = rf_all n := by decide +kernel
theorem rf_dig_eq : (sp_dig rc_s rc_s 0 0 0).1 = rf_dg 15 * 31 + ((-1 : Int32)).toInt64 := by decide +kernel
theorem lg_cmp_self (x : Int64) : lg_cmp x x = 0 := by simp [lg_cmp, Int64.lt_irrefl]
/-- what stands when the law has made its things -/
def lw_X (d : hs_Dm) (cB cL : ClassId) (h0 : Nat) : Nat → va_E := fun j => if j < 135 then rc_X d h0 j else if j < 181 then rf_X d cB (h0 + 135) (j - 135) else .inl (cL, 1, .inr (.inl (fun _ => 0)))
abbrev lw_A1 (h0 : Nat) : Nat → Prop := fun q => h0 + 1 ≤ q ∧ q < h0 + 68
abbrev lw_A2 (h0 : Nat) : Nat → Prop := fun q => h0 + 68 ≤ q ∧ q < h0 + 135
abbrev lw_B (h0 : Nat) : Nat → Prop := fun q => (h0 + 1 ≤ q ∧ q < h0 + 135) ∨ q = h0 + 181
abbrev lw_M (h0 sz : Nat) : Nat → Prop := fun q => (h0 + 135 ≤ q ∧ q < h0 + 181) ∨ sz ≤ q
def lw_G (p : Program) (l : Launch) (s : State) (m : MethodId) (meth : Method) (c : Code) (b : Nat) (D : va_G) (d : hs_Dm) (cB cL : ClassId) (xs : Nat → Int32) : Prop := p.tables.exec = Jvm.exec ∧ c.code = cL_law ∧ meth.sig.returnType = ret ∧ meth.locks = false ∧ c.maxLocals = 9 ∧ s.vm.findClass RL = some m.cls ∧ (∀ w ∈ lw_tbl, w.before #[Value.ref b] s = true) ∧ l.stackTraces = false ∧ va_X b 5 xs s s.heap ∧ b < s.heap.size ∧ va_K D vwCl (hs_ty d) s ∧ va_K D vwCl [(d.1, .int), (cB, .array .int)] s ∧ va_K D vwCl [(cL, .long)] s ∧ hx_E d.2.2.2.2 (rg_A s.heap.size) s
set_option maxRecDepth 20000 in
theorem lw_house {D : va_G} {d : hs_Dm} {cB cL : ClassId} {h0 : Nat} {H : Heap} (hg : rg D (lw_X d cB cL h0) h0 182 H) : hs_W D d (rc_L (h0 + 1)) rc_s (lw_A1 h0) H := rc_W (fun j hj => by
  have h := hg (j + 1) (by omega)
  rw [show h0 + (j + 1) = h0 + 1 + j by omega, show lw_X d cB cL h0 (j + 1) = rc_N d (h0 + 1) j from by unfold lw_X rc_X; rw [if_pos (by omega), if_neg (by omega), if_pos (by omega), Nat.add_sub_cancel]] at h
  exact h) (fun j hj => ⟨by omega, by omega⟩)
theorem lw_trial {D : va_G} {d : hs_Dm} {cB cL : ClassId} {h0 : Nat} {H : Heap} (hg : rg D (lw_X d cB cL h0) h0 182 H) : hs_W D d (rc_L (h0 + 68)) rc_s (lw_A2 h0) H := rc_W (fun j hj => by
  have h := hg (j + 68) (by omega)
  rw [show h0 + (j + 68) = h0 + 68 + j by omega, show lw_X d cB cL h0 (j + 68) = rc_N d (h0 + 68) j from by unfold lw_X rc_X; rw [if_pos (by omega), if_neg (by omega), if_neg (by omega), Nat.add_sub_cancel]] at h
  exact h) (fun j hj => ⟨by omega, by omega⟩)
theorem lw_wax {D : va_G} {d : hs_Dm} {cB cL : ClassId} {h0 : Nat} {H : Heap} (hg : rg D (lw_X d cB cL h0) h0 182 H) : va_at D vwCl (h0, .inr (cWx, [.ref (rc_L (h0 + 1) 0 0), .ref (rc_L (h0 + 68) 0 0)])) H := hg 0 (by decide)
theorem va_P1 {D : va_G} {cl : List vw_C} {q : Nat × va_E} {H : Heap} (h : va_at D cl q H) : va_P D cl [q] H := fun k q hk => by
  have hz : k < 1 := (List.getElem?_eq_some_iff.mp hk).1
  rw [show k = 0 by omega] at hk
  cases hk
  exact h
theorem va_Pcons {D : va_G} {cl : List vw_C} {q : Nat × va_E} {ws : va_W} {H : Heap} (h : va_at D cl q H) (h2 : va_P D cl ws H) : va_P D cl (q :: ws) H := fun k x hk => by
  cases k with
  | zero => cases hk; exact h
  | succ k => exact h2 k x hk
theorem va_P0 {D : va_G} {cl : List vw_C} {H : Heap} : va_P D cl [] H := fun k q hk => by simp at hk
theorem lw_out {D : va_G} {d : hs_Dm} {cB cL : ClassId} {h0 : Nat} {H : Heap} (hg : rg D (lw_X d cB cL h0) h0 182 H) : va_P D vwCl [(h0 + 181, .inl (cL, 1, .inr (.inl (fun _ => 0))))] H := va_P1 (hg 181 (by decide))
set_option maxRecDepth 20000 in
theorem lw_w_m2 {D : va_G} {d : hs_Dm} {cB cL : ClassId} {h0 : Nat} {H : Heap} (hg : rg D (lw_X d cB cL h0) h0 182 H) : va_P D vwCl [((h0 + 135), .inr (cRm, [.int 0, .ref (h0 + 135 + 1)])), ((h0 + 135 + 1), .inr (cRh, [.ref (h0 + 135 + 1 + 1), .ref (h0 + 135 + 1 + 12), .ref (h0 + 135 + 1 + 23), .ref (h0 + 135 + 1 + 34), .ref (h0 + 135 + 1 + 43), .ref (h0 + 135 + 1 + 44), .int 0, .int 0, .int 0, .int 0, .int 0, .int 5, .int 200, .int 30]))] H := va_Pcons (show va_at D vwCl ((h0 + 135), .inr (cRm, [.int 0, .ref (h0 + 135 + 1)])) H from by have h := hg 135 (by decide); rw [show h0 + 135 = (h0 + 135) by omega] at h; exact h) (va_Pcons (show va_at D vwCl ((h0 + 135 + 1), .inr (cRh, [.ref (h0 + 135 + 1 + 1), .ref (h0 + 135 + 1 + 12), .ref (h0 + 135 + 1 + 23), .ref (h0 + 135 + 1 + 34), .ref (h0 + 135 + 1 + 43), .ref (h0 + 135 + 1 + 44), .int 0, .int 0, .int 0, .int 0, .int 0, .int 5, .int 200, .int 30])) H from by have h := hg 136 (by decide); rw [show h0 + 136 = (h0 + 135 + 1) by omega] at h; exact h) va_P0)
abbrev lw_R (h0 : Nat) : Nat → Prop := fun q => h0 + 135 ≤ q ∧ q < h0 + 181
theorem lw_AB {h0 q : Nat} (h : lw_A1 h0 q) : lw_B h0 q := Or.inl ⟨h.1, by have h2 : q < h0 + 68 := h.2; omega⟩
theorem lw_TB {h0 q : Nat} (h : tw_A (lw_A1 h0) (lw_A2 h0) q) : lw_B h0 q := by
  have h : (h0 + 1 ≤ q ∧ q < h0 + 68) ∨ (h0 + 68 ≤ q ∧ q < h0 + 135) := h
  exact Or.inl (by omega)
theorem lw_wB {h0 : Nat} : ¬ lw_B h0 h0 := fun z => by
  have z : (h0 + 1 ≤ h0 ∧ h0 < h0 + 135) ∨ h0 = h0 + 181 := z
  omega
theorem lw_oA {h0 : Nat} : ¬ lw_A1 h0 (h0 + 181) := fun z => by
  have z : h0 + 1 ≤ h0 + 181 ∧ h0 + 181 < h0 + 68 := z
  omega
theorem lw_dis {h0 : Nat} : ∀ q, lw_A2 h0 q → ¬ lw_A1 h0 q := fun q h z => by
  have h : h0 + 68 ≤ q ∧ q < h0 + 135 := h
  have z : h0 + 1 ≤ q ∧ q < h0 + 68 := z
  omega
theorem lw_BB {h0 : Nat} : ∀ q, lw_B h0 q → rg_A h0 q := fun q z => by
  have z : (h0 + 1 ≤ q ∧ q < h0 + 135) ∨ q = h0 + 181 := z
  show h0 ≤ q
  omega
theorem lw_MB {h0 sz : Nat} (h : h0 + 182 ≤ sz) : ∀ q, lw_M h0 sz q → rg_A h0 q := fun q z => by
  have z : (h0 + 135 ≤ q ∧ q < h0 + 181) ∨ sz ≤ q := z
  show h0 ≤ q
  omega
theorem lw_noM {h0 sz : Nat} (h : h0 + 182 ≤ sz) : ¬ lw_M h0 sz (h0 + 181) := fun z => by
  have z : (h0 + 135 ≤ h0 + 181 ∧ h0 + 181 < h0 + 181) ∨ sz ≤ h0 + 181 := z
  omega
theorem lw_keep {D : va_G} {cl : List vw_C} {h0 : Nat} {ws : va_W} {H H1 : Heap} (h : va_P D cl ws H) (hD : va_D (lw_R h0) ws) (hq : ∀ q : Nat, q < H.size → ¬ lw_B h0 q → H1[q]? = H[q]?) : va_P D cl ws H1 := h.kept (fun k q hk => hq q.1 ((h k q hk).lt) (fun z => by
  have z : (h0 + 1 ≤ q.1 ∧ q.1 < h0 + 135) ∨ q.1 = h0 + 181 := z
  have y : h0 + 135 ≤ q.1 ∧ q.1 < h0 + 181 := hD.2 k q hk
  omega))
theorem lw_lM {h0 sz : Nat} {ws : va_W} (hD : va_D (lw_R h0) ws) : va_D (lw_M h0 sz) ws := hD.weaken (fun _ _ _ h => Or.inl h)
theorem vp_updL_self {f : Nat → Int64} {i : Nat} {x : Int64} : vp_updL f i x i = x := by simp [vp_updL]
set_option maxRecDepth 20000 in
theorem lw_d_m2 {d : hs_Dm} {cB : ClassId} {h0 : Nat} : va_D (lw_R h0) [((h0 + 135), .inr (cRm, [.int 0, .ref (h0 + 135 + 1)])), ((h0 + 135 + 1), .inr (cRh, [.ref (h0 + 135 + 1 + 1), .ref (h0 + 135 + 1 + 12), .ref (h0 + 135 + 1 + 23), .ref (h0 + 135 + 1 + 34), .ref (h0 + 135 + 1 + 43), .ref (h0 + 135 + 1 + 44), .int 0, .int 0, .int 0, .int 0, .int 0, .int 5, .int 200, .int 30]))] := by
  refine lw_Dc ?_ (⟨by omega, by omega⟩) (fun q hq => ?_)
  rotate_left
  · simp only [List.mem_cons, List.not_mem_nil, or_false] at hq
    rw [hq]
    all_goals (simp only [ne_eq]; omega)
  refine lw_Dc ?_ (⟨by omega, by omega⟩) (fun q hq => ?_)
  rotate_left
  · cases hq
  exact va_D0
set_option maxRecDepth 20000 in
theorem lw_w_pe {D : va_G} {d : hs_Dm} {cB cL : ClassId} {h0 : Nat} {H : Heap} (hg : rg D (lw_X d cB cL h0) h0 182 H) : va_P D vwCl [((h0 + 135), .inr (cRm, [.int 0, .ref (h0 + 135 + 1)])), ((h0 + 135 + 1), .inr (cRh, [.ref (h0 + 135 + 1 + 1), .ref (h0 + 135 + 1 + 12), .ref (h0 + 135 + 1 + 23), .ref (h0 + 135 + 1 + 34), .ref (h0 + 135 + 1 + 43), .ref (h0 + 135 + 1 + 44), .int 0, .int 0, .int 0, .int 0, .int 0, .int 5, .int 200, .int 30])), ((h0 + 135 + 1 + 1), .inl (cB, 10, .inr (.inr (.inr (.inr (fun i => if i < 10 then some (h0 + 135 + 1 + (1 + 1 + i)) else none)))))), ((h0 + 135 + 1 + (1 + 1 + 0)), .inl (d.1, 9, .inl (fun _ => 0))), ((h0 + 135 + 1 + 23), .inl (cB, 10, .inr (.inr (.inr (.inr (fun i => if i < 10 then some (h0 + 135 + 1 + (23 + 1 + i)) else none)))))), ((h0 + 135 + 1 + (23 + 1 + 0)), .inl (d.1, 6, .inl (fun _ => 0)))] H := va_Pcons (show va_at D vwCl ((h0 + 135), .inr (cRm, [.int 0, .ref (h0 + 135 + 1)])) H from by have h := hg 135 (by decide); rw [show h0 + 135 = (h0 + 135) by omega] at h; exact h) (va_Pcons (show va_at D vwCl ((h0 + 135 + 1), .inr (cRh, [.ref (h0 + 135 + 1 + 1), .ref (h0 + 135 + 1 + 12), .ref (h0 + 135 + 1 + 23), .ref (h0 + 135 + 1 + 34), .ref (h0 + 135 + 1 + 43), .ref (h0 + 135 + 1 + 44), .int 0, .int 0, .int 0, .int 0, .int 0, .int 5, .int 200, .int 30])) H from by have h := hg 136 (by decide); rw [show h0 + 136 = (h0 + 135 + 1) by omega] at h; exact h) (va_Pcons (show va_at D vwCl ((h0 + 135 + 1 + 1), .inl (cB, 10, .inr (.inr (.inr (.inr (fun i => if i < 10 then some (h0 + 135 + 1 + (1 + 1 + i)) else none)))))) H from by have h := hg 137 (by decide); rw [show h0 + 137 = (h0 + 135 + 1 + 1) by omega] at h; exact h) (va_Pcons (show va_at D vwCl ((h0 + 135 + 1 + (1 + 1 + 0)), .inl (d.1, 9, .inl (fun _ => 0))) H from by have h := hg 138 (by decide); rw [show h0 + 138 = (h0 + 135 + 1 + (1 + 1 + 0)) by omega] at h; exact h) (va_Pcons (show va_at D vwCl ((h0 + 135 + 1 + 23), .inl (cB, 10, .inr (.inr (.inr (.inr (fun i => if i < 10 then some (h0 + 135 + 1 + (23 + 1 + i)) else none)))))) H from by have h := hg 159 (by decide); rw [show h0 + 159 = (h0 + 135 + 1 + 23) by omega] at h; exact h) (va_Pcons (show va_at D vwCl ((h0 + 135 + 1 + (23 + 1 + 0)), .inl (d.1, 6, .inl (fun _ => 0))) H from by have h := hg 160 (by decide); rw [show h0 + 160 = (h0 + 135 + 1 + (23 + 1 + 0)) by omega] at h; exact h) va_P0)))))
set_option maxRecDepth 20000 in
theorem lw_d_pe {d : hs_Dm} {cB : ClassId} {h0 : Nat} : va_D (lw_R h0) [((h0 + 135), .inr (cRm, [.int 0, .ref (h0 + 135 + 1)])), ((h0 + 135 + 1), .inr (cRh, [.ref (h0 + 135 + 1 + 1), .ref (h0 + 135 + 1 + 12), .ref (h0 + 135 + 1 + 23), .ref (h0 + 135 + 1 + 34), .ref (h0 + 135 + 1 + 43), .ref (h0 + 135 + 1 + 44), .int 0, .int 0, .int 0, .int 0, .int 0, .int 5, .int 200, .int 30])), ((h0 + 135 + 1 + 1), .inl (cB, 10, .inr (.inr (.inr (.inr (fun i => if i < 10 then some (h0 + 135 + 1 + (1 + 1 + i)) else none)))))), ((h0 + 135 + 1 + (1 + 1 + 0)), .inl (d.1, 9, .inl (fun _ => 0))), ((h0 + 135 + 1 + 23), .inl (cB, 10, .inr (.inr (.inr (.inr (fun i => if i < 10 then some (h0 + 135 + 1 + (23 + 1 + i)) else none)))))), ((h0 + 135 + 1 + (23 + 1 + 0)), .inl (d.1, 6, .inl (fun _ => 0)))] := by
  refine lw_Dc ?_ (⟨by omega, by omega⟩) (fun q hq => ?_)
  rotate_left
  · simp only [List.mem_cons, List.not_mem_nil, or_false] at hq
    rcases hq with rfl | rfl | rfl | rfl | rfl
    all_goals (simp only [ne_eq]; omega)
  refine lw_Dc ?_ (⟨by omega, by omega⟩) (fun q hq => ?_)
  rotate_left
  · simp only [List.mem_cons, List.not_mem_nil, or_false] at hq
    rcases hq with rfl | rfl | rfl | rfl
    all_goals (simp only [ne_eq]; omega)
  refine lw_Dc ?_ (⟨by omega, by omega⟩) (fun q hq => ?_)
  rotate_left
  · simp only [List.mem_cons, List.not_mem_nil, or_false] at hq
    rcases hq with rfl | rfl | rfl
    all_goals (simp only [ne_eq]; omega)
  refine lw_Dc ?_ (⟨by omega, by omega⟩) (fun q hq => ?_)
  rotate_left
  · simp only [List.mem_cons, List.not_mem_nil, or_false] at hq
    rcases hq with rfl | rfl
    all_goals (simp only [ne_eq]; omega)
  refine lw_Dc ?_ (⟨by omega, by omega⟩) (fun q hq => ?_)
  rotate_left
  · simp only [List.mem_cons, List.not_mem_nil, or_false] at hq
    rw [hq]
    all_goals (simp only [ne_eq]; omega)
  refine lw_Dc ?_ (⟨by omega, by omega⟩) (fun q hq => ?_)
  rotate_left
  · cases hq
  exact va_D0
set_option maxRecDepth 20000 in
theorem lw_w_ro {D : va_G} {d : hs_Dm} {cB cL : ClassId} {h0 : Nat} {H : Heap} (hg : rg D (lw_X d cB cL h0) h0 182 H) : va_P D vwCl [((h0 + 135), .inr (cRm, [.int 0, .ref (h0 + 135 + 1)])), ((h0 + 135 + 1), .inr (cRh, [.ref (h0 + 135 + 1 + 1), .ref (h0 + 135 + 1 + 12), .ref (h0 + 135 + 1 + 23), .ref (h0 + 135 + 1 + 34), .ref (h0 + 135 + 1 + 43), .ref (h0 + 135 + 1 + 44), .int 0, .int 0, .int 0, .int 0, .int 0, .int 5, .int 200, .int 30])), ((h0 + 135 + 1 + 43), .inl (d.1, 5, .inl (fun _ => 0))), ((h0 + 135 + 1 + 44), .inl (d.1, 5, .inl (fun _ => 0)))] H := va_Pcons (show va_at D vwCl ((h0 + 135), .inr (cRm, [.int 0, .ref (h0 + 135 + 1)])) H from by have h := hg 135 (by decide); rw [show h0 + 135 = (h0 + 135) by omega] at h; exact h) (va_Pcons (show va_at D vwCl ((h0 + 135 + 1), .inr (cRh, [.ref (h0 + 135 + 1 + 1), .ref (h0 + 135 + 1 + 12), .ref (h0 + 135 + 1 + 23), .ref (h0 + 135 + 1 + 34), .ref (h0 + 135 + 1 + 43), .ref (h0 + 135 + 1 + 44), .int 0, .int 0, .int 0, .int 0, .int 0, .int 5, .int 200, .int 30])) H from by have h := hg 136 (by decide); rw [show h0 + 136 = (h0 + 135 + 1) by omega] at h; exact h) (va_Pcons (show va_at D vwCl ((h0 + 135 + 1 + 43), .inl (d.1, 5, .inl (fun _ => 0))) H from by have h := hg 179 (by decide); rw [show h0 + 179 = (h0 + 135 + 1 + 43) by omega] at h; exact h) (va_Pcons (show va_at D vwCl ((h0 + 135 + 1 + 44), .inl (d.1, 5, .inl (fun _ => 0))) H from by have h := hg 180 (by decide); rw [show h0 + 180 = (h0 + 135 + 1 + 44) by omega] at h; exact h) va_P0)))
set_option maxRecDepth 20000 in
theorem lw_d_ro {d : hs_Dm} {cB : ClassId} {h0 : Nat} : va_D (lw_R h0) [((h0 + 135), .inr (cRm, [.int 0, .ref (h0 + 135 + 1)])), ((h0 + 135 + 1), .inr (cRh, [.ref (h0 + 135 + 1 + 1), .ref (h0 + 135 + 1 + 12), .ref (h0 + 135 + 1 + 23), .ref (h0 + 135 + 1 + 34), .ref (h0 + 135 + 1 + 43), .ref (h0 + 135 + 1 + 44), .int 0, .int 0, .int 0, .int 0, .int 0, .int 5, .int 200, .int 30])), ((h0 + 135 + 1 + 43), .inl (d.1, 5, .inl (fun _ => 0))), ((h0 + 135 + 1 + 44), .inl (d.1, 5, .inl (fun _ => 0)))] := by
  refine lw_Dc ?_ (⟨by omega, by omega⟩) (fun q hq => ?_)
  rotate_left
  · simp only [List.mem_cons, List.not_mem_nil, or_false] at hq
    rcases hq with rfl | rfl | rfl
    all_goals (simp only [ne_eq]; omega)
  refine lw_Dc ?_ (⟨by omega, by omega⟩) (fun q hq => ?_)
  rotate_left
  · simp only [List.mem_cons, List.not_mem_nil, or_false] at hq
    rcases hq with rfl | rfl
    all_goals (simp only [ne_eq]; omega)
  refine lw_Dc ?_ (⟨by omega, by omega⟩) (fun q hq => ?_)
  rotate_left
  · simp only [List.mem_cons, List.not_mem_nil, or_false] at hq
    rw [hq]
    all_goals (simp only [ne_eq]; omega)
  refine lw_Dc ?_ (⟨by omega, by omega⟩) (fun q hq => ?_)
  rotate_left
  · cases hq
  exact va_D0
set_option maxHeartbeats 4000000 in
set_option maxRecDepth 100000 in
/-- the law: behind the call -/
theorem lw_tail {p : Program} {l : Launch} {e : Env} {s : State} {m : MethodId} {below : List Frame} {meth : Method} {c : Code} {b : Nat} {D : va_G} {d : hs_Dm} {cB cL : ClassId} {xs : Nat → Int32} (G : lw_G p l s m meth c b D d cB cL xs) {H : Heap} {locs : List Loc} (hS : va_S (rg_A s.heap.size) s.heap H locs) {k n : Nat} (hk : k ≤ 634243) (hn : n ≤ 7199508) {ls : Array Slot} (hl : lv_has ls 9 [(4, .int 0), (0, .ref b)]) : W p l e room_1 s m #[Value.ref b] below meth c H locs k n (lw_Z below #[Value.ref b] s) (F0 m 2108 ls []) := by
  obtain ⟨hx, hb, hr, hlocks, hml, hown, hts, hl0, hX, hbl, hK, hK2, hKL, hXE⟩ := id G
  have hts2 : ∀ w ∈ wsL_law, w.before #[Value.ref b] s = true := fun w h => hts w (wsL_law_in w h)
  have hbA : ¬ rg_A s.heap.size b := Nat.not_le.mpr hbl
  refine lv_iinc (v := 5) (lv' := [(4, .int 5), (0, .ref b)]) hx hb dL_law_2108 hl (k := 0) rfl (by decide) (by decide) rfl (fun ls hl => ?_)
  refine lv_goto (tgt := 23) hx hb dL_law_2111 (by decide) ?_
  refine lv_iload hx hb dL_law_23 (lv_at hl 0 rfl) ?_
  refine lv_aload_n hx hb dL_law_25 rfl (lv_at hl 1 rfl) ?_
  refine va_slen hx hb hX hbl hbA hS dL_law_26 ?_
  refine lv_iconst (v := 5) hx hb dL_law_27 (by decide) ?_
  refine lv_isub hx hb dL_law_28 ?_
  refine lv_icmp_gt (tgt := 2114) hx hb dL_law_29 (by decide) (fun c_29 => ?_) (fun c_29 => ?_)
  · refine lv_iconst (v := 1) hx hb dL_law_2114 (by decide) ?_
    refine va_forget (fun q hq => hS.2.2 q hq) ?_
    refine W.widen hk hn ?_
    exact lw_ret (Drawn.sameBut.refl s.drawn lw_cs) hx hb hr hlocks dL_law_2115
  · exact absurd (by decide) c_29
set_option maxHeartbeats 4000000 in
set_option maxRecDepth 100000 in
/-- the law: lw_c1 -/
theorem lw_c1 {p : Program} {l : Launch} {e : Env} {s : State} {m : MethodId} {below : List Frame} {meth : Method} {c : Code} {b : Nat} {D : va_G} {d : hs_Dm} {cB cL : ClassId} {xs : Nat → Int32} (G : lw_G p l s m meth c b D d cB cL xs)  {H : Heap} {locs : List Loc} (hg : rg D (lw_X d cB cL s.heap.size) s.heap.size 182 H) (hz0 : H.size = s.heap.size + 182) (hS : va_S (rg_A s.heap.size) s.heap H locs) {ls : Array Slot} (hl : lv_has ls 9 [(4, .int 0), (3, .ref (s.heap.size + 181)), (2, .ref (s.heap.size + 135)), (1, .ref s.heap.size), (0, .ref b)]) : W p l e room_1 s m #[Value.ref b] below meth c H locs 182 1149 (lw_Z below #[Value.ref b] s) (F0 m 252 ls []) := by
  obtain ⟨hx, hb, hr, hlocks, hml, hown, hts, hl0, hX, hbl, hK, hK2, hKL, hXE⟩ := id G
  have hts2 : ∀ w ∈ wsL_law, w.before #[Value.ref b] s = true := fun w h => hts w (wsL_law_in w h)
  have hbA : ¬ rg_A s.heap.size b := Nat.not_le.mpr hbl
  refine lv_aload_n hx hb dL_law_252 rfl (lv_at hl 3 rfl) ?_
  refine lv_aload_n hx hb dL_law_253 rfl (lv_at hl 4 rfl) ?_
  refine lv_iload hx hb dL_law_254 (lv_at hl 0 rfl) ?_
  refine lv_iconst (v := 1) hx hb dL_law_256 (by decide) ?_
  refine lv_iadd hx hb dL_law_257 ?_
  refine va_sld (i := 0 + 1) hx hb hX hbl hbA hS (by unfold vp_in; decide) dL_law_258 ?_
  rw [show ((0 : Int32) + 1).toNatClampNeg = 1 from by decide]
  refine lv_aload_n hx hb dL_law_259 rfl (lv_at hl 4 rfl) ?_
  refine lv_iload hx hb dL_law_260 (lv_at hl 0 rfl) ?_
  refine lv_iconst (v := 2) hx hb dL_law_262 (by decide) ?_
  refine lv_iadd hx hb dL_law_263 ?_
  refine va_sld (i := 0 + 2) hx hb hX hbl hbA hS (by unfold vp_in; decide) dL_law_264 ?_
  rw [show ((0 : Int32) + 2).toNatClampNeg = 2 from by decide]
  refine lv_aload_n hx hb dL_law_265 rfl (lv_at hl 4 rfl) ?_
  refine lv_iload hx hb dL_law_266 (lv_at hl 0 rfl) ?_
  refine lv_iconst (v := 3) hx hb dL_law_268 (by decide) ?_
  refine lv_iadd hx hb dL_law_269 ?_
  refine va_sld (i := 0 + 3) hx hb hX hbl hbA hS (by unfold vp_in; decide) dL_law_270 ?_
  rw [show ((0 : Int32) + 3).toNatClampNeg = 3 from by decide]
  refine lv_aload_n hx hb dL_law_271 rfl (lv_at hl 1 rfl) ?_
  refine lw_help (As := [.ref s.heap.size, .int (xs 1), .int (xs 2), .int (xs 3), .ref (s.heap.size + 181)]) ⟨hx, hb, hml, hown, hts2⟩ (hT_trend l D d s.heap.size (rc_L (s.heap.size + 1)) (rc_L (s.heap.size + 68)) (lw_A1 s.heap.size) (lw_A2 s.heap.size) (lw_B s.heap.size) (s.heap.size + 181) cL (fun _ => 0) lw_wB (fun _ h => lw_AB h) (Or.inr rfl) lw_oA hl0 (xs 1) (xs 2) (xs 3)) (vx_cwSW 5 hts2 gL_law_L_trend rfl rfl rfl (by decide +kernel) ⟨Nat.le_of_ble_eq_true rfl, Nat.le_of_ble_eq_true rfl⟩) (lw_house hg) (lw_trial hg) hK hXE lw_BB (lw_wax hg) (lw_out hg) hKL hS rfl hl.1 (Nat.le_of_ble_eq_true rfl) dL_law_272 ⟨Nat.le_of_ble_eq_true rfl, Nat.le_of_ble_eq_true rfl⟩ rfl (fun H1 locs hO hq hz hS => ?_)
  have hsz : s.heap.size + 182 ≤ H1.size := by rw [← hz0]; exact hz
  have hP := lw_keep (lw_w_m2 hg) (lw_d_m2 (d := d) (cB := cB)) hq
  refine lv_istore (lv' := [(5, .int 1), (4, .int 0), (3, .ref (s.heap.size + 181)), (2, .ref (s.heap.size + 135)), (1, .ref s.heap.size), (0, .ref b)]) hx hb dL_law_275 hl (by decide) rfl (fun ls hl => ?_)
  refine lv_aload_n hx hb dL_law_277 rfl (lv_at hl 3 rfl) ?_
  refine lv_aload_n hx hb dL_law_278 rfl (lv_at hl 5 rfl) ?_
  refine lv_iload hx hb dL_law_279 (lv_at hl 1 rfl) ?_
  refine lv_iconst (v := 1) hx hb dL_law_281 (by decide) ?_
  refine lv_iadd hx hb dL_law_282 ?_
  refine va_sld (i := 0 + 1) hx hb hX hbl hbA hS (by unfold vp_in; decide) dL_law_283 ?_
  rw [show ((0 : Int32) + 1).toNatClampNeg = 1 from by decide]
  refine lv_aload_n hx hb dL_law_284 rfl (lv_at hl 5 rfl) ?_
  refine lv_iload hx hb dL_law_285 (lv_at hl 1 rfl) ?_
  refine lv_iconst (v := 2) hx hb dL_law_287 (by decide) ?_
  refine lv_iadd hx hb dL_law_288 ?_
  refine va_sld (i := 0 + 2) hx hb hX hbl hbA hS (by unfold vp_in; decide) dL_law_289 ?_
  rw [show ((0 : Int32) + 2).toNatClampNeg = 2 from by decide]
  refine lv_aload_n hx hb dL_law_290 rfl (lv_at hl 5 rfl) ?_
  refine lv_iload hx hb dL_law_291 (lv_at hl 1 rfl) ?_
  refine lv_iconst (v := 3) hx hb dL_law_293 (by decide) ?_
  refine lv_iadd hx hb dL_law_294 ?_
  refine va_sld (i := 0 + 3) hx hb hX hbl hbA hS (by unfold vp_in; decide) dL_law_295 ?_
  rw [show ((0 : Int32) + 3).toNatClampNeg = 3 from by decide]
  refine lw_ref (As := [.int (xs 1), .int (xs 2), .int (xs 3)]) (V := [((s.heap.size + 135), .inr (cRm, [.int 0, .ref (s.heap.size + 135 + 1)])), ((s.heap.size + 135 + 1), .inr (cRh, [.ref (s.heap.size + 135 + 1 + 1), .ref (s.heap.size + 135 + 1 + 12), .ref (s.heap.size + 135 + 1 + 23), .ref (s.heap.size + 135 + 1 + 34), .ref (s.heap.size + 135 + 1 + 43), .ref (s.heap.size + 135 + 1 + 44), .int 0, .int 0, .int 0, .int 0, .int 0, .int 5, .int 200, .int 30]))]) (V2 := [((s.heap.size + 135), .inr (cRm, [.int 1, .ref (s.heap.size + 135 + 1)]))]) (B := lw_M s.heap.size H1.size) (q0 := 0) (ci := cRm) (r := (RX6, TX6, 2)) ⟨hx, hb, hml, hown, hts2⟩ (rX6_trend l D d.1 cB H1.size (s.heap.size + 135) (s.heap.size + 135 + 1) (s.heap.size + 135 + 1 + 1) (s.heap.size + 135 + 1 + 12) (s.heap.size + 135 + 1 + 23) (s.heap.size + 135 + 1 + 34) (s.heap.size + 135 + 1 + 43) (s.heap.size + 135 + 1 + 44) 0 (xs 1) (xs 2) (xs 3) (lw_M s.heap.size H1.size) (lw_lM (lw_d_m2 (d := d) (cB := cB)))) (cwV 3 hts2 gL_law_X6_trend rfl rfl rfl (by decide +kernel) ⟨Nat.le_of_ble_eq_true rfl, Nat.le_of_ble_eq_true rfl⟩) hK2 hP (lw_MB hsz) hS rfl rfl rfl rfl hl.1 (Nat.le_of_ble_eq_true rfl) dL_law_296 ⟨Nat.le_of_ble_eq_true rfl, Nat.le_of_ble_eq_true rfl⟩ rfl (fun r_ H2 locs hp hM2 hq2 hz2 hS => ?_)
  subst hp
  have hO2 := rf_keep1 hO (fun _ => hq2 (s.heap.size + 181) (by omega) (lw_noM hsz))
  refine lv_istore (lv' := [(6, .int 0), (5, .int 1), (4, .int 0), (3, .ref (s.heap.size + 181)), (2, .ref (s.heap.size + 135)), (1, .ref s.heap.size), (0, .ref b)]) hx hb dL_law_299 hl (by decide) rfl (fun ls hl => ?_)
  refine lv_aload_n hx hb dL_law_301 rfl (lv_at hl 4 rfl) ?_
  refine rf_callR (As := []) (W0 := [((s.heap.size + 135), .inr (cRm, [.int 1, .ref (s.heap.size + 135 + 1)]))] ++ [((s.heap.size + 181), .inl (cL, 1, .inr (.inl (fun _ => 0))))]) (V := [((s.heap.size + 135), .inr (cRm, [.int 1, .ref (s.heap.size + 135 + 1)]))]) (q0 := 0) (ci := cRm) (r := (RX6, TX6, 2)) ⟨hx, hb, hml, hown, hts2⟩ (rX6_thrown l D d.1 cB H2.size (s.heap.size + 135) (s.heap.size + 135 + 1) 1) (cwV 0 hts2 gL_law_X6_thrown rfl rfl rfl (by decide +kernel) ⟨Nat.le_of_ble_eq_true rfl, Nat.le_of_ble_eq_true rfl⟩) hK2 (hM2.app hO2) hM2 hS rfl rfl rfl rfl hl.1 (Nat.le_of_ble_eq_true rfl) dL_law_302 ⟨Nat.le_of_ble_eq_true rfl, Nat.le_of_ble_eq_true rfl⟩ rfl (fun r_ H3 locs hp hP3 hS => ?_)
  subst hp
  refine lv_iload hx hb dL_law_305 (lv_at hl 1 rfl) ?_
  refine lv_icmp_eq (tgt := 312) hx hb dL_law_307 (by decide) (fun c_307 => ?_) (fun c_307 => ?_)
  · refine lv_iload hx hb dL_law_312 (lv_at hl 1 rfl) ?_
    refine lv_if_ne (tgt := 329) hx hb dL_law_314 (by decide) (fun c_314 => ?_) (fun c_314 => ?_)
    · refine lv_goto (tgt := 2108) hx hb dL_law_329 (by decide) ?_
      exact lw_tail G hS (Nat.le_of_ble_eq_true rfl) (Nat.le_of_ble_eq_true rfl) (lv_sub hl [2, 6] rfl)
    · exact absurd c_314 (by decide)
  · exact absurd (by decide) c_307
set_option maxHeartbeats 4000000 in
set_option maxRecDepth 100000 in
/-- the law: lw_c2 -/
theorem lw_c2 {p : Program} {l : Launch} {e : Env} {s : State} {m : MethodId} {below : List Frame} {meth : Method} {c : Code} {b : Nat} {D : va_G} {d : hs_Dm} {cB cL : ClassId} {xs : Nat → Int32} (G : lw_G p l s m meth c b D d cB cL xs)  {H : Heap} {locs : List Loc} (hg : rg D (lw_X d cB cL s.heap.size) s.heap.size 182 H) (hz0 : H.size = s.heap.size + 182) (hS : va_S (rg_A s.heap.size) s.heap H locs) {ls : Array Slot} (hl : lv_has ls 9 [(4, .int 0), (3, .ref (s.heap.size + 181)), (2, .ref (s.heap.size + 135)), (1, .ref s.heap.size), (0, .ref b)]) : W p l e room_1 s m #[Value.ref b] below meth c H locs 182 1149 (lw_Z below #[Value.ref b] s) (F0 m 332 ls []) := by
  obtain ⟨hx, hb, hr, hlocks, hml, hown, hts, hl0, hX, hbl, hK, hK2, hKL, hXE⟩ := id G
  have hts2 : ∀ w ∈ wsL_law, w.before #[Value.ref b] s = true := fun w h => hts w (wsL_law_in w h)
  have hbA : ¬ rg_A s.heap.size b := Nat.not_le.mpr hbl
  refine lv_aload_n hx hb dL_law_332 rfl (lv_at hl 3 rfl) ?_
  refine lv_aload_n hx hb dL_law_333 rfl (lv_at hl 4 rfl) ?_
  refine lv_iload hx hb dL_law_334 (lv_at hl 0 rfl) ?_
  refine lv_iconst (v := 1) hx hb dL_law_336 (by decide) ?_
  refine lv_iadd hx hb dL_law_337 ?_
  refine va_sld (i := 0 + 1) hx hb hX hbl hbA hS (by unfold vp_in; decide) dL_law_338 ?_
  rw [show ((0 : Int32) + 1).toNatClampNeg = 1 from by decide]
  refine lv_aload_n hx hb dL_law_339 rfl (lv_at hl 4 rfl) ?_
  refine lv_iload hx hb dL_law_340 (lv_at hl 0 rfl) ?_
  refine lv_iconst (v := 2) hx hb dL_law_342 (by decide) ?_
  refine lv_iadd hx hb dL_law_343 ?_
  refine va_sld (i := 0 + 2) hx hb hX hbl hbA hS (by unfold vp_in; decide) dL_law_344 ?_
  rw [show ((0 : Int32) + 2).toNatClampNeg = 2 from by decide]
  refine lv_aload_n hx hb dL_law_345 rfl (lv_at hl 1 rfl) ?_
  refine lw_help (As := [.ref s.heap.size, .int (xs 1), .int (xs 2), .ref (s.heap.size + 181)]) ⟨hx, hb, hml, hown, hts2⟩ (hT_news l D d s.heap.size (rc_L (s.heap.size + 1)) (rc_L (s.heap.size + 68)) (lw_A1 s.heap.size) (lw_A2 s.heap.size) (lw_B s.heap.size) (s.heap.size + 181) cL (fun _ => 0) lw_wB (fun _ h => lw_AB h) (Or.inr rfl) lw_oA hl0 (xs 1) (xs 2)) (vx_cwSW 4 hts2 gL_law_L_news rfl rfl rfl (by decide +kernel) ⟨Nat.le_of_ble_eq_true rfl, Nat.le_of_ble_eq_true rfl⟩) (lw_house hg) (lw_trial hg) hK hXE lw_BB (lw_wax hg) (lw_out hg) hKL hS rfl hl.1 (Nat.le_of_ble_eq_true rfl) dL_law_346 ⟨Nat.le_of_ble_eq_true rfl, Nat.le_of_ble_eq_true rfl⟩ rfl (fun H1 locs hO hq hz hS => ?_)
  have hsz : s.heap.size + 182 ≤ H1.size := by rw [← hz0]; exact hz
  have hP := lw_keep (lw_w_m2 hg) (lw_d_m2 (d := d) (cB := cB)) hq
  refine lv_istore (lv' := [(5, .int 1), (4, .int 0), (3, .ref (s.heap.size + 181)), (2, .ref (s.heap.size + 135)), (1, .ref s.heap.size), (0, .ref b)]) hx hb dL_law_349 hl (by decide) rfl (fun ls hl => ?_)
  refine lv_aload_n hx hb dL_law_351 rfl (lv_at hl 3 rfl) ?_
  refine lv_aload_n hx hb dL_law_352 rfl (lv_at hl 5 rfl) ?_
  refine lv_iload hx hb dL_law_353 (lv_at hl 1 rfl) ?_
  refine lv_iconst (v := 1) hx hb dL_law_355 (by decide) ?_
  refine lv_iadd hx hb dL_law_356 ?_
  refine va_sld (i := 0 + 1) hx hb hX hbl hbA hS (by unfold vp_in; decide) dL_law_357 ?_
  rw [show ((0 : Int32) + 1).toNatClampNeg = 1 from by decide]
  refine lv_aload_n hx hb dL_law_358 rfl (lv_at hl 5 rfl) ?_
  refine lv_iload hx hb dL_law_359 (lv_at hl 1 rfl) ?_
  refine lv_iconst (v := 2) hx hb dL_law_361 (by decide) ?_
  refine lv_iadd hx hb dL_law_362 ?_
  refine va_sld (i := 0 + 2) hx hb hX hbl hbA hS (by unfold vp_in; decide) dL_law_363 ?_
  rw [show ((0 : Int32) + 2).toNatClampNeg = 2 from by decide]
  refine lw_ref (As := [.int (xs 1), .int (xs 2)]) (V := [((s.heap.size + 135), .inr (cRm, [.int 0, .ref (s.heap.size + 135 + 1)])), ((s.heap.size + 135 + 1), .inr (cRh, [.ref (s.heap.size + 135 + 1 + 1), .ref (s.heap.size + 135 + 1 + 12), .ref (s.heap.size + 135 + 1 + 23), .ref (s.heap.size + 135 + 1 + 34), .ref (s.heap.size + 135 + 1 + 43), .ref (s.heap.size + 135 + 1 + 44), .int 0, .int 0, .int 0, .int 0, .int 0, .int 5, .int 200, .int 30]))]) (V2 := [((s.heap.size + 135), .inr (cRm, [.int 1, .ref (s.heap.size + 135 + 1)]))]) (B := lw_M s.heap.size H1.size) (q0 := 0) (ci := cRm) (r := (RX6, TX6, 2)) ⟨hx, hb, hml, hown, hts2⟩ (rX6_news l D d.1 cB H1.size (s.heap.size + 135) (s.heap.size + 135 + 1) (s.heap.size + 135 + 1 + 1) (s.heap.size + 135 + 1 + 12) (s.heap.size + 135 + 1 + 23) (s.heap.size + 135 + 1 + 34) (s.heap.size + 135 + 1 + 43) (s.heap.size + 135 + 1 + 44) 0 (xs 1) (xs 2) (lw_M s.heap.size H1.size) (lw_lM (lw_d_m2 (d := d) (cB := cB)))) (cwV 2 hts2 gL_law_X6_news rfl rfl rfl (by decide +kernel) ⟨Nat.le_of_ble_eq_true rfl, Nat.le_of_ble_eq_true rfl⟩) hK2 hP (lw_MB hsz) hS rfl rfl rfl rfl hl.1 (Nat.le_of_ble_eq_true rfl) dL_law_364 ⟨Nat.le_of_ble_eq_true rfl, Nat.le_of_ble_eq_true rfl⟩ rfl (fun r_ H2 locs hp hM2 hq2 hz2 hS => ?_)
  subst hp
  have hO2 := rf_keep1 hO (fun _ => hq2 (s.heap.size + 181) (by omega) (lw_noM hsz))
  refine lv_istore (lv' := [(6, .int 0), (5, .int 1), (4, .int 0), (3, .ref (s.heap.size + 181)), (2, .ref (s.heap.size + 135)), (1, .ref s.heap.size), (0, .ref b)]) hx hb dL_law_367 hl (by decide) rfl (fun ls hl => ?_)
  refine lv_aload_n hx hb dL_law_369 rfl (lv_at hl 4 rfl) ?_
  refine rf_callR (As := []) (W0 := [((s.heap.size + 135), .inr (cRm, [.int 1, .ref (s.heap.size + 135 + 1)]))] ++ [((s.heap.size + 181), .inl (cL, 1, .inr (.inl (fun _ => 0))))]) (V := [((s.heap.size + 135), .inr (cRm, [.int 1, .ref (s.heap.size + 135 + 1)]))]) (q0 := 0) (ci := cRm) (r := (RX6, TX6, 2)) ⟨hx, hb, hml, hown, hts2⟩ (rX6_thrown l D d.1 cB H2.size (s.heap.size + 135) (s.heap.size + 135 + 1) 1) (cwV 0 hts2 gL_law_X6_thrown rfl rfl rfl (by decide +kernel) ⟨Nat.le_of_ble_eq_true rfl, Nat.le_of_ble_eq_true rfl⟩) hK2 (hM2.app hO2) hM2 hS rfl rfl rfl rfl hl.1 (Nat.le_of_ble_eq_true rfl) dL_law_370 ⟨Nat.le_of_ble_eq_true rfl, Nat.le_of_ble_eq_true rfl⟩ rfl (fun r_ H3 locs hp hP3 hS => ?_)
  subst hp
  refine lv_iload hx hb dL_law_373 (lv_at hl 1 rfl) ?_
  refine lv_icmp_eq (tgt := 380) hx hb dL_law_375 (by decide) (fun c_375 => ?_) (fun c_375 => ?_)
  · refine lv_iload hx hb dL_law_380 (lv_at hl 1 rfl) ?_
    refine lv_if_ne (tgt := 397) hx hb dL_law_382 (by decide) (fun c_382 => ?_) (fun c_382 => ?_)
    · refine lv_goto (tgt := 2108) hx hb dL_law_397 (by decide) ?_
      exact lw_tail G hS (Nat.le_of_ble_eq_true rfl) (Nat.le_of_ble_eq_true rfl) (lv_sub hl [2, 6] rfl)
    · exact absurd c_382 (by decide)
  · exact absurd (by decide) c_375
set_option maxHeartbeats 4000000 in
set_option maxRecDepth 100000 in
/-- the law: lw_c3 -/
theorem lw_c3 {p : Program} {l : Launch} {e : Env} {s : State} {m : MethodId} {below : List Frame} {meth : Method} {c : Code} {b : Nat} {D : va_G} {d : hs_Dm} {cB cL : ClassId} {xs : Nat → Int32} (G : lw_G p l s m meth c b D d cB cL xs)  {H : Heap} {locs : List Loc} (hg : rg D (lw_X d cB cL s.heap.size) s.heap.size 182 H) (hz0 : H.size = s.heap.size + 182) (hS : va_S (rg_A s.heap.size) s.heap H locs) {ls : Array Slot} (hl : lv_has ls 9 [(4, .int 0), (3, .ref (s.heap.size + 181)), (2, .ref (s.heap.size + 135)), (1, .ref s.heap.size), (0, .ref b)]) : W p l e room_1 s m #[Value.ref b] below meth c H locs 182 1149 (lw_Z below #[Value.ref b] s) (F0 m 400 ls []) := by
  obtain ⟨hx, hb, hr, hlocks, hml, hown, hts, hl0, hX, hbl, hK, hK2, hKL, hXE⟩ := id G
  have hts2 : ∀ w ∈ wsL_law, w.before #[Value.ref b] s = true := fun w h => hts w (wsL_law_in w h)
  have hbA : ¬ rg_A s.heap.size b := Nat.not_le.mpr hbl
  refine lv_aload_n hx hb dL_law_400 rfl (lv_at hl 3 rfl) ?_
  refine lv_aload_n hx hb dL_law_401 rfl (lv_at hl 4 rfl) ?_
  refine lv_iload hx hb dL_law_402 (lv_at hl 0 rfl) ?_
  refine lv_iconst (v := 1) hx hb dL_law_404 (by decide) ?_
  refine lv_iadd hx hb dL_law_405 ?_
  refine va_sld (i := 0 + 1) hx hb hX hbl hbA hS (by unfold vp_in; decide) dL_law_406 ?_
  rw [show ((0 : Int32) + 1).toNatClampNeg = 1 from by decide]
  refine lv_aload_n hx hb dL_law_407 rfl (lv_at hl 4 rfl) ?_
  refine lv_iload hx hb dL_law_408 (lv_at hl 0 rfl) ?_
  refine lv_iconst (v := 2) hx hb dL_law_410 (by decide) ?_
  refine lv_iadd hx hb dL_law_411 ?_
  refine va_sld (i := 0 + 2) hx hb hX hbl hbA hS (by unfold vp_in; decide) dL_law_412 ?_
  rw [show ((0 : Int32) + 2).toNatClampNeg = 2 from by decide]
  refine lv_if_eq (tgt := 420) hx hb dL_law_413 (by decide) (fun c_413 => ?_) (fun c_413 => ?_)
  · refine lv_iconst (v := 0) hx hb dL_law_420 (by decide) ?_
    refine lv_aload_n hx hb dL_law_421 rfl (lv_at hl 1 rfl) ?_
    refine lw_help (As := [.ref s.heap.size, .int (xs 1), .int 0, .ref (s.heap.size + 181)]) ⟨hx, hb, hml, hown, hts2⟩ (hT_consent l D d s.heap.size (rc_L (s.heap.size + 1)) (rc_L (s.heap.size + 68)) (lw_A1 s.heap.size) (lw_A2 s.heap.size) (lw_B s.heap.size) (s.heap.size + 181) cL (fun _ => 0) lw_wB (fun _ h => lw_AB h) (Or.inr rfl) lw_oA hl0 (xs 1) 0) (vx_cwSW 4 hts2 gL_law_L_consent rfl rfl rfl (by decide +kernel) ⟨Nat.le_of_ble_eq_true rfl, Nat.le_of_ble_eq_true rfl⟩) (lw_house hg) (lw_trial hg) hK hXE lw_BB (lw_wax hg) (lw_out hg) hKL hS rfl hl.1 (Nat.le_of_ble_eq_true rfl) dL_law_422 ⟨Nat.le_of_ble_eq_true rfl, Nat.le_of_ble_eq_true rfl⟩ rfl (fun H1 locs hO hq hz hS => ?_)
    have hsz : s.heap.size + 182 ≤ H1.size := by rw [← hz0]; exact hz
    have hP := lw_keep (lw_w_m2 hg) (lw_d_m2 (d := d) (cB := cB)) hq
    refine lv_istore (lv' := [(5, .int 1), (4, .int 0), (3, .ref (s.heap.size + 181)), (2, .ref (s.heap.size + 135)), (1, .ref s.heap.size), (0, .ref b)]) hx hb dL_law_425 hl (by decide) rfl (fun ls hl => ?_)
    refine lv_aload_n hx hb dL_law_427 rfl (lv_at hl 3 rfl) ?_
    refine lv_aload_n hx hb dL_law_428 rfl (lv_at hl 5 rfl) ?_
    refine lv_iload hx hb dL_law_429 (lv_at hl 1 rfl) ?_
    refine lv_iconst (v := 1) hx hb dL_law_431 (by decide) ?_
    refine lv_iadd hx hb dL_law_432 ?_
    refine va_sld (i := 0 + 1) hx hb hX hbl hbA hS (by unfold vp_in; decide) dL_law_433 ?_
    rw [show ((0 : Int32) + 1).toNatClampNeg = 1 from by decide]
    refine lv_aload_n hx hb dL_law_434 rfl (lv_at hl 5 rfl) ?_
    refine lv_iload hx hb dL_law_435 (lv_at hl 1 rfl) ?_
    refine lv_iconst (v := 2) hx hb dL_law_437 (by decide) ?_
    refine lv_iadd hx hb dL_law_438 ?_
    refine va_sld (i := 0 + 2) hx hb hX hbl hbA hS (by unfold vp_in; decide) dL_law_439 ?_
    rw [show ((0 : Int32) + 2).toNatClampNeg = 2 from by decide]
    refine lv_if_eq (tgt := 447) hx hb dL_law_440 (by decide) (fun c_440 => ?_) (fun c_440 => ?_)
    · refine lv_iconst (v := 0) hx hb dL_law_447 (by decide) ?_
      refine lw_ref (As := [.int (xs 1), .int 0]) (V := [((s.heap.size + 135), .inr (cRm, [.int 0, .ref (s.heap.size + 135 + 1)])), ((s.heap.size + 135 + 1), .inr (cRh, [.ref (s.heap.size + 135 + 1 + 1), .ref (s.heap.size + 135 + 1 + 12), .ref (s.heap.size + 135 + 1 + 23), .ref (s.heap.size + 135 + 1 + 34), .ref (s.heap.size + 135 + 1 + 43), .ref (s.heap.size + 135 + 1 + 44), .int 0, .int 0, .int 0, .int 0, .int 0, .int 5, .int 200, .int 30]))]) (V2 := [((s.heap.size + 135), .inr (cRm, [.int 1, .ref (s.heap.size + 135 + 1)]))]) (B := lw_M s.heap.size H1.size) (q0 := 0) (ci := cRm) (r := (RX6, TX6, 2)) ⟨hx, hb, hml, hown, hts2⟩ (rX6_consent l D d.1 cB H1.size (s.heap.size + 135) (s.heap.size + 135 + 1) (s.heap.size + 135 + 1 + 1) (s.heap.size + 135 + 1 + 12) (s.heap.size + 135 + 1 + 23) (s.heap.size + 135 + 1 + 34) (s.heap.size + 135 + 1 + 43) (s.heap.size + 135 + 1 + 44) 0 (xs 1) 0 (lw_M s.heap.size H1.size) (lw_lM (lw_d_m2 (d := d) (cB := cB)))) (cwV 2 hts2 gL_law_X6_consent rfl rfl rfl (by decide +kernel) ⟨Nat.le_of_ble_eq_true rfl, Nat.le_of_ble_eq_true rfl⟩) hK2 hP (lw_MB hsz) hS rfl rfl rfl rfl hl.1 (Nat.le_of_ble_eq_true rfl) dL_law_448 ⟨Nat.le_of_ble_eq_true rfl, Nat.le_of_ble_eq_true rfl⟩ rfl (fun r_ H2 locs hp hM2 hq2 hz2 hS => ?_)
      subst hp
      have hO2 := rf_keep1 hO (fun _ => hq2 (s.heap.size + 181) (by omega) (lw_noM hsz))
      refine lv_istore (lv' := [(6, .int 0), (5, .int 1), (4, .int 0), (3, .ref (s.heap.size + 181)), (2, .ref (s.heap.size + 135)), (1, .ref s.heap.size), (0, .ref b)]) hx hb dL_law_451 hl (by decide) rfl (fun ls hl => ?_)
      refine lv_aload_n hx hb dL_law_453 rfl (lv_at hl 4 rfl) ?_
      refine rf_callR (As := []) (W0 := [((s.heap.size + 135), .inr (cRm, [.int 1, .ref (s.heap.size + 135 + 1)]))] ++ [((s.heap.size + 181), .inl (cL, 1, .inr (.inl (fun _ => 0))))]) (V := [((s.heap.size + 135), .inr (cRm, [.int 1, .ref (s.heap.size + 135 + 1)]))]) (q0 := 0) (ci := cRm) (r := (RX6, TX6, 2)) ⟨hx, hb, hml, hown, hts2⟩ (rX6_thrown l D d.1 cB H2.size (s.heap.size + 135) (s.heap.size + 135 + 1) 1) (cwV 0 hts2 gL_law_X6_thrown rfl rfl rfl (by decide +kernel) ⟨Nat.le_of_ble_eq_true rfl, Nat.le_of_ble_eq_true rfl⟩) hK2 (hM2.app hO2) hM2 hS rfl rfl rfl rfl hl.1 (Nat.le_of_ble_eq_true rfl) dL_law_454 ⟨Nat.le_of_ble_eq_true rfl, Nat.le_of_ble_eq_true rfl⟩ rfl (fun r_ H3 locs hp hP3 hS => ?_)
      subst hp
      refine lv_iload hx hb dL_law_457 (lv_at hl 1 rfl) ?_
      refine lv_icmp_eq (tgt := 464) hx hb dL_law_459 (by decide) (fun c_459 => ?_) (fun c_459 => ?_)
      · refine lv_iload hx hb dL_law_464 (lv_at hl 1 rfl) ?_
        refine lv_if_ne (tgt := 481) hx hb dL_law_466 (by decide) (fun c_466 => ?_) (fun c_466 => ?_)
        · refine lv_goto (tgt := 2108) hx hb dL_law_481 (by decide) ?_
          exact lw_tail G hS (Nat.le_of_ble_eq_true rfl) (Nat.le_of_ble_eq_true rfl) (lv_sub hl [2, 6] rfl)
        · exact absurd c_466 (by decide)
      · exact absurd (by decide) c_459
    · refine lv_iconst (v := 1) hx hb dL_law_443 (by decide) ?_
      refine lv_goto (tgt := 448) hx hb dL_law_444 (by decide) ?_
      refine lw_ref (As := [.int (xs 1), .int 1]) (V := [((s.heap.size + 135), .inr (cRm, [.int 0, .ref (s.heap.size + 135 + 1)])), ((s.heap.size + 135 + 1), .inr (cRh, [.ref (s.heap.size + 135 + 1 + 1), .ref (s.heap.size + 135 + 1 + 12), .ref (s.heap.size + 135 + 1 + 23), .ref (s.heap.size + 135 + 1 + 34), .ref (s.heap.size + 135 + 1 + 43), .ref (s.heap.size + 135 + 1 + 44), .int 0, .int 0, .int 0, .int 0, .int 0, .int 5, .int 200, .int 30]))]) (V2 := [((s.heap.size + 135), .inr (cRm, [.int 1, .ref (s.heap.size + 135 + 1)]))]) (B := lw_M s.heap.size H1.size) (q0 := 0) (ci := cRm) (r := (RX6, TX6, 2)) ⟨hx, hb, hml, hown, hts2⟩ (rX6_consent l D d.1 cB H1.size (s.heap.size + 135) (s.heap.size + 135 + 1) (s.heap.size + 135 + 1 + 1) (s.heap.size + 135 + 1 + 12) (s.heap.size + 135 + 1 + 23) (s.heap.size + 135 + 1 + 34) (s.heap.size + 135 + 1 + 43) (s.heap.size + 135 + 1 + 44) 0 (xs 1) 1 (lw_M s.heap.size H1.size) (lw_lM (lw_d_m2 (d := d) (cB := cB)))) (cwV 2 hts2 gL_law_X6_consent rfl rfl rfl (by decide +kernel) ⟨Nat.le_of_ble_eq_true rfl, Nat.le_of_ble_eq_true rfl⟩) hK2 hP (lw_MB hsz) hS rfl rfl rfl rfl hl.1 (Nat.le_of_ble_eq_true rfl) dL_law_448 ⟨Nat.le_of_ble_eq_true rfl, Nat.le_of_ble_eq_true rfl⟩ rfl (fun r_ H2 locs hp hM2 hq2 hz2 hS => ?_)
      subst hp
      have hO2 := rf_keep1 hO (fun _ => hq2 (s.heap.size + 181) (by omega) (lw_noM hsz))
      refine lv_istore (lv' := [(6, .int 0), (5, .int 1), (4, .int 0), (3, .ref (s.heap.size + 181)), (2, .ref (s.heap.size + 135)), (1, .ref s.heap.size), (0, .ref b)]) hx hb dL_law_451 hl (by decide) rfl (fun ls hl => ?_)
      refine lv_aload_n hx hb dL_law_453 rfl (lv_at hl 4 rfl) ?_
      refine rf_callR (As := []) (W0 := [((s.heap.size + 135), .inr (cRm, [.int 1, .ref (s.heap.size + 135 + 1)]))] ++ [((s.heap.size + 181), .inl (cL, 1, .inr (.inl (fun _ => 0))))]) (V := [((s.heap.size + 135), .inr (cRm, [.int 1, .ref (s.heap.size + 135 + 1)]))]) (q0 := 0) (ci := cRm) (r := (RX6, TX6, 2)) ⟨hx, hb, hml, hown, hts2⟩ (rX6_thrown l D d.1 cB H2.size (s.heap.size + 135) (s.heap.size + 135 + 1) 1) (cwV 0 hts2 gL_law_X6_thrown rfl rfl rfl (by decide +kernel) ⟨Nat.le_of_ble_eq_true rfl, Nat.le_of_ble_eq_true rfl⟩) hK2 (hM2.app hO2) hM2 hS rfl rfl rfl rfl hl.1 (Nat.le_of_ble_eq_true rfl) dL_law_454 ⟨Nat.le_of_ble_eq_true rfl, Nat.le_of_ble_eq_true rfl⟩ rfl (fun r_ H3 locs hp hP3 hS => ?_)
      subst hp
      refine lv_iload hx hb dL_law_457 (lv_at hl 1 rfl) ?_
      refine lv_icmp_eq (tgt := 464) hx hb dL_law_459 (by decide) (fun c_459 => ?_) (fun c_459 => ?_)
      · refine lv_iload hx hb dL_law_464 (lv_at hl 1 rfl) ?_
        refine lv_if_ne (tgt := 481) hx hb dL_law_466 (by decide) (fun c_466 => ?_) (fun c_466 => ?_)
        · refine lv_goto (tgt := 2108) hx hb dL_law_481 (by decide) ?_
          exact lw_tail G hS (Nat.le_of_ble_eq_true rfl) (Nat.le_of_ble_eq_true rfl) (lv_sub hl [2, 6] rfl)
        · exact absurd c_466 (by decide)
      · exact absurd (by decide) c_459
  · refine lv_iconst (v := 1) hx hb dL_law_416 (by decide) ?_
    refine lv_goto (tgt := 421) hx hb dL_law_417 (by decide) ?_
    refine lv_aload_n hx hb dL_law_421 rfl (lv_at hl 1 rfl) ?_
    refine lw_help (As := [.ref s.heap.size, .int (xs 1), .int 1, .ref (s.heap.size + 181)]) ⟨hx, hb, hml, hown, hts2⟩ (hT_consent l D d s.heap.size (rc_L (s.heap.size + 1)) (rc_L (s.heap.size + 68)) (lw_A1 s.heap.size) (lw_A2 s.heap.size) (lw_B s.heap.size) (s.heap.size + 181) cL (fun _ => 0) lw_wB (fun _ h => lw_AB h) (Or.inr rfl) lw_oA hl0 (xs 1) 1) (vx_cwSW 4 hts2 gL_law_L_consent rfl rfl rfl (by decide +kernel) ⟨Nat.le_of_ble_eq_true rfl, Nat.le_of_ble_eq_true rfl⟩) (lw_house hg) (lw_trial hg) hK hXE lw_BB (lw_wax hg) (lw_out hg) hKL hS rfl hl.1 (Nat.le_of_ble_eq_true rfl) dL_law_422 ⟨Nat.le_of_ble_eq_true rfl, Nat.le_of_ble_eq_true rfl⟩ rfl (fun H1 locs hO hq hz hS => ?_)
    have hsz : s.heap.size + 182 ≤ H1.size := by rw [← hz0]; exact hz
    have hP := lw_keep (lw_w_m2 hg) (lw_d_m2 (d := d) (cB := cB)) hq
    refine lv_istore (lv' := [(5, .int 1), (4, .int 0), (3, .ref (s.heap.size + 181)), (2, .ref (s.heap.size + 135)), (1, .ref s.heap.size), (0, .ref b)]) hx hb dL_law_425 hl (by decide) rfl (fun ls hl => ?_)
    refine lv_aload_n hx hb dL_law_427 rfl (lv_at hl 3 rfl) ?_
    refine lv_aload_n hx hb dL_law_428 rfl (lv_at hl 5 rfl) ?_
    refine lv_iload hx hb dL_law_429 (lv_at hl 1 rfl) ?_
    refine lv_iconst (v := 1) hx hb dL_law_431 (by decide) ?_
    refine lv_iadd hx hb dL_law_432 ?_
    refine va_sld (i := 0 + 1) hx hb hX hbl hbA hS (by unfold vp_in; decide) dL_law_433 ?_
    rw [show ((0 : Int32) + 1).toNatClampNeg = 1 from by decide]
    refine lv_aload_n hx hb dL_law_434 rfl (lv_at hl 5 rfl) ?_
    refine lv_iload hx hb dL_law_435 (lv_at hl 1 rfl) ?_
    refine lv_iconst (v := 2) hx hb dL_law_437 (by decide) ?_
    refine lv_iadd hx hb dL_law_438 ?_
    refine va_sld (i := 0 + 2) hx hb hX hbl hbA hS (by unfold vp_in; decide) dL_law_439 ?_
    rw [show ((0 : Int32) + 2).toNatClampNeg = 2 from by decide]
    refine lv_if_eq (tgt := 447) hx hb dL_law_440 (by decide) (fun c_440 => ?_) (fun c_440 => ?_)
    · refine lv_iconst (v := 0) hx hb dL_law_447 (by decide) ?_
      refine lw_ref (As := [.int (xs 1), .int 0]) (V := [((s.heap.size + 135), .inr (cRm, [.int 0, .ref (s.heap.size + 135 + 1)])), ((s.heap.size + 135 + 1), .inr (cRh, [.ref (s.heap.size + 135 + 1 + 1), .ref (s.heap.size + 135 + 1 + 12), .ref (s.heap.size + 135 + 1 + 23), .ref (s.heap.size + 135 + 1 + 34), .ref (s.heap.size + 135 + 1 + 43), .ref (s.heap.size + 135 + 1 + 44), .int 0, .int 0, .int 0, .int 0, .int 0, .int 5, .int 200, .int 30]))]) (V2 := [((s.heap.size + 135), .inr (cRm, [.int 1, .ref (s.heap.size + 135 + 1)]))]) (B := lw_M s.heap.size H1.size) (q0 := 0) (ci := cRm) (r := (RX6, TX6, 2)) ⟨hx, hb, hml, hown, hts2⟩ (rX6_consent l D d.1 cB H1.size (s.heap.size + 135) (s.heap.size + 135 + 1) (s.heap.size + 135 + 1 + 1) (s.heap.size + 135 + 1 + 12) (s.heap.size + 135 + 1 + 23) (s.heap.size + 135 + 1 + 34) (s.heap.size + 135 + 1 + 43) (s.heap.size + 135 + 1 + 44) 0 (xs 1) 0 (lw_M s.heap.size H1.size) (lw_lM (lw_d_m2 (d := d) (cB := cB)))) (cwV 2 hts2 gL_law_X6_consent rfl rfl rfl (by decide +kernel) ⟨Nat.le_of_ble_eq_true rfl, Nat.le_of_ble_eq_true rfl⟩) hK2 hP (lw_MB hsz) hS rfl rfl rfl rfl hl.1 (Nat.le_of_ble_eq_true rfl) dL_law_448 ⟨Nat.le_of_ble_eq_true rfl, Nat.le_of_ble_eq_true rfl⟩ rfl (fun r_ H2 locs hp hM2 hq2 hz2 hS => ?_)
      subst hp
      have hO2 := rf_keep1 hO (fun _ => hq2 (s.heap.size + 181) (by omega) (lw_noM hsz))
      refine lv_istore (lv' := [(6, .int 0), (5, .int 1), (4, .int 0), (3, .ref (s.heap.size + 181)), (2, .ref (s.heap.size + 135)), (1, .ref s.heap.size), (0, .ref b)]) hx hb dL_law_451 hl (by decide) rfl (fun ls hl => ?_)
      refine lv_aload_n hx hb dL_law_453 rfl (lv_at hl 4 rfl) ?_
      refine rf_callR (As := []) (W0 := [((s.heap.size + 135), .inr (cRm, [.int 1, .ref (s.heap.size + 135 + 1)]))] ++ [((s.heap.size + 181), .inl (cL, 1, .inr (.inl (fun _ => 0))))]) (V := [((s.heap.size + 135), .inr (cRm, [.int 1, .ref (s.heap.size + 135 + 1)]))]) (q0 := 0) (ci := cRm) (r := (RX6, TX6, 2)) ⟨hx, hb, hml, hown, hts2⟩ (rX6_thrown l D d.1 cB H2.size (s.heap.size + 135) (s.heap.size + 135 + 1) 1) (cwV 0 hts2 gL_law_X6_thrown rfl rfl rfl (by decide +kernel) ⟨Nat.le_of_ble_eq_true rfl, Nat.le_of_ble_eq_true rfl⟩) hK2 (hM2.app hO2) hM2 hS rfl rfl rfl rfl hl.1 (Nat.le_of_ble_eq_true rfl) dL_law_454 ⟨Nat.le_of_ble_eq_true rfl, Nat.le_of_ble_eq_true rfl⟩ rfl (fun r_ H3 locs hp hP3 hS => ?_)
      subst hp
      refine lv_iload hx hb dL_law_457 (lv_at hl 1 rfl) ?_
      refine lv_icmp_eq (tgt := 464) hx hb dL_law_459 (by decide) (fun c_459 => ?_) (fun c_459 => ?_)
      · refine lv_iload hx hb dL_law_464 (lv_at hl 1 rfl) ?_
        refine lv_if_ne (tgt := 481) hx hb dL_law_466 (by decide) (fun c_466 => ?_) (fun c_466 => ?_)
        · refine lv_goto (tgt := 2108) hx hb dL_law_481 (by decide) ?_
          exact lw_tail G hS (Nat.le_of_ble_eq_true rfl) (Nat.le_of_ble_eq_true rfl) (lv_sub hl [2, 6] rfl)
        · exact absurd c_466 (by decide)
      · exact absurd (by decide) c_459
    · refine lv_iconst (v := 1) hx hb dL_law_443 (by decide) ?_
      refine lv_goto (tgt := 448) hx hb dL_law_444 (by decide) ?_
      refine lw_ref (As := [.int (xs 1), .int 1]) (V := [((s.heap.size + 135), .inr (cRm, [.int 0, .ref (s.heap.size + 135 + 1)])), ((s.heap.size + 135 + 1), .inr (cRh, [.ref (s.heap.size + 135 + 1 + 1), .ref (s.heap.size + 135 + 1 + 12), .ref (s.heap.size + 135 + 1 + 23), .ref (s.heap.size + 135 + 1 + 34), .ref (s.heap.size + 135 + 1 + 43), .ref (s.heap.size + 135 + 1 + 44), .int 0, .int 0, .int 0, .int 0, .int 0, .int 5, .int 200, .int 30]))]) (V2 := [((s.heap.size + 135), .inr (cRm, [.int 1, .ref (s.heap.size + 135 + 1)]))]) (B := lw_M s.heap.size H1.size) (q0 := 0) (ci := cRm) (r := (RX6, TX6, 2)) ⟨hx, hb, hml, hown, hts2⟩ (rX6_consent l D d.1 cB H1.size (s.heap.size + 135) (s.heap.size + 135 + 1) (s.heap.size + 135 + 1 + 1) (s.heap.size + 135 + 1 + 12) (s.heap.size + 135 + 1 + 23) (s.heap.size + 135 + 1 + 34) (s.heap.size + 135 + 1 + 43) (s.heap.size + 135 + 1 + 44) 0 (xs 1) 1 (lw_M s.heap.size H1.size) (lw_lM (lw_d_m2 (d := d) (cB := cB)))) (cwV 2 hts2 gL_law_X6_consent rfl rfl rfl (by decide +kernel) ⟨Nat.le_of_ble_eq_true rfl, Nat.le_of_ble_eq_true rfl⟩) hK2 hP (lw_MB hsz) hS rfl rfl rfl rfl hl.1 (Nat.le_of_ble_eq_true rfl) dL_law_448 ⟨Nat.le_of_ble_eq_true rfl, Nat.le_of_ble_eq_true rfl⟩ rfl (fun r_ H2 locs hp hM2 hq2 hz2 hS => ?_)
      subst hp
      have hO2 := rf_keep1 hO (fun _ => hq2 (s.heap.size + 181) (by omega) (lw_noM hsz))
      refine lv_istore (lv' := [(6, .int 0), (5, .int 1), (4, .int 0), (3, .ref (s.heap.size + 181)), (2, .ref (s.heap.size + 135)), (1, .ref s.heap.size), (0, .ref b)]) hx hb dL_law_451 hl (by decide) rfl (fun ls hl => ?_)
      refine lv_aload_n hx hb dL_law_453 rfl (lv_at hl 4 rfl) ?_
      refine rf_callR (As := []) (W0 := [((s.heap.size + 135), .inr (cRm, [.int 1, .ref (s.heap.size + 135 + 1)]))] ++ [((s.heap.size + 181), .inl (cL, 1, .inr (.inl (fun _ => 0))))]) (V := [((s.heap.size + 135), .inr (cRm, [.int 1, .ref (s.heap.size + 135 + 1)]))]) (q0 := 0) (ci := cRm) (r := (RX6, TX6, 2)) ⟨hx, hb, hml, hown, hts2⟩ (rX6_thrown l D d.1 cB H2.size (s.heap.size + 135) (s.heap.size + 135 + 1) 1) (cwV 0 hts2 gL_law_X6_thrown rfl rfl rfl (by decide +kernel) ⟨Nat.le_of_ble_eq_true rfl, Nat.le_of_ble_eq_true rfl⟩) hK2 (hM2.app hO2) hM2 hS rfl rfl rfl rfl hl.1 (Nat.le_of_ble_eq_true rfl) dL_law_454 ⟨Nat.le_of_ble_eq_true rfl, Nat.le_of_ble_eq_true rfl⟩ rfl (fun r_ H3 locs hp hP3 hS => ?_)
      subst hp
      refine lv_iload hx hb dL_law_457 (lv_at hl 1 rfl) ?_
      refine lv_icmp_eq (tgt := 464) hx hb dL_law_459 (by decide) (fun c_459 => ?_) (fun c_459 => ?_)
      · refine lv_iload hx hb dL_law_464 (lv_at hl 1 rfl) ?_
        refine lv_if_ne (tgt := 481) hx hb dL_law_466 (by decide) (fun c_466 => ?_) (fun c_466 => ?_)
        · refine lv_goto (tgt := 2108) hx hb dL_law_481 (by decide) ?_
          exact lw_tail G hS (Nat.le_of_ble_eq_true rfl) (Nat.le_of_ble_eq_true rfl) (lv_sub hl [2, 6] rfl)
        · exact absurd c_466 (by decide)
      · exact absurd (by decide) c_459
set_option maxHeartbeats 4000000 in
set_option maxRecDepth 100000 in
/-- the law: lw_c4 -/
theorem lw_c4 {p : Program} {l : Launch} {e : Env} {s : State} {m : MethodId} {below : List Frame} {meth : Method} {c : Code} {b : Nat} {D : va_G} {d : hs_Dm} {cB cL : ClassId} {xs : Nat → Int32} (G : lw_G p l s m meth c b D d cB cL xs)  {H : Heap} {locs : List Loc} (hg : rg D (lw_X d cB cL s.heap.size) s.heap.size 182 H) (hz0 : H.size = s.heap.size + 182) (hS : va_S (rg_A s.heap.size) s.heap H locs) {ls : Array Slot} (hl : lv_has ls 9 [(4, .int 0), (3, .ref (s.heap.size + 181)), (2, .ref (s.heap.size + 135)), (1, .ref s.heap.size), (0, .ref b)]) : W p l e room_1 s m #[Value.ref b] below meth c H locs 182 1149 (lw_Z below #[Value.ref b] s) (F0 m 484 ls []) := by
  obtain ⟨hx, hb, hr, hlocks, hml, hown, hts, hl0, hX, hbl, hK, hK2, hKL, hXE⟩ := id G
  have hts2 : ∀ w ∈ wsL_law, w.before #[Value.ref b] s = true := fun w h => hts w (wsL_law_in w h)
  have hbA : ¬ rg_A s.heap.size b := Nat.not_le.mpr hbl
  refine lv_aload_n hx hb dL_law_484 rfl (lv_at hl 3 rfl) ?_
  refine lv_aload_n hx hb dL_law_485 rfl (lv_at hl 4 rfl) ?_
  refine lv_iload hx hb dL_law_486 (lv_at hl 0 rfl) ?_
  refine lv_iconst (v := 1) hx hb dL_law_488 (by decide) ?_
  refine lv_iadd hx hb dL_law_489 ?_
  refine va_sld (i := 0 + 1) hx hb hX hbl hbA hS (by unfold vp_in; decide) dL_law_490 ?_
  rw [show ((0 : Int32) + 1).toNatClampNeg = 1 from by decide]
  refine lv_aload_n hx hb dL_law_491 rfl (lv_at hl 4 rfl) ?_
  refine lv_iload hx hb dL_law_492 (lv_at hl 0 rfl) ?_
  refine lv_iconst (v := 2) hx hb dL_law_494 (by decide) ?_
  refine lv_iadd hx hb dL_law_495 ?_
  refine va_sld (i := 0 + 2) hx hb hX hbl hbA hS (by unfold vp_in; decide) dL_law_496 ?_
  rw [show ((0 : Int32) + 2).toNatClampNeg = 2 from by decide]
  refine lv_aload_n hx hb dL_law_497 rfl (lv_at hl 4 rfl) ?_
  refine lv_iload hx hb dL_law_498 (lv_at hl 0 rfl) ?_
  refine lv_iconst (v := 3) hx hb dL_law_500 (by decide) ?_
  refine lv_iadd hx hb dL_law_501 ?_
  refine va_sld (i := 0 + 3) hx hb hX hbl hbA hS (by unfold vp_in; decide) dL_law_502 ?_
  rw [show ((0 : Int32) + 3).toNatClampNeg = 3 from by decide]
  refine lv_aload_n hx hb dL_law_503 rfl (lv_at hl 4 rfl) ?_
  refine lv_iload hx hb dL_law_504 (lv_at hl 0 rfl) ?_
  refine lv_iconst (v := 4) hx hb dL_law_506 (by decide) ?_
  refine lv_iadd hx hb dL_law_507 ?_
  refine va_sld (i := 0 + 4) hx hb hX hbl hbA hS (by unfold vp_in; decide) dL_law_508 ?_
  rw [show ((0 : Int32) + 4).toNatClampNeg = 4 from by decide]
  refine lv_aload_n hx hb dL_law_509 rfl (lv_at hl 1 rfl) ?_
  refine lw_help (As := [.ref s.heap.size, .int (xs 1), .int (xs 2), .int (xs 3), .int (xs 4), .ref (s.heap.size + 181)]) ⟨hx, hb, hml, hown, hts2⟩ (hT_measure l D d s.heap.size (rc_L (s.heap.size + 1)) (rc_L (s.heap.size + 68)) (lw_A1 s.heap.size) (lw_A2 s.heap.size) (lw_B s.heap.size) (s.heap.size + 181) cL (fun _ => 0) lw_wB (fun _ h => lw_AB h) (Or.inr rfl) lw_oA hl0 (xs 1) (xs 2) (xs 3) (xs 4)) (vx_cwSW 6 hts2 gL_law_L_measure rfl rfl rfl (by decide +kernel) ⟨Nat.le_of_ble_eq_true rfl, Nat.le_of_ble_eq_true rfl⟩) (lw_house hg) (lw_trial hg) hK hXE lw_BB (lw_wax hg) (lw_out hg) hKL hS rfl hl.1 (Nat.le_of_ble_eq_true rfl) dL_law_510 ⟨Nat.le_of_ble_eq_true rfl, Nat.le_of_ble_eq_true rfl⟩ rfl (fun H1 locs hO hq hz hS => ?_)
  have hsz : s.heap.size + 182 ≤ H1.size := by rw [← hz0]; exact hz
  have hP := lw_keep (lw_w_m2 hg) (lw_d_m2 (d := d) (cB := cB)) hq
  refine lv_istore (lv' := [(5, .int 1), (4, .int 0), (3, .ref (s.heap.size + 181)), (2, .ref (s.heap.size + 135)), (1, .ref s.heap.size), (0, .ref b)]) hx hb dL_law_513 hl (by decide) rfl (fun ls hl => ?_)
  refine lv_aload_n hx hb dL_law_515 rfl (lv_at hl 3 rfl) ?_
  refine lv_aload_n hx hb dL_law_516 rfl (lv_at hl 5 rfl) ?_
  refine lv_iload hx hb dL_law_517 (lv_at hl 1 rfl) ?_
  refine lv_iconst (v := 1) hx hb dL_law_519 (by decide) ?_
  refine lv_iadd hx hb dL_law_520 ?_
  refine va_sld (i := 0 + 1) hx hb hX hbl hbA hS (by unfold vp_in; decide) dL_law_521 ?_
  rw [show ((0 : Int32) + 1).toNatClampNeg = 1 from by decide]
  refine lv_aload_n hx hb dL_law_522 rfl (lv_at hl 5 rfl) ?_
  refine lv_iload hx hb dL_law_523 (lv_at hl 1 rfl) ?_
  refine lv_iconst (v := 2) hx hb dL_law_525 (by decide) ?_
  refine lv_iadd hx hb dL_law_526 ?_
  refine va_sld (i := 0 + 2) hx hb hX hbl hbA hS (by unfold vp_in; decide) dL_law_527 ?_
  rw [show ((0 : Int32) + 2).toNatClampNeg = 2 from by decide]
  refine lv_aload_n hx hb dL_law_528 rfl (lv_at hl 5 rfl) ?_
  refine lv_iload hx hb dL_law_529 (lv_at hl 1 rfl) ?_
  refine lv_iconst (v := 3) hx hb dL_law_531 (by decide) ?_
  refine lv_iadd hx hb dL_law_532 ?_
  refine va_sld (i := 0 + 3) hx hb hX hbl hbA hS (by unfold vp_in; decide) dL_law_533 ?_
  rw [show ((0 : Int32) + 3).toNatClampNeg = 3 from by decide]
  refine lv_aload_n hx hb dL_law_534 rfl (lv_at hl 5 rfl) ?_
  refine lv_iload hx hb dL_law_535 (lv_at hl 1 rfl) ?_
  refine lv_iconst (v := 4) hx hb dL_law_537 (by decide) ?_
  refine lv_iadd hx hb dL_law_538 ?_
  refine va_sld (i := 0 + 4) hx hb hX hbl hbA hS (by unfold vp_in; decide) dL_law_539 ?_
  rw [show ((0 : Int32) + 4).toNatClampNeg = 4 from by decide]
  refine lw_ref (As := [.int (xs 1), .int (xs 2), .int (xs 3), .int (xs 4)]) (V := [((s.heap.size + 135), .inr (cRm, [.int 0, .ref (s.heap.size + 135 + 1)])), ((s.heap.size + 135 + 1), .inr (cRh, [.ref (s.heap.size + 135 + 1 + 1), .ref (s.heap.size + 135 + 1 + 12), .ref (s.heap.size + 135 + 1 + 23), .ref (s.heap.size + 135 + 1 + 34), .ref (s.heap.size + 135 + 1 + 43), .ref (s.heap.size + 135 + 1 + 44), .int 0, .int 0, .int 0, .int 0, .int 0, .int 5, .int 200, .int 30]))]) (V2 := [((s.heap.size + 135), .inr (cRm, [.int 1, .ref (s.heap.size + 135 + 1)]))]) (B := lw_M s.heap.size H1.size) (q0 := 0) (ci := cRm) (r := (RX6, TX6, 2)) ⟨hx, hb, hml, hown, hts2⟩ (rX6_measure l D d.1 cB H1.size (s.heap.size + 135) (s.heap.size + 135 + 1) (s.heap.size + 135 + 1 + 1) (s.heap.size + 135 + 1 + 12) (s.heap.size + 135 + 1 + 23) (s.heap.size + 135 + 1 + 34) (s.heap.size + 135 + 1 + 43) (s.heap.size + 135 + 1 + 44) 0 (xs 1) (xs 2) (xs 3) (xs 4) (lw_M s.heap.size H1.size) (lw_lM (lw_d_m2 (d := d) (cB := cB)))) (cwV 4 hts2 gL_law_X6_measure rfl rfl rfl (by decide +kernel) ⟨Nat.le_of_ble_eq_true rfl, Nat.le_of_ble_eq_true rfl⟩) hK2 hP (lw_MB hsz) hS rfl rfl rfl rfl hl.1 (Nat.le_of_ble_eq_true rfl) dL_law_540 ⟨Nat.le_of_ble_eq_true rfl, Nat.le_of_ble_eq_true rfl⟩ rfl (fun r_ H2 locs hp hM2 hq2 hz2 hS => ?_)
  subst hp
  have hO2 := rf_keep1 hO (fun _ => hq2 (s.heap.size + 181) (by omega) (lw_noM hsz))
  refine lv_istore (lv' := [(6, .int 0), (5, .int 1), (4, .int 0), (3, .ref (s.heap.size + 181)), (2, .ref (s.heap.size + 135)), (1, .ref s.heap.size), (0, .ref b)]) hx hb dL_law_543 hl (by decide) rfl (fun ls hl => ?_)
  refine lv_aload_n hx hb dL_law_545 rfl (lv_at hl 4 rfl) ?_
  refine rf_callR (As := []) (W0 := [((s.heap.size + 135), .inr (cRm, [.int 1, .ref (s.heap.size + 135 + 1)]))] ++ [((s.heap.size + 181), .inl (cL, 1, .inr (.inl (fun _ => 0))))]) (V := [((s.heap.size + 135), .inr (cRm, [.int 1, .ref (s.heap.size + 135 + 1)]))]) (q0 := 0) (ci := cRm) (r := (RX6, TX6, 2)) ⟨hx, hb, hml, hown, hts2⟩ (rX6_thrown l D d.1 cB H2.size (s.heap.size + 135) (s.heap.size + 135 + 1) 1) (cwV 0 hts2 gL_law_X6_thrown rfl rfl rfl (by decide +kernel) ⟨Nat.le_of_ble_eq_true rfl, Nat.le_of_ble_eq_true rfl⟩) hK2 (hM2.app hO2) hM2 hS rfl rfl rfl rfl hl.1 (Nat.le_of_ble_eq_true rfl) dL_law_546 ⟨Nat.le_of_ble_eq_true rfl, Nat.le_of_ble_eq_true rfl⟩ rfl (fun r_ H3 locs hp hP3 hS => ?_)
  subst hp
  refine lv_iload hx hb dL_law_549 (lv_at hl 1 rfl) ?_
  refine lv_icmp_eq (tgt := 556) hx hb dL_law_551 (by decide) (fun c_551 => ?_) (fun c_551 => ?_)
  · refine lv_iload hx hb dL_law_556 (lv_at hl 1 rfl) ?_
    refine lv_if_ne (tgt := 573) hx hb dL_law_558 (by decide) (fun c_558 => ?_) (fun c_558 => ?_)
    · refine lv_goto (tgt := 2108) hx hb dL_law_573 (by decide) ?_
      exact lw_tail G hS (Nat.le_of_ble_eq_true rfl) (Nat.le_of_ble_eq_true rfl) (lv_sub hl [2, 6] rfl)
    · exact absurd c_558 (by decide)
  · exact absurd (by decide) c_551
set_option maxHeartbeats 4000000 in
set_option maxRecDepth 100000 in
/-- the law: lw_c5 -/
theorem lw_c5 {p : Program} {l : Launch} {e : Env} {s : State} {m : MethodId} {below : List Frame} {meth : Method} {c : Code} {b : Nat} {D : va_G} {d : hs_Dm} {cB cL : ClassId} {xs : Nat → Int32} (G : lw_G p l s m meth c b D d cB cL xs)  {H : Heap} {locs : List Loc} (hg : rg D (lw_X d cB cL s.heap.size) s.heap.size 182 H) (hz0 : H.size = s.heap.size + 182) (hS : va_S (rg_A s.heap.size) s.heap H locs) {ls : Array Slot} (hl : lv_has ls 9 [(4, .int 0), (3, .ref (s.heap.size + 181)), (2, .ref (s.heap.size + 135)), (1, .ref s.heap.size), (0, .ref b)]) : W p l e room_1 s m #[Value.ref b] below meth c H locs 182 1149 (lw_Z below #[Value.ref b] s) (F0 m 576 ls []) := by
  obtain ⟨hx, hb, hr, hlocks, hml, hown, hts, hl0, hX, hbl, hK, hK2, hKL, hXE⟩ := id G
  have hts2 : ∀ w ∈ wsL_law, w.before #[Value.ref b] s = true := fun w h => hts w (wsL_law_in w h)
  have hbA : ¬ rg_A s.heap.size b := Nat.not_le.mpr hbl
  refine lv_aload_n hx hb dL_law_576 rfl (lv_at hl 3 rfl) ?_
  refine lv_aload_n hx hb dL_law_577 rfl (lv_at hl 4 rfl) ?_
  refine lv_iload hx hb dL_law_578 (lv_at hl 0 rfl) ?_
  refine lv_iconst (v := 1) hx hb dL_law_580 (by decide) ?_
  refine lv_iadd hx hb dL_law_581 ?_
  refine va_sld (i := 0 + 1) hx hb hX hbl hbA hS (by unfold vp_in; decide) dL_law_582 ?_
  rw [show ((0 : Int32) + 1).toNatClampNeg = 1 from by decide]
  refine lv_aload_n hx hb dL_law_583 rfl (lv_at hl 1 rfl) ?_
  refine lw_help (As := [.ref s.heap.size, .int (xs 1), .ref (s.heap.size + 181)]) ⟨hx, hb, hml, hown, hts2⟩ (hT_pay l D d s.heap.size (rc_L (s.heap.size + 1)) (rc_L (s.heap.size + 68)) (lw_A1 s.heap.size) (lw_A2 s.heap.size) (lw_B s.heap.size) (s.heap.size + 181) cL (fun _ => 0) lw_wB (fun _ h => lw_AB h) (Or.inr rfl) lw_oA hl0 (xs 1)) (vx_cwSW 3 hts2 gL_law_L_pay rfl rfl rfl (by decide +kernel) ⟨Nat.le_of_ble_eq_true rfl, Nat.le_of_ble_eq_true rfl⟩) (lw_house hg) (lw_trial hg) hK hXE lw_BB (lw_wax hg) (lw_out hg) hKL hS rfl hl.1 (Nat.le_of_ble_eq_true rfl) dL_law_584 ⟨Nat.le_of_ble_eq_true rfl, Nat.le_of_ble_eq_true rfl⟩ rfl (fun H1 locs hO hq hz hS => ?_)
  have hsz : s.heap.size + 182 ≤ H1.size := by rw [← hz0]; exact hz
  have hP := lw_keep (lw_w_m2 hg) (lw_d_m2 (d := d) (cB := cB)) hq
  refine lv_istore (lv' := [(5, .int 1), (4, .int 0), (3, .ref (s.heap.size + 181)), (2, .ref (s.heap.size + 135)), (1, .ref s.heap.size), (0, .ref b)]) hx hb dL_law_587 hl (by decide) rfl (fun ls hl => ?_)
  refine lv_aload_n hx hb dL_law_589 rfl (lv_at hl 3 rfl) ?_
  refine lv_aload_n hx hb dL_law_590 rfl (lv_at hl 5 rfl) ?_
  refine lv_iload hx hb dL_law_591 (lv_at hl 1 rfl) ?_
  refine lv_iconst (v := 1) hx hb dL_law_593 (by decide) ?_
  refine lv_iadd hx hb dL_law_594 ?_
  refine va_sld (i := 0 + 1) hx hb hX hbl hbA hS (by unfold vp_in; decide) dL_law_595 ?_
  rw [show ((0 : Int32) + 1).toNatClampNeg = 1 from by decide]
  refine lw_ref (As := [.int (xs 1)]) (V := [((s.heap.size + 135), .inr (cRm, [.int 0, .ref (s.heap.size + 135 + 1)])), ((s.heap.size + 135 + 1), .inr (cRh, [.ref (s.heap.size + 135 + 1 + 1), .ref (s.heap.size + 135 + 1 + 12), .ref (s.heap.size + 135 + 1 + 23), .ref (s.heap.size + 135 + 1 + 34), .ref (s.heap.size + 135 + 1 + 43), .ref (s.heap.size + 135 + 1 + 44), .int 0, .int 0, .int 0, .int 0, .int 0, .int 5, .int 200, .int 30]))]) (V2 := [((s.heap.size + 135), .inr (cRm, [.int 1, .ref (s.heap.size + 135 + 1)]))]) (B := lw_M s.heap.size H1.size) (q0 := 0) (ci := cRm) (r := (RX6, TX6, 2)) ⟨hx, hb, hml, hown, hts2⟩ (rX6_pay l D d.1 cB H1.size (s.heap.size + 135) (s.heap.size + 135 + 1) (s.heap.size + 135 + 1 + 1) (s.heap.size + 135 + 1 + 12) (s.heap.size + 135 + 1 + 23) (s.heap.size + 135 + 1 + 34) (s.heap.size + 135 + 1 + 43) (s.heap.size + 135 + 1 + 44) 0 (xs 1) (lw_M s.heap.size H1.size) (lw_lM (lw_d_m2 (d := d) (cB := cB)))) (cwV 1 hts2 gL_law_X6_pay rfl rfl rfl (by decide +kernel) ⟨Nat.le_of_ble_eq_true rfl, Nat.le_of_ble_eq_true rfl⟩) hK2 hP (lw_MB hsz) hS rfl rfl rfl rfl hl.1 (Nat.le_of_ble_eq_true rfl) dL_law_596 ⟨Nat.le_of_ble_eq_true rfl, Nat.le_of_ble_eq_true rfl⟩ rfl (fun r_ H2 locs hp hM2 hq2 hz2 hS => ?_)
  subst hp
  have hO2 := rf_keep1 hO (fun _ => hq2 (s.heap.size + 181) (by omega) (lw_noM hsz))
  refine lv_istore (lv' := [(6, .int 0), (5, .int 1), (4, .int 0), (3, .ref (s.heap.size + 181)), (2, .ref (s.heap.size + 135)), (1, .ref s.heap.size), (0, .ref b)]) hx hb dL_law_599 hl (by decide) rfl (fun ls hl => ?_)
  refine lv_aload_n hx hb dL_law_601 rfl (lv_at hl 4 rfl) ?_
  refine rf_callR (As := []) (W0 := [((s.heap.size + 135), .inr (cRm, [.int 1, .ref (s.heap.size + 135 + 1)]))] ++ [((s.heap.size + 181), .inl (cL, 1, .inr (.inl (fun _ => 0))))]) (V := [((s.heap.size + 135), .inr (cRm, [.int 1, .ref (s.heap.size + 135 + 1)]))]) (q0 := 0) (ci := cRm) (r := (RX6, TX6, 2)) ⟨hx, hb, hml, hown, hts2⟩ (rX6_thrown l D d.1 cB H2.size (s.heap.size + 135) (s.heap.size + 135 + 1) 1) (cwV 0 hts2 gL_law_X6_thrown rfl rfl rfl (by decide +kernel) ⟨Nat.le_of_ble_eq_true rfl, Nat.le_of_ble_eq_true rfl⟩) hK2 (hM2.app hO2) hM2 hS rfl rfl rfl rfl hl.1 (Nat.le_of_ble_eq_true rfl) dL_law_602 ⟨Nat.le_of_ble_eq_true rfl, Nat.le_of_ble_eq_true rfl⟩ rfl (fun r_ H3 locs hp hP3 hS => ?_)
  subst hp
  refine lv_iload hx hb dL_law_605 (lv_at hl 1 rfl) ?_
  refine lv_icmp_eq (tgt := 612) hx hb dL_law_607 (by decide) (fun c_607 => ?_) (fun c_607 => ?_)
  · refine lv_iload hx hb dL_law_612 (lv_at hl 1 rfl) ?_
    refine lv_if_ne (tgt := 629) hx hb dL_law_614 (by decide) (fun c_614 => ?_) (fun c_614 => ?_)
    · refine lv_goto (tgt := 2108) hx hb dL_law_629 (by decide) ?_
      exact lw_tail G hS (Nat.le_of_ble_eq_true rfl) (Nat.le_of_ble_eq_true rfl) (lv_sub hl [2, 6] rfl)
    · exact absurd c_614 (by decide)
  · exact absurd (by decide) c_607
set_option maxHeartbeats 4000000 in
set_option maxRecDepth 100000 in
/-- the law: lw_c6 -/
theorem lw_c6 {p : Program} {l : Launch} {e : Env} {s : State} {m : MethodId} {below : List Frame} {meth : Method} {c : Code} {b : Nat} {D : va_G} {d : hs_Dm} {cB cL : ClassId} {xs : Nat → Int32} (G : lw_G p l s m meth c b D d cB cL xs)  {H : Heap} {locs : List Loc} (hg : rg D (lw_X d cB cL s.heap.size) s.heap.size 182 H) (hz0 : H.size = s.heap.size + 182) (hS : va_S (rg_A s.heap.size) s.heap H locs) {ls : Array Slot} (hl : lv_has ls 9 [(4, .int 0), (3, .ref (s.heap.size + 181)), (2, .ref (s.heap.size + 135)), (1, .ref s.heap.size), (0, .ref b)]) : W p l e room_1 s m #[Value.ref b] below meth c H locs 182 1149 (lw_Z below #[Value.ref b] s) (F0 m 632 ls []) := by
  obtain ⟨hx, hb, hr, hlocks, hml, hown, hts, hl0, hX, hbl, hK, hK2, hKL, hXE⟩ := id G
  have hts2 : ∀ w ∈ wsL_law, w.before #[Value.ref b] s = true := fun w h => hts w (wsL_law_in w h)
  have hbA : ¬ rg_A s.heap.size b := Nat.not_le.mpr hbl
  refine lv_aload_n hx hb dL_law_632 rfl (lv_at hl 3 rfl) ?_
  refine lv_aload_n hx hb dL_law_633 rfl (lv_at hl 4 rfl) ?_
  refine lv_iload hx hb dL_law_634 (lv_at hl 0 rfl) ?_
  refine lv_iconst (v := 1) hx hb dL_law_636 (by decide) ?_
  refine lv_iadd hx hb dL_law_637 ?_
  refine va_sld (i := 0 + 1) hx hb hX hbl hbA hS (by unfold vp_in; decide) dL_law_638 ?_
  rw [show ((0 : Int32) + 1).toNatClampNeg = 1 from by decide]
  refine lv_aload_n hx hb dL_law_639 rfl (lv_at hl 1 rfl) ?_
  refine lw_help (As := [.ref s.heap.size, .int (xs 1), .ref (s.heap.size + 181)]) ⟨hx, hb, hml, hown, hts2⟩ (hT_figure l D d s.heap.size (rc_L (s.heap.size + 1)) (rc_L (s.heap.size + 68)) (lw_A1 s.heap.size) (lw_A2 s.heap.size) (lw_B s.heap.size) (s.heap.size + 181) cL (fun _ => 0) lw_wB (fun _ h => lw_AB h) (Or.inr rfl) lw_oA hl0 (xs 1)) (vx_cwSW 3 hts2 gL_law_L_figure rfl rfl rfl (by decide +kernel) ⟨Nat.le_of_ble_eq_true rfl, Nat.le_of_ble_eq_true rfl⟩) (lw_house hg) (lw_trial hg) hK hXE lw_BB (lw_wax hg) (lw_out hg) hKL hS rfl hl.1 (Nat.le_of_ble_eq_true rfl) dL_law_640 ⟨Nat.le_of_ble_eq_true rfl, Nat.le_of_ble_eq_true rfl⟩ rfl (fun H1 locs hO hq hz hS => ?_)
  have hsz : s.heap.size + 182 ≤ H1.size := by rw [← hz0]; exact hz
  have hP := lw_keep (lw_w_m2 hg) (lw_d_m2 (d := d) (cB := cB)) hq
  refine lv_istore (lv' := [(5, .int 1), (4, .int 0), (3, .ref (s.heap.size + 181)), (2, .ref (s.heap.size + 135)), (1, .ref s.heap.size), (0, .ref b)]) hx hb dL_law_643 hl (by decide) rfl (fun ls hl => ?_)
  refine lv_aload_n hx hb dL_law_645 rfl (lv_at hl 3 rfl) ?_
  refine lv_aload_n hx hb dL_law_646 rfl (lv_at hl 5 rfl) ?_
  refine lv_iload hx hb dL_law_647 (lv_at hl 1 rfl) ?_
  refine lv_iconst (v := 1) hx hb dL_law_649 (by decide) ?_
  refine lv_iadd hx hb dL_law_650 ?_
  refine va_sld (i := 0 + 1) hx hb hX hbl hbA hS (by unfold vp_in; decide) dL_law_651 ?_
  rw [show ((0 : Int32) + 1).toNatClampNeg = 1 from by decide]
  refine lw_ref (As := [.int (xs 1)]) (V := [((s.heap.size + 135), .inr (cRm, [.int 0, .ref (s.heap.size + 135 + 1)])), ((s.heap.size + 135 + 1), .inr (cRh, [.ref (s.heap.size + 135 + 1 + 1), .ref (s.heap.size + 135 + 1 + 12), .ref (s.heap.size + 135 + 1 + 23), .ref (s.heap.size + 135 + 1 + 34), .ref (s.heap.size + 135 + 1 + 43), .ref (s.heap.size + 135 + 1 + 44), .int 0, .int 0, .int 0, .int 0, .int 0, .int 5, .int 200, .int 30]))]) (V2 := [((s.heap.size + 135), .inr (cRm, [.int 1, .ref (s.heap.size + 135 + 1)]))]) (B := lw_M s.heap.size H1.size) (q0 := 0) (ci := cRm) (r := (RX6, TX6, 2)) ⟨hx, hb, hml, hown, hts2⟩ (rX6_figure l D d.1 cB H1.size (s.heap.size + 135) (s.heap.size + 135 + 1) (s.heap.size + 135 + 1 + 1) (s.heap.size + 135 + 1 + 12) (s.heap.size + 135 + 1 + 23) (s.heap.size + 135 + 1 + 34) (s.heap.size + 135 + 1 + 43) (s.heap.size + 135 + 1 + 44) 0 (xs 1) (lw_M s.heap.size H1.size) (lw_lM (lw_d_m2 (d := d) (cB := cB)))) (cwV 1 hts2 gL_law_X6_figure rfl rfl rfl (by decide +kernel) ⟨Nat.le_of_ble_eq_true rfl, Nat.le_of_ble_eq_true rfl⟩) hK2 hP (lw_MB hsz) hS rfl rfl rfl rfl hl.1 (Nat.le_of_ble_eq_true rfl) dL_law_652 ⟨Nat.le_of_ble_eq_true rfl, Nat.le_of_ble_eq_true rfl⟩ rfl (fun r_ H2 locs hp hM2 hq2 hz2 hS => ?_)
  subst hp
  have hO2 := rf_keep1 hO (fun _ => hq2 (s.heap.size + 181) (by omega) (lw_noM hsz))
  refine lv_istore (lv' := [(6, .int 0), (5, .int 1), (4, .int 0), (3, .ref (s.heap.size + 181)), (2, .ref (s.heap.size + 135)), (1, .ref s.heap.size), (0, .ref b)]) hx hb dL_law_655 hl (by decide) rfl (fun ls hl => ?_)
  refine lv_aload_n hx hb dL_law_657 rfl (lv_at hl 4 rfl) ?_
  refine rf_callR (As := []) (W0 := [((s.heap.size + 135), .inr (cRm, [.int 1, .ref (s.heap.size + 135 + 1)]))] ++ [((s.heap.size + 181), .inl (cL, 1, .inr (.inl (fun _ => 0))))]) (V := [((s.heap.size + 135), .inr (cRm, [.int 1, .ref (s.heap.size + 135 + 1)]))]) (q0 := 0) (ci := cRm) (r := (RX6, TX6, 2)) ⟨hx, hb, hml, hown, hts2⟩ (rX6_thrown l D d.1 cB H2.size (s.heap.size + 135) (s.heap.size + 135 + 1) 1) (cwV 0 hts2 gL_law_X6_thrown rfl rfl rfl (by decide +kernel) ⟨Nat.le_of_ble_eq_true rfl, Nat.le_of_ble_eq_true rfl⟩) hK2 (hM2.app hO2) hM2 hS rfl rfl rfl rfl hl.1 (Nat.le_of_ble_eq_true rfl) dL_law_658 ⟨Nat.le_of_ble_eq_true rfl, Nat.le_of_ble_eq_true rfl⟩ rfl (fun r_ H3 locs hp hP3 hS => ?_)
  subst hp
  refine lv_iload hx hb dL_law_661 (lv_at hl 1 rfl) ?_
  refine lv_icmp_eq (tgt := 668) hx hb dL_law_663 (by decide) (fun c_663 => ?_) (fun c_663 => ?_)
  · refine lv_iload hx hb dL_law_668 (lv_at hl 1 rfl) ?_
    refine lv_if_ne (tgt := 685) hx hb dL_law_670 (by decide) (fun c_670 => ?_) (fun c_670 => ?_)
    · refine lv_goto (tgt := 2108) hx hb dL_law_685 (by decide) ?_
      exact lw_tail G hS (Nat.le_of_ble_eq_true rfl) (Nat.le_of_ble_eq_true rfl) (lv_sub hl [2, 6] rfl)
    · exact absurd c_670 (by decide)
  · exact absurd (by decide) c_663
set_option maxHeartbeats 4000000 in
set_option maxRecDepth 100000 in
/-- the law: lw_c19 -/
theorem lw_c19 {p : Program} {l : Launch} {e : Env} {s : State} {m : MethodId} {below : List Frame} {meth : Method} {c : Code} {b : Nat} {D : va_G} {d : hs_Dm} {cB cL : ClassId} {xs : Nat → Int32} (G : lw_G p l s m meth c b D d cB cL xs)  {H : Heap} {locs : List Loc} (hg : rg D (lw_X d cB cL s.heap.size) s.heap.size 182 H) (hz0 : H.size = s.heap.size + 182) (hS : va_S (rg_A s.heap.size) s.heap H locs) {ls : Array Slot} (hl : lv_has ls 9 [(4, .int 0), (3, .ref (s.heap.size + 181)), (2, .ref (s.heap.size + 135)), (1, .ref s.heap.size), (0, .ref b)]) : W p l e room_1 s m #[Value.ref b] below meth c H locs 182 1149 (lw_Z below #[Value.ref b] s) (F0 m 1468 ls []) := by
  obtain ⟨hx, hb, hr, hlocks, hml, hown, hts, hl0, hX, hbl, hK, hK2, hKL, hXE⟩ := id G
  have hts2 : ∀ w ∈ wsL_law, w.before #[Value.ref b] s = true := fun w h => hts w (wsL_law_in w h)
  have hbA : ¬ rg_A s.heap.size b := Nat.not_le.mpr hbl
  refine lv_aload_n hx hb dL_law_1468 rfl (lv_at hl 3 rfl) ?_
  refine lv_aload_n hx hb dL_law_1469 rfl (lv_at hl 4 rfl) ?_
  refine lv_iload hx hb dL_law_1470 (lv_at hl 0 rfl) ?_
  refine lv_iconst (v := 1) hx hb dL_law_1472 (by decide) ?_
  refine lv_iadd hx hb dL_law_1473 ?_
  refine va_sld (i := 0 + 1) hx hb hX hbl hbA hS (by unfold vp_in; decide) dL_law_1474 ?_
  rw [show ((0 : Int32) + 1).toNatClampNeg = 1 from by decide]
  refine lv_aload_n hx hb dL_law_1475 rfl (lv_at hl 4 rfl) ?_
  refine lv_iload hx hb dL_law_1476 (lv_at hl 0 rfl) ?_
  refine lv_iconst (v := 2) hx hb dL_law_1478 (by decide) ?_
  refine lv_iadd hx hb dL_law_1479 ?_
  refine va_sld (i := 0 + 2) hx hb hX hbl hbA hS (by unfold vp_in; decide) dL_law_1480 ?_
  rw [show ((0 : Int32) + 2).toNatClampNeg = 2 from by decide]
  refine lv_aload_n hx hb dL_law_1481 rfl (lv_at hl 1 rfl) ?_
  refine lw_help (As := [.ref s.heap.size, .int (xs 1), .int (xs 2), .ref (s.heap.size + 181)]) ⟨hx, hb, hml, hown, hts2⟩ (hT_ofPerson l D d s.heap.size (rc_L (s.heap.size + 1)) (rc_L (s.heap.size + 68)) (lw_A1 s.heap.size) (lw_A2 s.heap.size) (lw_B s.heap.size) (s.heap.size + 181) cL (fun _ => 0) lw_wB (fun _ h => lw_AB h) (Or.inr rfl) lw_oA hl0 (xs 1) (xs 2)) (vx_cwSW 4 hts2 gL_law_L_ofPerson rfl rfl rfl (by decide +kernel) ⟨Nat.le_of_ble_eq_true rfl, Nat.le_of_ble_eq_true rfl⟩) (lw_house hg) (lw_trial hg) hK hXE lw_BB (lw_wax hg) (lw_out hg) hKL hS rfl hl.1 (Nat.le_of_ble_eq_true rfl) dL_law_1482 ⟨Nat.le_of_ble_eq_true rfl, Nat.le_of_ble_eq_true rfl⟩ rfl (fun H1 locs hO hq hz hS => ?_)
  have hsz : s.heap.size + 182 ≤ H1.size := by rw [← hz0]; exact hz
  have hP := lw_keep (lw_w_m2 hg) (lw_d_m2 (d := d) (cB := cB)) hq
  refine lv_istore (lv' := [(5, .int 1), (4, .int 0), (3, .ref (s.heap.size + 181)), (2, .ref (s.heap.size + 135)), (1, .ref s.heap.size), (0, .ref b)]) hx hb dL_law_1485 hl (by decide) rfl (fun ls hl => ?_)
  refine lv_aload_n hx hb dL_law_1487 rfl (lv_at hl 3 rfl) ?_
  refine lv_aload_n hx hb dL_law_1488 rfl (lv_at hl 5 rfl) ?_
  refine lv_iload hx hb dL_law_1489 (lv_at hl 1 rfl) ?_
  refine lv_iconst (v := 1) hx hb dL_law_1491 (by decide) ?_
  refine lv_iadd hx hb dL_law_1492 ?_
  refine va_sld (i := 0 + 1) hx hb hX hbl hbA hS (by unfold vp_in; decide) dL_law_1493 ?_
  rw [show ((0 : Int32) + 1).toNatClampNeg = 1 from by decide]
  refine lv_aload_n hx hb dL_law_1494 rfl (lv_at hl 5 rfl) ?_
  refine lv_iload hx hb dL_law_1495 (lv_at hl 1 rfl) ?_
  refine lv_iconst (v := 2) hx hb dL_law_1497 (by decide) ?_
  refine lv_iadd hx hb dL_law_1498 ?_
  refine va_sld (i := 0 + 2) hx hb hX hbl hbA hS (by unfold vp_in; decide) dL_law_1499 ?_
  rw [show ((0 : Int32) + 2).toNatClampNeg = 2 from by decide]
  refine lw_ref (As := [.int (xs 1), .int (xs 2)]) (V := [((s.heap.size + 135), .inr (cRm, [.int 0, .ref (s.heap.size + 135 + 1)])), ((s.heap.size + 135 + 1), .inr (cRh, [.ref (s.heap.size + 135 + 1 + 1), .ref (s.heap.size + 135 + 1 + 12), .ref (s.heap.size + 135 + 1 + 23), .ref (s.heap.size + 135 + 1 + 34), .ref (s.heap.size + 135 + 1 + 43), .ref (s.heap.size + 135 + 1 + 44), .int 0, .int 0, .int 0, .int 0, .int 0, .int 5, .int 200, .int 30]))]) (V2 := [((s.heap.size + 135), .inr (cRm, [.int 1, .ref (s.heap.size + 135 + 1)]))]) (B := lw_M s.heap.size H1.size) (q0 := 0) (ci := cRm) (r := (RX6, TX6, 2)) ⟨hx, hb, hml, hown, hts2⟩ (rX6_ofPerson l D d.1 cB H1.size (s.heap.size + 135) (s.heap.size + 135 + 1) (s.heap.size + 135 + 1 + 1) (s.heap.size + 135 + 1 + 12) (s.heap.size + 135 + 1 + 23) (s.heap.size + 135 + 1 + 34) (s.heap.size + 135 + 1 + 43) (s.heap.size + 135 + 1 + 44) 0 (xs 1) (xs 2) (lw_M s.heap.size H1.size) (lw_lM (lw_d_m2 (d := d) (cB := cB)))) (cwV 2 hts2 gL_law_X6_ofPerson rfl rfl rfl (by decide +kernel) ⟨Nat.le_of_ble_eq_true rfl, Nat.le_of_ble_eq_true rfl⟩) hK2 hP (lw_MB hsz) hS rfl rfl rfl rfl hl.1 (Nat.le_of_ble_eq_true rfl) dL_law_1500 ⟨Nat.le_of_ble_eq_true rfl, Nat.le_of_ble_eq_true rfl⟩ rfl (fun r_ H2 locs hp hM2 hq2 hz2 hS => ?_)
  subst hp
  have hO2 := rf_keep1 hO (fun _ => hq2 (s.heap.size + 181) (by omega) (lw_noM hsz))
  refine lv_istore (lv' := [(6, .int 0), (5, .int 1), (4, .int 0), (3, .ref (s.heap.size + 181)), (2, .ref (s.heap.size + 135)), (1, .ref s.heap.size), (0, .ref b)]) hx hb dL_law_1503 hl (by decide) rfl (fun ls hl => ?_)
  refine lv_aload_n hx hb dL_law_1505 rfl (lv_at hl 4 rfl) ?_
  refine rf_callR (As := []) (W0 := [((s.heap.size + 135), .inr (cRm, [.int 1, .ref (s.heap.size + 135 + 1)]))] ++ [((s.heap.size + 181), .inl (cL, 1, .inr (.inl (fun _ => 0))))]) (V := [((s.heap.size + 135), .inr (cRm, [.int 1, .ref (s.heap.size + 135 + 1)]))]) (q0 := 0) (ci := cRm) (r := (RX6, TX6, 2)) ⟨hx, hb, hml, hown, hts2⟩ (rX6_thrown l D d.1 cB H2.size (s.heap.size + 135) (s.heap.size + 135 + 1) 1) (cwV 0 hts2 gL_law_X6_thrown rfl rfl rfl (by decide +kernel) ⟨Nat.le_of_ble_eq_true rfl, Nat.le_of_ble_eq_true rfl⟩) hK2 (hM2.app hO2) hM2 hS rfl rfl rfl rfl hl.1 (Nat.le_of_ble_eq_true rfl) dL_law_1506 ⟨Nat.le_of_ble_eq_true rfl, Nat.le_of_ble_eq_true rfl⟩ rfl (fun r_ H3 locs hp hP3 hS => ?_)
  subst hp
  refine lv_iload hx hb dL_law_1509 (lv_at hl 1 rfl) ?_
  refine lv_icmp_eq (tgt := 1516) hx hb dL_law_1511 (by decide) (fun c_1511 => ?_) (fun c_1511 => ?_)
  · refine lv_iload hx hb dL_law_1516 (lv_at hl 1 rfl) ?_
    refine lv_if_ne (tgt := 1533) hx hb dL_law_1518 (by decide) (fun c_1518 => ?_) (fun c_1518 => ?_)
    · refine lv_goto (tgt := 2108) hx hb dL_law_1533 (by decide) ?_
      exact lw_tail G hS (Nat.le_of_ble_eq_true rfl) (Nat.le_of_ble_eq_true rfl) (lv_sub hl [2, 6] rfl)
    · exact absurd c_1518 (by decide)
  · exact absurd (by decide) c_1511
set_option maxHeartbeats 4000000 in
set_option maxRecDepth 100000 in
/-- the law: lw_c20 -/
theorem lw_c20 {p : Program} {l : Launch} {e : Env} {s : State} {m : MethodId} {below : List Frame} {meth : Method} {c : Code} {b : Nat} {D : va_G} {d : hs_Dm} {cB cL : ClassId} {xs : Nat → Int32} (G : lw_G p l s m meth c b D d cB cL xs)  {H : Heap} {locs : List Loc} (hg : rg D (lw_X d cB cL s.heap.size) s.heap.size 182 H) (hz0 : H.size = s.heap.size + 182) (hS : va_S (rg_A s.heap.size) s.heap H locs) {ls : Array Slot} (hl : lv_has ls 9 [(4, .int 0), (3, .ref (s.heap.size + 181)), (2, .ref (s.heap.size + 135)), (1, .ref s.heap.size), (0, .ref b)]) : W p l e room_1 s m #[Value.ref b] below meth c H locs 182 1149 (lw_Z below #[Value.ref b] s) (F0 m 1536 ls []) := by
  obtain ⟨hx, hb, hr, hlocks, hml, hown, hts, hl0, hX, hbl, hK, hK2, hKL, hXE⟩ := id G
  have hts2 : ∀ w ∈ wsL_law, w.before #[Value.ref b] s = true := fun w h => hts w (wsL_law_in w h)
  have hbA : ¬ rg_A s.heap.size b := Nat.not_le.mpr hbl
  refine lv_aload_n hx hb dL_law_1536 rfl (lv_at hl 3 rfl) ?_
  refine lv_aload_n hx hb dL_law_1537 rfl (lv_at hl 4 rfl) ?_
  refine lv_iload hx hb dL_law_1538 (lv_at hl 0 rfl) ?_
  refine lv_iconst (v := 1) hx hb dL_law_1540 (by decide) ?_
  refine lv_iadd hx hb dL_law_1541 ?_
  refine va_sld (i := 0 + 1) hx hb hX hbl hbA hS (by unfold vp_in; decide) dL_law_1542 ?_
  rw [show ((0 : Int32) + 1).toNatClampNeg = 1 from by decide]
  refine lv_aload_n hx hb dL_law_1543 rfl (lv_at hl 4 rfl) ?_
  refine lv_iload hx hb dL_law_1544 (lv_at hl 0 rfl) ?_
  refine lv_iconst (v := 2) hx hb dL_law_1546 (by decide) ?_
  refine lv_iadd hx hb dL_law_1547 ?_
  refine va_sld (i := 0 + 2) hx hb hX hbl hbA hS (by unfold vp_in; decide) dL_law_1548 ?_
  rw [show ((0 : Int32) + 2).toNatClampNeg = 2 from by decide]
  refine lv_aload_n hx hb dL_law_1549 rfl (lv_at hl 4 rfl) ?_
  refine lv_iload hx hb dL_law_1550 (lv_at hl 0 rfl) ?_
  refine lv_iconst (v := 3) hx hb dL_law_1552 (by decide) ?_
  refine lv_iadd hx hb dL_law_1553 ?_
  refine va_sld (i := 0 + 3) hx hb hX hbl hbA hS (by unfold vp_in; decide) dL_law_1554 ?_
  rw [show ((0 : Int32) + 3).toNatClampNeg = 3 from by decide]
  refine lv_if_eq (tgt := 1562) hx hb dL_law_1555 (by decide) (fun c_1555 => ?_) (fun c_1555 => ?_)
  · refine lv_iconst (v := 0) hx hb dL_law_1562 (by decide) ?_
    refine lv_aload_n hx hb dL_law_1563 rfl (lv_at hl 1 rfl) ?_
    refine lw_help (As := [.ref s.heap.size, .int (xs 1), .int (xs 2), .int 0, .ref (s.heap.size + 181)]) ⟨hx, hb, hml, hown, hts2⟩ (hT_known l D d s.heap.size (rc_L (s.heap.size + 1)) (rc_L (s.heap.size + 68)) (lw_A1 s.heap.size) (lw_A2 s.heap.size) (lw_B s.heap.size) (s.heap.size + 181) cL (fun _ => 0) lw_wB (fun _ h => lw_AB h) (Or.inr rfl) lw_oA hl0 (xs 1) (xs 2) 0) (vx_cwSW 5 hts2 gL_law_L_known rfl rfl rfl (by decide +kernel) ⟨Nat.le_of_ble_eq_true rfl, Nat.le_of_ble_eq_true rfl⟩) (lw_house hg) (lw_trial hg) hK hXE lw_BB (lw_wax hg) (lw_out hg) hKL hS rfl hl.1 (Nat.le_of_ble_eq_true rfl) dL_law_1564 ⟨Nat.le_of_ble_eq_true rfl, Nat.le_of_ble_eq_true rfl⟩ rfl (fun H1 locs hO hq hz hS => ?_)
    have hsz : s.heap.size + 182 ≤ H1.size := by rw [← hz0]; exact hz
    have hP := lw_keep (lw_w_m2 hg) (lw_d_m2 (d := d) (cB := cB)) hq
    refine lv_istore (lv' := [(5, .int 1), (4, .int 0), (3, .ref (s.heap.size + 181)), (2, .ref (s.heap.size + 135)), (1, .ref s.heap.size), (0, .ref b)]) hx hb dL_law_1567 hl (by decide) rfl (fun ls hl => ?_)
    refine lv_aload_n hx hb dL_law_1569 rfl (lv_at hl 3 rfl) ?_
    refine lv_aload_n hx hb dL_law_1570 rfl (lv_at hl 5 rfl) ?_
    refine lv_iload hx hb dL_law_1571 (lv_at hl 1 rfl) ?_
    refine lv_iconst (v := 1) hx hb dL_law_1573 (by decide) ?_
    refine lv_iadd hx hb dL_law_1574 ?_
    refine va_sld (i := 0 + 1) hx hb hX hbl hbA hS (by unfold vp_in; decide) dL_law_1575 ?_
    rw [show ((0 : Int32) + 1).toNatClampNeg = 1 from by decide]
    refine lv_aload_n hx hb dL_law_1576 rfl (lv_at hl 5 rfl) ?_
    refine lv_iload hx hb dL_law_1577 (lv_at hl 1 rfl) ?_
    refine lv_iconst (v := 2) hx hb dL_law_1579 (by decide) ?_
    refine lv_iadd hx hb dL_law_1580 ?_
    refine va_sld (i := 0 + 2) hx hb hX hbl hbA hS (by unfold vp_in; decide) dL_law_1581 ?_
    rw [show ((0 : Int32) + 2).toNatClampNeg = 2 from by decide]
    refine lv_aload_n hx hb dL_law_1582 rfl (lv_at hl 5 rfl) ?_
    refine lv_iload hx hb dL_law_1583 (lv_at hl 1 rfl) ?_
    refine lv_iconst (v := 3) hx hb dL_law_1585 (by decide) ?_
    refine lv_iadd hx hb dL_law_1586 ?_
    refine va_sld (i := 0 + 3) hx hb hX hbl hbA hS (by unfold vp_in; decide) dL_law_1587 ?_
    rw [show ((0 : Int32) + 3).toNatClampNeg = 3 from by decide]
    refine lv_if_eq (tgt := 1595) hx hb dL_law_1588 (by decide) (fun c_1588 => ?_) (fun c_1588 => ?_)
    · refine lv_iconst (v := 0) hx hb dL_law_1595 (by decide) ?_
      refine lw_ref (As := [.int (xs 1), .int (xs 2), .int 0]) (V := [((s.heap.size + 135), .inr (cRm, [.int 0, .ref (s.heap.size + 135 + 1)])), ((s.heap.size + 135 + 1), .inr (cRh, [.ref (s.heap.size + 135 + 1 + 1), .ref (s.heap.size + 135 + 1 + 12), .ref (s.heap.size + 135 + 1 + 23), .ref (s.heap.size + 135 + 1 + 34), .ref (s.heap.size + 135 + 1 + 43), .ref (s.heap.size + 135 + 1 + 44), .int 0, .int 0, .int 0, .int 0, .int 0, .int 5, .int 200, .int 30]))]) (V2 := [((s.heap.size + 135), .inr (cRm, [.int 1, .ref (s.heap.size + 135 + 1)]))]) (B := lw_M s.heap.size H1.size) (q0 := 0) (ci := cRm) (r := (RX6, TX6, 2)) ⟨hx, hb, hml, hown, hts2⟩ (rX6_known l D d.1 cB H1.size (s.heap.size + 135) (s.heap.size + 135 + 1) (s.heap.size + 135 + 1 + 1) (s.heap.size + 135 + 1 + 12) (s.heap.size + 135 + 1 + 23) (s.heap.size + 135 + 1 + 34) (s.heap.size + 135 + 1 + 43) (s.heap.size + 135 + 1 + 44) 0 (xs 1) (xs 2) 0 (lw_M s.heap.size H1.size) (lw_lM (lw_d_m2 (d := d) (cB := cB)))) (cwV 3 hts2 gL_law_X6_known rfl rfl rfl (by decide +kernel) ⟨Nat.le_of_ble_eq_true rfl, Nat.le_of_ble_eq_true rfl⟩) hK2 hP (lw_MB hsz) hS rfl rfl rfl rfl hl.1 (Nat.le_of_ble_eq_true rfl) dL_law_1596 ⟨Nat.le_of_ble_eq_true rfl, Nat.le_of_ble_eq_true rfl⟩ rfl (fun r_ H2 locs hp hM2 hq2 hz2 hS => ?_)
      subst hp
      have hO2 := rf_keep1 hO (fun _ => hq2 (s.heap.size + 181) (by omega) (lw_noM hsz))
      refine lv_istore (lv' := [(6, .int 0), (5, .int 1), (4, .int 0), (3, .ref (s.heap.size + 181)), (2, .ref (s.heap.size + 135)), (1, .ref s.heap.size), (0, .ref b)]) hx hb dL_law_1599 hl (by decide) rfl (fun ls hl => ?_)
      refine lv_aload_n hx hb dL_law_1601 rfl (lv_at hl 4 rfl) ?_
      refine rf_callR (As := []) (W0 := [((s.heap.size + 135), .inr (cRm, [.int 1, .ref (s.heap.size + 135 + 1)]))] ++ [((s.heap.size + 181), .inl (cL, 1, .inr (.inl (fun _ => 0))))]) (V := [((s.heap.size + 135), .inr (cRm, [.int 1, .ref (s.heap.size + 135 + 1)]))]) (q0 := 0) (ci := cRm) (r := (RX6, TX6, 2)) ⟨hx, hb, hml, hown, hts2⟩ (rX6_thrown l D d.1 cB H2.size (s.heap.size + 135) (s.heap.size + 135 + 1) 1) (cwV 0 hts2 gL_law_X6_thrown rfl rfl rfl (by decide +kernel) ⟨Nat.le_of_ble_eq_true rfl, Nat.le_of_ble_eq_true rfl⟩) hK2 (hM2.app hO2) hM2 hS rfl rfl rfl rfl hl.1 (Nat.le_of_ble_eq_true rfl) dL_law_1602 ⟨Nat.le_of_ble_eq_true rfl, Nat.le_of_ble_eq_true rfl⟩ rfl (fun r_ H3 locs hp hP3 hS => ?_)
      subst hp
      refine lv_iload hx hb dL_law_1605 (lv_at hl 1 rfl) ?_
      refine lv_icmp_eq (tgt := 1612) hx hb dL_law_1607 (by decide) (fun c_1607 => ?_) (fun c_1607 => ?_)
      · refine lv_iload hx hb dL_law_1612 (lv_at hl 1 rfl) ?_
        refine lv_if_ne (tgt := 1629) hx hb dL_law_1614 (by decide) (fun c_1614 => ?_) (fun c_1614 => ?_)
        · refine lv_goto (tgt := 2108) hx hb dL_law_1629 (by decide) ?_
          exact lw_tail G hS (Nat.le_of_ble_eq_true rfl) (Nat.le_of_ble_eq_true rfl) (lv_sub hl [2, 6] rfl)
        · exact absurd c_1614 (by decide)
      · exact absurd (by decide) c_1607
    · refine lv_iconst (v := 1) hx hb dL_law_1591 (by decide) ?_
      refine lv_goto (tgt := 1596) hx hb dL_law_1592 (by decide) ?_
      refine lw_ref (As := [.int (xs 1), .int (xs 2), .int 1]) (V := [((s.heap.size + 135), .inr (cRm, [.int 0, .ref (s.heap.size + 135 + 1)])), ((s.heap.size + 135 + 1), .inr (cRh, [.ref (s.heap.size + 135 + 1 + 1), .ref (s.heap.size + 135 + 1 + 12), .ref (s.heap.size + 135 + 1 + 23), .ref (s.heap.size + 135 + 1 + 34), .ref (s.heap.size + 135 + 1 + 43), .ref (s.heap.size + 135 + 1 + 44), .int 0, .int 0, .int 0, .int 0, .int 0, .int 5, .int 200, .int 30]))]) (V2 := [((s.heap.size + 135), .inr (cRm, [.int 1, .ref (s.heap.size + 135 + 1)]))]) (B := lw_M s.heap.size H1.size) (q0 := 0) (ci := cRm) (r := (RX6, TX6, 2)) ⟨hx, hb, hml, hown, hts2⟩ (rX6_known l D d.1 cB H1.size (s.heap.size + 135) (s.heap.size + 135 + 1) (s.heap.size + 135 + 1 + 1) (s.heap.size + 135 + 1 + 12) (s.heap.size + 135 + 1 + 23) (s.heap.size + 135 + 1 + 34) (s.heap.size + 135 + 1 + 43) (s.heap.size + 135 + 1 + 44) 0 (xs 1) (xs 2) 1 (lw_M s.heap.size H1.size) (lw_lM (lw_d_m2 (d := d) (cB := cB)))) (cwV 3 hts2 gL_law_X6_known rfl rfl rfl (by decide +kernel) ⟨Nat.le_of_ble_eq_true rfl, Nat.le_of_ble_eq_true rfl⟩) hK2 hP (lw_MB hsz) hS rfl rfl rfl rfl hl.1 (Nat.le_of_ble_eq_true rfl) dL_law_1596 ⟨Nat.le_of_ble_eq_true rfl, Nat.le_of_ble_eq_true rfl⟩ rfl (fun r_ H2 locs hp hM2 hq2 hz2 hS => ?_)
      subst hp
      have hO2 := rf_keep1 hO (fun _ => hq2 (s.heap.size + 181) (by omega) (lw_noM hsz))
      refine lv_istore (lv' := [(6, .int 0), (5, .int 1), (4, .int 0), (3, .ref (s.heap.size + 181)), (2, .ref (s.heap.size + 135)), (1, .ref s.heap.size), (0, .ref b)]) hx hb dL_law_1599 hl (by decide) rfl (fun ls hl => ?_)
      refine lv_aload_n hx hb dL_law_1601 rfl (lv_at hl 4 rfl) ?_
      refine rf_callR (As := []) (W0 := [((s.heap.size + 135), .inr (cRm, [.int 1, .ref (s.heap.size + 135 + 1)]))] ++ [((s.heap.size + 181), .inl (cL, 1, .inr (.inl (fun _ => 0))))]) (V := [((s.heap.size + 135), .inr (cRm, [.int 1, .ref (s.heap.size + 135 + 1)]))]) (q0 := 0) (ci := cRm) (r := (RX6, TX6, 2)) ⟨hx, hb, hml, hown, hts2⟩ (rX6_thrown l D d.1 cB H2.size (s.heap.size + 135) (s.heap.size + 135 + 1) 1) (cwV 0 hts2 gL_law_X6_thrown rfl rfl rfl (by decide +kernel) ⟨Nat.le_of_ble_eq_true rfl, Nat.le_of_ble_eq_true rfl⟩) hK2 (hM2.app hO2) hM2 hS rfl rfl rfl rfl hl.1 (Nat.le_of_ble_eq_true rfl) dL_law_1602 ⟨Nat.le_of_ble_eq_true rfl, Nat.le_of_ble_eq_true rfl⟩ rfl (fun r_ H3 locs hp hP3 hS => ?_)
      subst hp
      refine lv_iload hx hb dL_law_1605 (lv_at hl 1 rfl) ?_
      refine lv_icmp_eq (tgt := 1612) hx hb dL_law_1607 (by decide) (fun c_1607 => ?_) (fun c_1607 => ?_)
      · refine lv_iload hx hb dL_law_1612 (lv_at hl 1 rfl) ?_
        refine lv_if_ne (tgt := 1629) hx hb dL_law_1614 (by decide) (fun c_1614 => ?_) (fun c_1614 => ?_)
        · refine lv_goto (tgt := 2108) hx hb dL_law_1629 (by decide) ?_
          exact lw_tail G hS (Nat.le_of_ble_eq_true rfl) (Nat.le_of_ble_eq_true rfl) (lv_sub hl [2, 6] rfl)
        · exact absurd c_1614 (by decide)
      · exact absurd (by decide) c_1607
  · refine lv_iconst (v := 1) hx hb dL_law_1558 (by decide) ?_
    refine lv_goto (tgt := 1563) hx hb dL_law_1559 (by decide) ?_
    refine lv_aload_n hx hb dL_law_1563 rfl (lv_at hl 1 rfl) ?_
    refine lw_help (As := [.ref s.heap.size, .int (xs 1), .int (xs 2), .int 1, .ref (s.heap.size + 181)]) ⟨hx, hb, hml, hown, hts2⟩ (hT_known l D d s.heap.size (rc_L (s.heap.size + 1)) (rc_L (s.heap.size + 68)) (lw_A1 s.heap.size) (lw_A2 s.heap.size) (lw_B s.heap.size) (s.heap.size + 181) cL (fun _ => 0) lw_wB (fun _ h => lw_AB h) (Or.inr rfl) lw_oA hl0 (xs 1) (xs 2) 1) (vx_cwSW 5 hts2 gL_law_L_known rfl rfl rfl (by decide +kernel) ⟨Nat.le_of_ble_eq_true rfl, Nat.le_of_ble_eq_true rfl⟩) (lw_house hg) (lw_trial hg) hK hXE lw_BB (lw_wax hg) (lw_out hg) hKL hS rfl hl.1 (Nat.le_of_ble_eq_true rfl) dL_law_1564 ⟨Nat.le_of_ble_eq_true rfl, Nat.le_of_ble_eq_true rfl⟩ rfl (fun H1 locs hO hq hz hS => ?_)
    have hsz : s.heap.size + 182 ≤ H1.size := by rw [← hz0]; exact hz
    have hP := lw_keep (lw_w_m2 hg) (lw_d_m2 (d := d) (cB := cB)) hq
    refine lv_istore (lv' := [(5, .int 1), (4, .int 0), (3, .ref (s.heap.size + 181)), (2, .ref (s.heap.size + 135)), (1, .ref s.heap.size), (0, .ref b)]) hx hb dL_law_1567 hl (by decide) rfl (fun ls hl => ?_)
    refine lv_aload_n hx hb dL_law_1569 rfl (lv_at hl 3 rfl) ?_
    refine lv_aload_n hx hb dL_law_1570 rfl (lv_at hl 5 rfl) ?_
    refine lv_iload hx hb dL_law_1571 (lv_at hl 1 rfl) ?_
    refine lv_iconst (v := 1) hx hb dL_law_1573 (by decide) ?_
    refine lv_iadd hx hb dL_law_1574 ?_
    refine va_sld (i := 0 + 1) hx hb hX hbl hbA hS (by unfold vp_in; decide) dL_law_1575 ?_
    rw [show ((0 : Int32) + 1).toNatClampNeg = 1 from by decide]
    refine lv_aload_n hx hb dL_law_1576 rfl (lv_at hl 5 rfl) ?_
    refine lv_iload hx hb dL_law_1577 (lv_at hl 1 rfl) ?_
    refine lv_iconst (v := 2) hx hb dL_law_1579 (by decide) ?_
    refine lv_iadd hx hb dL_law_1580 ?_
    refine va_sld (i := 0 + 2) hx hb hX hbl hbA hS (by unfold vp_in; decide) dL_law_1581 ?_
    rw [show ((0 : Int32) + 2).toNatClampNeg = 2 from by decide]
    refine lv_aload_n hx hb dL_law_1582 rfl (lv_at hl 5 rfl) ?_
    refine lv_iload hx hb dL_law_1583 (lv_at hl 1 rfl) ?_
    refine lv_iconst (v := 3) hx hb dL_law_1585 (by decide) ?_
    refine lv_iadd hx hb dL_law_1586 ?_
    refine va_sld (i := 0 + 3) hx hb hX hbl hbA hS (by unfold vp_in; decide) dL_law_1587 ?_
    rw [show ((0 : Int32) + 3).toNatClampNeg = 3 from by decide]
    refine lv_if_eq (tgt := 1595) hx hb dL_law_1588 (by decide) (fun c_1588 => ?_) (fun c_1588 => ?_)
    · refine lv_iconst (v := 0) hx hb dL_law_1595 (by decide) ?_
      refine lw_ref (As := [.int (xs 1), .int (xs 2), .int 0]) (V := [((s.heap.size + 135), .inr (cRm, [.int 0, .ref (s.heap.size + 135 + 1)])), ((s.heap.size + 135 + 1), .inr (cRh, [.ref (s.heap.size + 135 + 1 + 1), .ref (s.heap.size + 135 + 1 + 12), .ref (s.heap.size + 135 + 1 + 23), .ref (s.heap.size + 135 + 1 + 34), .ref (s.heap.size + 135 + 1 + 43), .ref (s.heap.size + 135 + 1 + 44), .int 0, .int 0, .int 0, .int 0, .int 0, .int 5, .int 200, .int 30]))]) (V2 := [((s.heap.size + 135), .inr (cRm, [.int 1, .ref (s.heap.size + 135 + 1)]))]) (B := lw_M s.heap.size H1.size) (q0 := 0) (ci := cRm) (r := (RX6, TX6, 2)) ⟨hx, hb, hml, hown, hts2⟩ (rX6_known l D d.1 cB H1.size (s.heap.size + 135) (s.heap.size + 135 + 1) (s.heap.size + 135 + 1 + 1) (s.heap.size + 135 + 1 + 12) (s.heap.size + 135 + 1 + 23) (s.heap.size + 135 + 1 + 34) (s.heap.size + 135 + 1 + 43) (s.heap.size + 135 + 1 + 44) 0 (xs 1) (xs 2) 0 (lw_M s.heap.size H1.size) (lw_lM (lw_d_m2 (d := d) (cB := cB)))) (cwV 3 hts2 gL_law_X6_known rfl rfl rfl (by decide +kernel) ⟨Nat.le_of_ble_eq_true rfl, Nat.le_of_ble_eq_true rfl⟩) hK2 hP (lw_MB hsz) hS rfl rfl rfl rfl hl.1 (Nat.le_of_ble_eq_true rfl) dL_law_1596 ⟨Nat.le_of_ble_eq_true rfl, Nat.le_of_ble_eq_true rfl⟩ rfl (fun r_ H2 locs hp hM2 hq2 hz2 hS => ?_)
      subst hp
      have hO2 := rf_keep1 hO (fun _ => hq2 (s.heap.size + 181) (by omega) (lw_noM hsz))
      refine lv_istore (lv' := [(6, .int 0), (5, .int 1), (4, .int 0), (3, .ref (s.heap.size + 181)), (2, .ref (s.heap.size + 135)), (1, .ref s.heap.size), (0, .ref b)]) hx hb dL_law_1599 hl (by decide) rfl (fun ls hl => ?_)
      refine lv_aload_n hx hb dL_law_1601 rfl (lv_at hl 4 rfl) ?_
      refine rf_callR (As := []) (W0 := [((s.heap.size + 135), .inr (cRm, [.int 1, .ref (s.heap.size + 135 + 1)]))] ++ [((s.heap.size + 181), .inl (cL, 1, .inr (.inl (fun _ => 0))))]) (V := [((s.heap.size + 135), .inr (cRm, [.int 1, .ref (s.heap.size + 135 + 1)]))]) (q0 := 0) (ci := cRm) (r := (RX6, TX6, 2)) ⟨hx, hb, hml, hown, hts2⟩ (rX6_thrown l D d.1 cB H2.size (s.heap.size + 135) (s.heap.size + 135 + 1) 1) (cwV 0 hts2 gL_law_X6_thrown rfl rfl rfl (by decide +kernel) ⟨Nat.le_of_ble_eq_true rfl, Nat.le_of_ble_eq_true rfl⟩) hK2 (hM2.app hO2) hM2 hS rfl rfl rfl rfl hl.1 (Nat.le_of_ble_eq_true rfl) dL_law_1602 ⟨Nat.le_of_ble_eq_true rfl, Nat.le_of_ble_eq_true rfl⟩ rfl (fun r_ H3 locs hp hP3 hS => ?_)
      subst hp
      refine lv_iload hx hb dL_law_1605 (lv_at hl 1 rfl) ?_
      refine lv_icmp_eq (tgt := 1612) hx hb dL_law_1607 (by decide) (fun c_1607 => ?_) (fun c_1607 => ?_)
      · refine lv_iload hx hb dL_law_1612 (lv_at hl 1 rfl) ?_
        refine lv_if_ne (tgt := 1629) hx hb dL_law_1614 (by decide) (fun c_1614 => ?_) (fun c_1614 => ?_)
        · refine lv_goto (tgt := 2108) hx hb dL_law_1629 (by decide) ?_
          exact lw_tail G hS (Nat.le_of_ble_eq_true rfl) (Nat.le_of_ble_eq_true rfl) (lv_sub hl [2, 6] rfl)
        · exact absurd c_1614 (by decide)
      · exact absurd (by decide) c_1607
    · refine lv_iconst (v := 1) hx hb dL_law_1591 (by decide) ?_
      refine lv_goto (tgt := 1596) hx hb dL_law_1592 (by decide) ?_
      refine lw_ref (As := [.int (xs 1), .int (xs 2), .int 1]) (V := [((s.heap.size + 135), .inr (cRm, [.int 0, .ref (s.heap.size + 135 + 1)])), ((s.heap.size + 135 + 1), .inr (cRh, [.ref (s.heap.size + 135 + 1 + 1), .ref (s.heap.size + 135 + 1 + 12), .ref (s.heap.size + 135 + 1 + 23), .ref (s.heap.size + 135 + 1 + 34), .ref (s.heap.size + 135 + 1 + 43), .ref (s.heap.size + 135 + 1 + 44), .int 0, .int 0, .int 0, .int 0, .int 0, .int 5, .int 200, .int 30]))]) (V2 := [((s.heap.size + 135), .inr (cRm, [.int 1, .ref (s.heap.size + 135 + 1)]))]) (B := lw_M s.heap.size H1.size) (q0 := 0) (ci := cRm) (r := (RX6, TX6, 2)) ⟨hx, hb, hml, hown, hts2⟩ (rX6_known l D d.1 cB H1.size (s.heap.size + 135) (s.heap.size + 135 + 1) (s.heap.size + 135 + 1 + 1) (s.heap.size + 135 + 1 + 12) (s.heap.size + 135 + 1 + 23) (s.heap.size + 135 + 1 + 34) (s.heap.size + 135 + 1 + 43) (s.heap.size + 135 + 1 + 44) 0 (xs 1) (xs 2) 1 (lw_M s.heap.size H1.size) (lw_lM (lw_d_m2 (d := d) (cB := cB)))) (cwV 3 hts2 gL_law_X6_known rfl rfl rfl (by decide +kernel) ⟨Nat.le_of_ble_eq_true rfl, Nat.le_of_ble_eq_true rfl⟩) hK2 hP (lw_MB hsz) hS rfl rfl rfl rfl hl.1 (Nat.le_of_ble_eq_true rfl) dL_law_1596 ⟨Nat.le_of_ble_eq_true rfl, Nat.le_of_ble_eq_true rfl⟩ rfl (fun r_ H2 locs hp hM2 hq2 hz2 hS => ?_)
      subst hp
      have hO2 := rf_keep1 hO (fun _ => hq2 (s.heap.size + 181) (by omega) (lw_noM hsz))
      refine lv_istore (lv' := [(6, .int 0), (5, .int 1), (4, .int 0), (3, .ref (s.heap.size + 181)), (2, .ref (s.heap.size + 135)), (1, .ref s.heap.size), (0, .ref b)]) hx hb dL_law_1599 hl (by decide) rfl (fun ls hl => ?_)
      refine lv_aload_n hx hb dL_law_1601 rfl (lv_at hl 4 rfl) ?_
      refine rf_callR (As := []) (W0 := [((s.heap.size + 135), .inr (cRm, [.int 1, .ref (s.heap.size + 135 + 1)]))] ++ [((s.heap.size + 181), .inl (cL, 1, .inr (.inl (fun _ => 0))))]) (V := [((s.heap.size + 135), .inr (cRm, [.int 1, .ref (s.heap.size + 135 + 1)]))]) (q0 := 0) (ci := cRm) (r := (RX6, TX6, 2)) ⟨hx, hb, hml, hown, hts2⟩ (rX6_thrown l D d.1 cB H2.size (s.heap.size + 135) (s.heap.size + 135 + 1) 1) (cwV 0 hts2 gL_law_X6_thrown rfl rfl rfl (by decide +kernel) ⟨Nat.le_of_ble_eq_true rfl, Nat.le_of_ble_eq_true rfl⟩) hK2 (hM2.app hO2) hM2 hS rfl rfl rfl rfl hl.1 (Nat.le_of_ble_eq_true rfl) dL_law_1602 ⟨Nat.le_of_ble_eq_true rfl, Nat.le_of_ble_eq_true rfl⟩ rfl (fun r_ H3 locs hp hP3 hS => ?_)
      subst hp
      refine lv_iload hx hb dL_law_1605 (lv_at hl 1 rfl) ?_
      refine lv_icmp_eq (tgt := 1612) hx hb dL_law_1607 (by decide) (fun c_1607 => ?_) (fun c_1607 => ?_)
      · refine lv_iload hx hb dL_law_1612 (lv_at hl 1 rfl) ?_
        refine lv_if_ne (tgt := 1629) hx hb dL_law_1614 (by decide) (fun c_1614 => ?_) (fun c_1614 => ?_)
        · refine lv_goto (tgt := 2108) hx hb dL_law_1629 (by decide) ?_
          exact lw_tail G hS (Nat.le_of_ble_eq_true rfl) (Nat.le_of_ble_eq_true rfl) (lv_sub hl [2, 6] rfl)
        · exact absurd c_1614 (by decide)
      · exact absurd (by decide) c_1607
set_option maxHeartbeats 4000000 in
set_option maxRecDepth 100000 in
/-- the law: lw_c25 -/
theorem lw_c25 {p : Program} {l : Launch} {e : Env} {s : State} {m : MethodId} {below : List Frame} {meth : Method} {c : Code} {b : Nat} {D : va_G} {d : hs_Dm} {cB cL : ClassId} {xs : Nat → Int32} (G : lw_G p l s m meth c b D d cB cL xs)  {H : Heap} {locs : List Loc} (hg : rg D (lw_X d cB cL s.heap.size) s.heap.size 182 H) (hz0 : H.size = s.heap.size + 182) (hS : va_S (rg_A s.heap.size) s.heap H locs) {ls : Array Slot} (hl : lv_has ls 9 [(4, .int 0), (3, .ref (s.heap.size + 181)), (2, .ref (s.heap.size + 135)), (1, .ref s.heap.size), (0, .ref b)]) : W p l e room_1 s m #[Value.ref b] below meth c H locs 182 1149 (lw_Z below #[Value.ref b] s) (F0 m 1865 ls []) := by
  obtain ⟨hx, hb, hr, hlocks, hml, hown, hts, hl0, hX, hbl, hK, hK2, hKL, hXE⟩ := id G
  have hts2 : ∀ w ∈ wsL_law, w.before #[Value.ref b] s = true := fun w h => hts w (wsL_law_in w h)
  have hbA : ¬ rg_A s.heap.size b := Nat.not_le.mpr hbl
  refine lv_aload_n hx hb dL_law_1865 rfl (lv_at hl 3 rfl) ?_
  refine lv_aload_n hx hb dL_law_1866 rfl (lv_at hl 4 rfl) ?_
  refine lv_iload hx hb dL_law_1867 (lv_at hl 0 rfl) ?_
  refine lv_iconst (v := 1) hx hb dL_law_1869 (by decide) ?_
  refine lv_iadd hx hb dL_law_1870 ?_
  refine va_sld (i := 0 + 1) hx hb hX hbl hbA hS (by unfold vp_in; decide) dL_law_1871 ?_
  rw [show ((0 : Int32) + 1).toNatClampNeg = 1 from by decide]
  refine lv_aload_n hx hb dL_law_1872 rfl (lv_at hl 4 rfl) ?_
  refine lv_iload hx hb dL_law_1873 (lv_at hl 0 rfl) ?_
  refine lv_iconst (v := 2) hx hb dL_law_1875 (by decide) ?_
  refine lv_iadd hx hb dL_law_1876 ?_
  refine va_sld (i := 0 + 2) hx hb hX hbl hbA hS (by unfold vp_in; decide) dL_law_1877 ?_
  rw [show ((0 : Int32) + 2).toNatClampNeg = 2 from by decide]
  refine lv_aload_n hx hb dL_law_1878 rfl (lv_at hl 4 rfl) ?_
  refine lv_iload hx hb dL_law_1879 (lv_at hl 0 rfl) ?_
  refine lv_iconst (v := 3) hx hb dL_law_1881 (by decide) ?_
  refine lv_iadd hx hb dL_law_1882 ?_
  refine va_sld (i := 0 + 3) hx hb hX hbl hbA hS (by unfold vp_in; decide) dL_law_1883 ?_
  rw [show ((0 : Int32) + 3).toNatClampNeg = 3 from by decide]
  refine lv_aload_n hx hb dL_law_1884 rfl (lv_at hl 1 rfl) ?_
  refine lw_help (As := [.ref s.heap.size, .int (xs 1), .int (xs 2), .int (xs 3), .ref (s.heap.size + 181)]) ⟨hx, hb, hml, hown, hts2⟩ (hT_wouldFame l D d s.heap.size (rc_L (s.heap.size + 1)) (rc_L (s.heap.size + 68)) (lw_A1 s.heap.size) (lw_A2 s.heap.size) (lw_B s.heap.size) (s.heap.size + 181) cL (fun _ => 0) lw_wB (fun _ h => lw_AB h) (Or.inr rfl) lw_oA hl0 (xs 1) (xs 2) (xs 3)) (vx_cwSW 5 hts2 gL_law_L_wouldFame rfl rfl rfl (by decide +kernel) ⟨Nat.le_of_ble_eq_true rfl, Nat.le_of_ble_eq_true rfl⟩) (lw_house hg) (lw_trial hg) hK hXE lw_BB (lw_wax hg) (lw_out hg) hKL hS rfl hl.1 (Nat.le_of_ble_eq_true rfl) dL_law_1885 ⟨Nat.le_of_ble_eq_true rfl, Nat.le_of_ble_eq_true rfl⟩ rfl (fun H1 locs hO hq hz hS => ?_)
  have hsz : s.heap.size + 182 ≤ H1.size := by rw [← hz0]; exact hz
  have hP := lw_keep (lw_w_m2 hg) (lw_d_m2 (d := d) (cB := cB)) hq
  refine lv_istore (lv' := [(5, .int 1), (4, .int 0), (3, .ref (s.heap.size + 181)), (2, .ref (s.heap.size + 135)), (1, .ref s.heap.size), (0, .ref b)]) hx hb dL_law_1888 hl (by decide) rfl (fun ls hl => ?_)
  refine lv_aload_n hx hb dL_law_1890 rfl (lv_at hl 3 rfl) ?_
  refine lv_aload_n hx hb dL_law_1891 rfl (lv_at hl 5 rfl) ?_
  refine lv_iload hx hb dL_law_1892 (lv_at hl 1 rfl) ?_
  refine lv_iconst (v := 1) hx hb dL_law_1894 (by decide) ?_
  refine lv_iadd hx hb dL_law_1895 ?_
  refine va_sld (i := 0 + 1) hx hb hX hbl hbA hS (by unfold vp_in; decide) dL_law_1896 ?_
  rw [show ((0 : Int32) + 1).toNatClampNeg = 1 from by decide]
  refine lv_aload_n hx hb dL_law_1897 rfl (lv_at hl 5 rfl) ?_
  refine lv_iload hx hb dL_law_1898 (lv_at hl 1 rfl) ?_
  refine lv_iconst (v := 2) hx hb dL_law_1900 (by decide) ?_
  refine lv_iadd hx hb dL_law_1901 ?_
  refine va_sld (i := 0 + 2) hx hb hX hbl hbA hS (by unfold vp_in; decide) dL_law_1902 ?_
  rw [show ((0 : Int32) + 2).toNatClampNeg = 2 from by decide]
  refine lv_aload_n hx hb dL_law_1903 rfl (lv_at hl 5 rfl) ?_
  refine lv_iload hx hb dL_law_1904 (lv_at hl 1 rfl) ?_
  refine lv_iconst (v := 3) hx hb dL_law_1906 (by decide) ?_
  refine lv_iadd hx hb dL_law_1907 ?_
  refine va_sld (i := 0 + 3) hx hb hX hbl hbA hS (by unfold vp_in; decide) dL_law_1908 ?_
  rw [show ((0 : Int32) + 3).toNatClampNeg = 3 from by decide]
  refine lw_ref (As := [.int (xs 1), .int (xs 2), .int (xs 3)]) (V := [((s.heap.size + 135), .inr (cRm, [.int 0, .ref (s.heap.size + 135 + 1)])), ((s.heap.size + 135 + 1), .inr (cRh, [.ref (s.heap.size + 135 + 1 + 1), .ref (s.heap.size + 135 + 1 + 12), .ref (s.heap.size + 135 + 1 + 23), .ref (s.heap.size + 135 + 1 + 34), .ref (s.heap.size + 135 + 1 + 43), .ref (s.heap.size + 135 + 1 + 44), .int 0, .int 0, .int 0, .int 0, .int 0, .int 5, .int 200, .int 30]))]) (V2 := [((s.heap.size + 135), .inr (cRm, [.int 1, .ref (s.heap.size + 135 + 1)]))]) (B := lw_M s.heap.size H1.size) (q0 := 0) (ci := cRm) (r := (RX6, TX6, 2)) ⟨hx, hb, hml, hown, hts2⟩ (rX6_wouldFame l D d.1 cB H1.size (s.heap.size + 135) (s.heap.size + 135 + 1) (s.heap.size + 135 + 1 + 1) (s.heap.size + 135 + 1 + 12) (s.heap.size + 135 + 1 + 23) (s.heap.size + 135 + 1 + 34) (s.heap.size + 135 + 1 + 43) (s.heap.size + 135 + 1 + 44) 0 (xs 1) (xs 2) (xs 3) (lw_M s.heap.size H1.size) (lw_lM (lw_d_m2 (d := d) (cB := cB)))) (cwV 3 hts2 gL_law_X6_wouldFame rfl rfl rfl (by decide +kernel) ⟨Nat.le_of_ble_eq_true rfl, Nat.le_of_ble_eq_true rfl⟩) hK2 hP (lw_MB hsz) hS rfl rfl rfl rfl hl.1 (Nat.le_of_ble_eq_true rfl) dL_law_1909 ⟨Nat.le_of_ble_eq_true rfl, Nat.le_of_ble_eq_true rfl⟩ rfl (fun r_ H2 locs hp hM2 hq2 hz2 hS => ?_)
  subst hp
  have hO2 := rf_keep1 hO (fun _ => hq2 (s.heap.size + 181) (by omega) (lw_noM hsz))
  refine lv_istore (lv' := [(6, .int 0), (5, .int 1), (4, .int 0), (3, .ref (s.heap.size + 181)), (2, .ref (s.heap.size + 135)), (1, .ref s.heap.size), (0, .ref b)]) hx hb dL_law_1912 hl (by decide) rfl (fun ls hl => ?_)
  refine lv_aload_n hx hb dL_law_1914 rfl (lv_at hl 4 rfl) ?_
  refine rf_callR (As := []) (W0 := [((s.heap.size + 135), .inr (cRm, [.int 1, .ref (s.heap.size + 135 + 1)]))] ++ [((s.heap.size + 181), .inl (cL, 1, .inr (.inl (fun _ => 0))))]) (V := [((s.heap.size + 135), .inr (cRm, [.int 1, .ref (s.heap.size + 135 + 1)]))]) (q0 := 0) (ci := cRm) (r := (RX6, TX6, 2)) ⟨hx, hb, hml, hown, hts2⟩ (rX6_thrown l D d.1 cB H2.size (s.heap.size + 135) (s.heap.size + 135 + 1) 1) (cwV 0 hts2 gL_law_X6_thrown rfl rfl rfl (by decide +kernel) ⟨Nat.le_of_ble_eq_true rfl, Nat.le_of_ble_eq_true rfl⟩) hK2 (hM2.app hO2) hM2 hS rfl rfl rfl rfl hl.1 (Nat.le_of_ble_eq_true rfl) dL_law_1915 ⟨Nat.le_of_ble_eq_true rfl, Nat.le_of_ble_eq_true rfl⟩ rfl (fun r_ H3 locs hp hP3 hS => ?_)
  subst hp
  refine lv_iload hx hb dL_law_1918 (lv_at hl 1 rfl) ?_
  refine lv_icmp_eq (tgt := 1925) hx hb dL_law_1920 (by decide) (fun c_1920 => ?_) (fun c_1920 => ?_)
  · refine lv_iload hx hb dL_law_1925 (lv_at hl 1 rfl) ?_
    refine lv_if_ne (tgt := 1942) hx hb dL_law_1927 (by decide) (fun c_1927 => ?_) (fun c_1927 => ?_)
    · refine lv_goto (tgt := 2108) hx hb dL_law_1942 (by decide) ?_
      exact lw_tail G hS (Nat.le_of_ble_eq_true rfl) (Nat.le_of_ble_eq_true rfl) (lv_sub hl [2, 6] rfl)
    · exact absurd c_1927 (by decide)
  · exact absurd (by decide) c_1920
set_option maxHeartbeats 4000000 in
set_option maxRecDepth 100000 in
/-- the law: lw_c7 -/
theorem lw_c7 {p : Program} {l : Launch} {e : Env} {s : State} {m : MethodId} {below : List Frame} {meth : Method} {c : Code} {b : Nat} {D : va_G} {d : hs_Dm} {cB cL : ClassId} {xs : Nat → Int32} (G : lw_G p l s m meth c b D d cB cL xs)  {H : Heap} {locs : List Loc} (hg : rg D (lw_X d cB cL s.heap.size) s.heap.size 182 H) (hz0 : H.size = s.heap.size + 182) (hS : va_S (rg_A s.heap.size) s.heap H locs) {ls : Array Slot} (hl : lv_has ls 9 [(4, .int 0), (3, .ref (s.heap.size + 181)), (2, .ref (s.heap.size + 135)), (1, .ref s.heap.size), (0, .ref b)]) : W p l e room_1 s m #[Value.ref b] below meth c H locs 182 1149 (lw_Z below #[Value.ref b] s) (F0 m 688 ls []) := by
  obtain ⟨hx, hb, hr, hlocks, hml, hown, hts, hl0, hX, hbl, hK, hK2, hKL, hXE⟩ := id G
  have hts2 : ∀ w ∈ wsL_law, w.before #[Value.ref b] s = true := fun w h => hts w (wsL_law_in w h)
  have hbA : ¬ rg_A s.heap.size b := Nat.not_le.mpr hbl
  refine lv_aload_n hx hb dL_law_688 rfl (lv_at hl 3 rfl) ?_
  refine lv_aload_n hx hb dL_law_689 rfl (lv_at hl 4 rfl) ?_
  refine lv_iload hx hb dL_law_690 (lv_at hl 0 rfl) ?_
  refine lv_iconst (v := 1) hx hb dL_law_692 (by decide) ?_
  refine lv_iadd hx hb dL_law_693 ?_
  refine va_sld (i := 0 + 1) hx hb hX hbl hbA hS (by unfold vp_in; decide) dL_law_694 ?_
  rw [show ((0 : Int32) + 1).toNatClampNeg = 1 from by decide]
  refine lv_aload_n hx hb dL_law_695 rfl (lv_at hl 4 rfl) ?_
  refine lv_iload hx hb dL_law_696 (lv_at hl 0 rfl) ?_
  refine lv_iconst (v := 2) hx hb dL_law_698 (by decide) ?_
  refine lv_iadd hx hb dL_law_699 ?_
  refine va_sld (i := 0 + 2) hx hb hX hbl hbA hS (by unfold vp_in; decide) dL_law_700 ?_
  rw [show ((0 : Int32) + 2).toNatClampNeg = 2 from by decide]
  refine lv_aload_n hx hb dL_law_701 rfl (lv_at hl 1 rfl) ?_
  refine lw_help (As := [.ref s.heap.size, .int (xs 1), .int (xs 2), .ref (s.heap.size + 181)]) ⟨hx, hb, hml, hown, hts2⟩ (hT_work l D d s.heap.size (rc_L (s.heap.size + 1)) (rc_L (s.heap.size + 68)) (lw_A1 s.heap.size) (lw_A2 s.heap.size) (lw_B s.heap.size) (s.heap.size + 181) cL (fun _ => 0) lw_wB (fun _ h => lw_AB h) (Or.inr rfl) lw_oA hl0 (xs 1) (xs 2)) (vx_cwSW 4 hts2 gL_law_L_work rfl rfl rfl (by decide +kernel) ⟨Nat.le_of_ble_eq_true rfl, Nat.le_of_ble_eq_true rfl⟩) (lw_house hg) (lw_trial hg) hK hXE lw_BB (lw_wax hg) (lw_out hg) hKL hS rfl hl.1 (Nat.le_of_ble_eq_true rfl) dL_law_702 ⟨Nat.le_of_ble_eq_true rfl, Nat.le_of_ble_eq_true rfl⟩ rfl (fun H1 locs hO hq hz hS => ?_)
  have hsz : s.heap.size + 182 ≤ H1.size := by rw [← hz0]; exact hz
  have hP := lw_keep (lw_w_m2 hg) (lw_d_m2 (d := d) (cB := cB)) hq
  refine lv_istore (lv' := [(5, .int 1), (4, .int 0), (3, .ref (s.heap.size + 181)), (2, .ref (s.heap.size + 135)), (1, .ref s.heap.size), (0, .ref b)]) hx hb dL_law_705 hl (by decide) rfl (fun ls hl => ?_)
  refine lv_aload_n hx hb dL_law_707 rfl (lv_at hl 3 rfl) ?_
  refine lv_aload_n hx hb dL_law_708 rfl (lv_at hl 5 rfl) ?_
  refine lv_iload hx hb dL_law_709 (lv_at hl 1 rfl) ?_
  refine lv_iconst (v := 1) hx hb dL_law_711 (by decide) ?_
  refine lv_iadd hx hb dL_law_712 ?_
  refine va_sld (i := 0 + 1) hx hb hX hbl hbA hS (by unfold vp_in; decide) dL_law_713 ?_
  rw [show ((0 : Int32) + 1).toNatClampNeg = 1 from by decide]
  refine lv_aload_n hx hb dL_law_714 rfl (lv_at hl 5 rfl) ?_
  refine lv_iload hx hb dL_law_715 (lv_at hl 1 rfl) ?_
  refine lv_iconst (v := 2) hx hb dL_law_717 (by decide) ?_
  refine lv_iadd hx hb dL_law_718 ?_
  refine va_sld (i := 0 + 2) hx hb hX hbl hbA hS (by unfold vp_in; decide) dL_law_719 ?_
  rw [show ((0 : Int32) + 2).toNatClampNeg = 2 from by decide]
  refine lw_ref (As := [.int (xs 1), .int (xs 2)]) (V := [((s.heap.size + 135), .inr (cRm, [.int 0, .ref (s.heap.size + 135 + 1)])), ((s.heap.size + 135 + 1), .inr (cRh, [.ref (s.heap.size + 135 + 1 + 1), .ref (s.heap.size + 135 + 1 + 12), .ref (s.heap.size + 135 + 1 + 23), .ref (s.heap.size + 135 + 1 + 34), .ref (s.heap.size + 135 + 1 + 43), .ref (s.heap.size + 135 + 1 + 44), .int 0, .int 0, .int 0, .int 0, .int 0, .int 5, .int 200, .int 30]))]) (V2 := [((s.heap.size + 135), .inr (cRm, [.int 1, .ref (s.heap.size + 135 + 1)]))]) (B := lw_M s.heap.size H1.size) (q0 := 0) (ci := cRm) (r := (RX6, TX6, 2)) ⟨hx, hb, hml, hown, hts2⟩ (rX6_work l D d.1 cB H1.size (s.heap.size + 135) (s.heap.size + 135 + 1) (s.heap.size + 135 + 1 + 1) (s.heap.size + 135 + 1 + 12) (s.heap.size + 135 + 1 + 23) (s.heap.size + 135 + 1 + 34) (s.heap.size + 135 + 1 + 43) (s.heap.size + 135 + 1 + 44) 0 (xs 1) (xs 2) (lw_M s.heap.size H1.size) (lw_lM (lw_d_m2 (d := d) (cB := cB)))) (cwV 2 hts2 gL_law_X6_work rfl rfl rfl (by decide +kernel) ⟨Nat.le_of_ble_eq_true rfl, Nat.le_of_ble_eq_true rfl⟩) hK2 hP (lw_MB hsz) hS rfl rfl rfl rfl hl.1 (Nat.le_of_ble_eq_true rfl) dL_law_720 ⟨Nat.le_of_ble_eq_true rfl, Nat.le_of_ble_eq_true rfl⟩ rfl (fun r_ H2 locs hp hM2 hq2 hz2 hS => ?_)
  subst hp
  have hO2 := rf_keep1 hO (fun _ => hq2 (s.heap.size + 181) (by omega) (lw_noM hsz))
  refine lv_istore (lv' := [(6, .int 0), (5, .int 1), (4, .int 0), (3, .ref (s.heap.size + 181)), (2, .ref (s.heap.size + 135)), (1, .ref s.heap.size), (0, .ref b)]) hx hb dL_law_723 hl (by decide) rfl (fun ls hl => ?_)
  refine lv_aload_n hx hb dL_law_725 rfl (lv_at hl 4 rfl) ?_
  refine rf_callR (As := []) (W0 := [((s.heap.size + 135), .inr (cRm, [.int 1, .ref (s.heap.size + 135 + 1)]))] ++ [((s.heap.size + 181), .inl (cL, 1, .inr (.inl (fun _ => 0))))]) (V := [((s.heap.size + 135), .inr (cRm, [.int 1, .ref (s.heap.size + 135 + 1)]))]) (q0 := 0) (ci := cRm) (r := (RX6, TX6, 2)) ⟨hx, hb, hml, hown, hts2⟩ (rX6_thrown l D d.1 cB H2.size (s.heap.size + 135) (s.heap.size + 135 + 1) 1) (cwV 0 hts2 gL_law_X6_thrown rfl rfl rfl (by decide +kernel) ⟨Nat.le_of_ble_eq_true rfl, Nat.le_of_ble_eq_true rfl⟩) hK2 (hM2.app hO2) hM2 hS rfl rfl rfl rfl hl.1 (Nat.le_of_ble_eq_true rfl) dL_law_726 ⟨Nat.le_of_ble_eq_true rfl, Nat.le_of_ble_eq_true rfl⟩ rfl (fun r_ H3 locs hp hP3 hS => ?_)
  subst hp
  refine lv_iload hx hb dL_law_729 (lv_at hl 1 rfl) ?_
  refine lv_icmp_eq (tgt := 736) hx hb dL_law_731 (by decide) (fun c_731 => ?_) (fun c_731 => ?_)
  · refine lv_iload hx hb dL_law_736 (lv_at hl 1 rfl) ?_
    refine lv_if_ne (tgt := 753) hx hb dL_law_738 (by decide) (fun c_738 => ?_) (fun c_738 => ?_)
    · refine lv_goto (tgt := 2108) hx hb dL_law_753 (by decide) ?_
      exact lw_tail G hS (Nat.le_of_ble_eq_true rfl) (Nat.le_of_ble_eq_true rfl) (lv_sub hl [2, 6] rfl)
    · exact absurd c_738 (by decide)
  · exact absurd (by decide) c_731
set_option maxHeartbeats 4000000 in
set_option maxRecDepth 100000 in
/-- the law: lw_c8 -/
theorem lw_c8 {p : Program} {l : Launch} {e : Env} {s : State} {m : MethodId} {below : List Frame} {meth : Method} {c : Code} {b : Nat} {D : va_G} {d : hs_Dm} {cB cL : ClassId} {xs : Nat → Int32} (G : lw_G p l s m meth c b D d cB cL xs)  {H : Heap} {locs : List Loc} (hg : rg D (lw_X d cB cL s.heap.size) s.heap.size 182 H) (hz0 : H.size = s.heap.size + 182) (hS : va_S (rg_A s.heap.size) s.heap H locs) {ls : Array Slot} (hl : lv_has ls 9 [(4, .int 0), (3, .ref (s.heap.size + 181)), (2, .ref (s.heap.size + 135)), (1, .ref s.heap.size), (0, .ref b)]) : W p l e room_1 s m #[Value.ref b] below meth c H locs 182 1149 (lw_Z below #[Value.ref b] s) (F0 m 756 ls []) := by
  obtain ⟨hx, hb, hr, hlocks, hml, hown, hts, hl0, hX, hbl, hK, hK2, hKL, hXE⟩ := id G
  have hts2 : ∀ w ∈ wsL_law, w.before #[Value.ref b] s = true := fun w h => hts w (wsL_law_in w h)
  have hbA : ¬ rg_A s.heap.size b := Nat.not_le.mpr hbl
  refine lv_aload_n hx hb dL_law_756 rfl (lv_at hl 3 rfl) ?_
  refine lv_aload_n hx hb dL_law_757 rfl (lv_at hl 4 rfl) ?_
  refine lv_iload hx hb dL_law_758 (lv_at hl 0 rfl) ?_
  refine lv_iconst (v := 1) hx hb dL_law_760 (by decide) ?_
  refine lv_iadd hx hb dL_law_761 ?_
  refine va_sld (i := 0 + 1) hx hb hX hbl hbA hS (by unfold vp_in; decide) dL_law_762 ?_
  rw [show ((0 : Int32) + 1).toNatClampNeg = 1 from by decide]
  refine lv_aload_n hx hb dL_law_763 rfl (lv_at hl 4 rfl) ?_
  refine lv_iload hx hb dL_law_764 (lv_at hl 0 rfl) ?_
  refine lv_iconst (v := 2) hx hb dL_law_766 (by decide) ?_
  refine lv_iadd hx hb dL_law_767 ?_
  refine va_sld (i := 0 + 2) hx hb hX hbl hbA hS (by unfold vp_in; decide) dL_law_768 ?_
  rw [show ((0 : Int32) + 2).toNatClampNeg = 2 from by decide]
  refine lv_aload_n hx hb dL_law_769 rfl (lv_at hl 1 rfl) ?_
  refine lw_help (As := [.ref s.heap.size, .int (xs 1), .int (xs 2), .ref (s.heap.size + 181)]) ⟨hx, hb, hml, hown, hts2⟩ (hT_swap l D d s.heap.size (rc_L (s.heap.size + 1)) (rc_L (s.heap.size + 68)) (lw_A1 s.heap.size) (lw_A2 s.heap.size) (lw_B s.heap.size) (s.heap.size + 181) cL (fun _ => 0) lw_wB (fun _ h => lw_AB h) (Or.inr rfl) lw_oA hl0 (xs 1) (xs 2)) (vx_cwSW 4 hts2 gL_law_L_swap rfl rfl rfl (by decide +kernel) ⟨Nat.le_of_ble_eq_true rfl, Nat.le_of_ble_eq_true rfl⟩) (lw_house hg) (lw_trial hg) hK hXE lw_BB (lw_wax hg) (lw_out hg) hKL hS rfl hl.1 (Nat.le_of_ble_eq_true rfl) dL_law_770 ⟨Nat.le_of_ble_eq_true rfl, Nat.le_of_ble_eq_true rfl⟩ rfl (fun H1 locs hO hq hz hS => ?_)
  have hsz : s.heap.size + 182 ≤ H1.size := by rw [← hz0]; exact hz
  have hP := lw_keep (lw_w_m2 hg) (lw_d_m2 (d := d) (cB := cB)) hq
  refine lv_istore (lv' := [(5, .int 1), (4, .int 0), (3, .ref (s.heap.size + 181)), (2, .ref (s.heap.size + 135)), (1, .ref s.heap.size), (0, .ref b)]) hx hb dL_law_773 hl (by decide) rfl (fun ls hl => ?_)
  refine lv_aload_n hx hb dL_law_775 rfl (lv_at hl 3 rfl) ?_
  refine lv_aload_n hx hb dL_law_776 rfl (lv_at hl 5 rfl) ?_
  refine lv_iload hx hb dL_law_777 (lv_at hl 1 rfl) ?_
  refine lv_iconst (v := 1) hx hb dL_law_779 (by decide) ?_
  refine lv_iadd hx hb dL_law_780 ?_
  refine va_sld (i := 0 + 1) hx hb hX hbl hbA hS (by unfold vp_in; decide) dL_law_781 ?_
  rw [show ((0 : Int32) + 1).toNatClampNeg = 1 from by decide]
  refine lv_aload_n hx hb dL_law_782 rfl (lv_at hl 5 rfl) ?_
  refine lv_iload hx hb dL_law_783 (lv_at hl 1 rfl) ?_
  refine lv_iconst (v := 2) hx hb dL_law_785 (by decide) ?_
  refine lv_iadd hx hb dL_law_786 ?_
  refine va_sld (i := 0 + 2) hx hb hX hbl hbA hS (by unfold vp_in; decide) dL_law_787 ?_
  rw [show ((0 : Int32) + 2).toNatClampNeg = 2 from by decide]
  refine lw_ref (As := [.int (xs 1), .int (xs 2)]) (V := [((s.heap.size + 135), .inr (cRm, [.int 0, .ref (s.heap.size + 135 + 1)])), ((s.heap.size + 135 + 1), .inr (cRh, [.ref (s.heap.size + 135 + 1 + 1), .ref (s.heap.size + 135 + 1 + 12), .ref (s.heap.size + 135 + 1 + 23), .ref (s.heap.size + 135 + 1 + 34), .ref (s.heap.size + 135 + 1 + 43), .ref (s.heap.size + 135 + 1 + 44), .int 0, .int 0, .int 0, .int 0, .int 0, .int 5, .int 200, .int 30]))]) (V2 := [((s.heap.size + 135), .inr (cRm, [.int 1, .ref (s.heap.size + 135 + 1)]))]) (B := lw_M s.heap.size H1.size) (q0 := 0) (ci := cRm) (r := (RX6, TX6, 2)) ⟨hx, hb, hml, hown, hts2⟩ (rX6_swap l D d.1 cB H1.size (s.heap.size + 135) (s.heap.size + 135 + 1) (s.heap.size + 135 + 1 + 1) (s.heap.size + 135 + 1 + 12) (s.heap.size + 135 + 1 + 23) (s.heap.size + 135 + 1 + 34) (s.heap.size + 135 + 1 + 43) (s.heap.size + 135 + 1 + 44) 0 (xs 1) (xs 2) (lw_M s.heap.size H1.size) (lw_lM (lw_d_m2 (d := d) (cB := cB)))) (cwV 2 hts2 gL_law_X6_swap rfl rfl rfl (by decide +kernel) ⟨Nat.le_of_ble_eq_true rfl, Nat.le_of_ble_eq_true rfl⟩) hK2 hP (lw_MB hsz) hS rfl rfl rfl rfl hl.1 (Nat.le_of_ble_eq_true rfl) dL_law_788 ⟨Nat.le_of_ble_eq_true rfl, Nat.le_of_ble_eq_true rfl⟩ rfl (fun r_ H2 locs hp hM2 hq2 hz2 hS => ?_)
  subst hp
  have hO2 := rf_keep1 hO (fun _ => hq2 (s.heap.size + 181) (by omega) (lw_noM hsz))
  refine lv_istore (lv' := [(6, .int 0), (5, .int 1), (4, .int 0), (3, .ref (s.heap.size + 181)), (2, .ref (s.heap.size + 135)), (1, .ref s.heap.size), (0, .ref b)]) hx hb dL_law_791 hl (by decide) rfl (fun ls hl => ?_)
  refine lv_aload_n hx hb dL_law_793 rfl (lv_at hl 4 rfl) ?_
  refine rf_callR (As := []) (W0 := [((s.heap.size + 135), .inr (cRm, [.int 1, .ref (s.heap.size + 135 + 1)]))] ++ [((s.heap.size + 181), .inl (cL, 1, .inr (.inl (fun _ => 0))))]) (V := [((s.heap.size + 135), .inr (cRm, [.int 1, .ref (s.heap.size + 135 + 1)]))]) (q0 := 0) (ci := cRm) (r := (RX6, TX6, 2)) ⟨hx, hb, hml, hown, hts2⟩ (rX6_thrown l D d.1 cB H2.size (s.heap.size + 135) (s.heap.size + 135 + 1) 1) (cwV 0 hts2 gL_law_X6_thrown rfl rfl rfl (by decide +kernel) ⟨Nat.le_of_ble_eq_true rfl, Nat.le_of_ble_eq_true rfl⟩) hK2 (hM2.app hO2) hM2 hS rfl rfl rfl rfl hl.1 (Nat.le_of_ble_eq_true rfl) dL_law_794 ⟨Nat.le_of_ble_eq_true rfl, Nat.le_of_ble_eq_true rfl⟩ rfl (fun r_ H3 locs hp hP3 hS => ?_)
  subst hp
  refine lv_iload hx hb dL_law_797 (lv_at hl 1 rfl) ?_
  refine lv_icmp_eq (tgt := 804) hx hb dL_law_799 (by decide) (fun c_799 => ?_) (fun c_799 => ?_)
  · refine lv_iload hx hb dL_law_804 (lv_at hl 1 rfl) ?_
    refine lv_if_ne (tgt := 821) hx hb dL_law_806 (by decide) (fun c_806 => ?_) (fun c_806 => ?_)
    · refine lv_goto (tgt := 2108) hx hb dL_law_821 (by decide) ?_
      exact lw_tail G hS (Nat.le_of_ble_eq_true rfl) (Nat.le_of_ble_eq_true rfl) (lv_sub hl [2, 6] rfl)
    · exact absurd c_806 (by decide)
  · exact absurd (by decide) c_799
set_option maxHeartbeats 4000000 in
set_option maxRecDepth 100000 in
/-- the law: lw_c9 -/
theorem lw_c9 {p : Program} {l : Launch} {e : Env} {s : State} {m : MethodId} {below : List Frame} {meth : Method} {c : Code} {b : Nat} {D : va_G} {d : hs_Dm} {cB cL : ClassId} {xs : Nat → Int32} (G : lw_G p l s m meth c b D d cB cL xs)  {H : Heap} {locs : List Loc} (hg : rg D (lw_X d cB cL s.heap.size) s.heap.size 182 H) (hz0 : H.size = s.heap.size + 182) (hS : va_S (rg_A s.heap.size) s.heap H locs) {ls : Array Slot} (hl : lv_has ls 9 [(4, .int 0), (3, .ref (s.heap.size + 181)), (2, .ref (s.heap.size + 135)), (1, .ref s.heap.size), (0, .ref b)]) : W p l e room_1 s m #[Value.ref b] below meth c H locs 182 1149 (lw_Z below #[Value.ref b] s) (F0 m 824 ls []) := by
  obtain ⟨hx, hb, hr, hlocks, hml, hown, hts, hl0, hX, hbl, hK, hK2, hKL, hXE⟩ := id G
  have hts2 : ∀ w ∈ wsL_law, w.before #[Value.ref b] s = true := fun w h => hts w (wsL_law_in w h)
  have hbA : ¬ rg_A s.heap.size b := Nat.not_le.mpr hbl
  refine lv_aload_n hx hb dL_law_824 rfl (lv_at hl 3 rfl) ?_
  refine lv_aload_n hx hb dL_law_825 rfl (lv_at hl 4 rfl) ?_
  refine lv_iload hx hb dL_law_826 (lv_at hl 0 rfl) ?_
  refine lv_iconst (v := 1) hx hb dL_law_828 (by decide) ?_
  refine lv_iadd hx hb dL_law_829 ?_
  refine va_sld (i := 0 + 1) hx hb hX hbl hbA hS (by unfold vp_in; decide) dL_law_830 ?_
  rw [show ((0 : Int32) + 1).toNatClampNeg = 1 from by decide]
  refine lv_aload_n hx hb dL_law_831 rfl (lv_at hl 1 rfl) ?_
  refine lw_help (As := [.ref s.heap.size, .int (xs 1), .ref (s.heap.size + 181)]) ⟨hx, hb, hml, hown, hts2⟩ (hT_mend l D d s.heap.size (rc_L (s.heap.size + 1)) (rc_L (s.heap.size + 68)) (lw_A1 s.heap.size) (lw_A2 s.heap.size) (lw_B s.heap.size) (s.heap.size + 181) cL (fun _ => 0) lw_wB (fun _ h => lw_AB h) (Or.inr rfl) lw_oA hl0 (xs 1)) (vx_cwSW 3 hts2 gL_law_L_mend rfl rfl rfl (by decide +kernel) ⟨Nat.le_of_ble_eq_true rfl, Nat.le_of_ble_eq_true rfl⟩) (lw_house hg) (lw_trial hg) hK hXE lw_BB (lw_wax hg) (lw_out hg) hKL hS rfl hl.1 (Nat.le_of_ble_eq_true rfl) dL_law_832 ⟨Nat.le_of_ble_eq_true rfl, Nat.le_of_ble_eq_true rfl⟩ rfl (fun H1 locs hO hq hz hS => ?_)
  have hsz : s.heap.size + 182 ≤ H1.size := by rw [← hz0]; exact hz
  have hP := lw_keep (lw_w_m2 hg) (lw_d_m2 (d := d) (cB := cB)) hq
  refine lv_istore (lv' := [(5, .int 1), (4, .int 0), (3, .ref (s.heap.size + 181)), (2, .ref (s.heap.size + 135)), (1, .ref s.heap.size), (0, .ref b)]) hx hb dL_law_835 hl (by decide) rfl (fun ls hl => ?_)
  refine lv_aload_n hx hb dL_law_837 rfl (lv_at hl 3 rfl) ?_
  refine lv_aload_n hx hb dL_law_838 rfl (lv_at hl 5 rfl) ?_
  refine lv_iload hx hb dL_law_839 (lv_at hl 1 rfl) ?_
  refine lv_iconst (v := 1) hx hb dL_law_841 (by decide) ?_
  refine lv_iadd hx hb dL_law_842 ?_
  refine va_sld (i := 0 + 1) hx hb hX hbl hbA hS (by unfold vp_in; decide) dL_law_843 ?_
  rw [show ((0 : Int32) + 1).toNatClampNeg = 1 from by decide]
  refine lw_ref (As := [.int (xs 1)]) (V := [((s.heap.size + 135), .inr (cRm, [.int 0, .ref (s.heap.size + 135 + 1)])), ((s.heap.size + 135 + 1), .inr (cRh, [.ref (s.heap.size + 135 + 1 + 1), .ref (s.heap.size + 135 + 1 + 12), .ref (s.heap.size + 135 + 1 + 23), .ref (s.heap.size + 135 + 1 + 34), .ref (s.heap.size + 135 + 1 + 43), .ref (s.heap.size + 135 + 1 + 44), .int 0, .int 0, .int 0, .int 0, .int 0, .int 5, .int 200, .int 30]))]) (V2 := [((s.heap.size + 135), .inr (cRm, [.int 1, .ref (s.heap.size + 135 + 1)]))]) (B := lw_M s.heap.size H1.size) (q0 := 0) (ci := cRm) (r := (RX6, TX6, 2)) ⟨hx, hb, hml, hown, hts2⟩ (rX6_mend l D d.1 cB H1.size (s.heap.size + 135) (s.heap.size + 135 + 1) (s.heap.size + 135 + 1 + 1) (s.heap.size + 135 + 1 + 12) (s.heap.size + 135 + 1 + 23) (s.heap.size + 135 + 1 + 34) (s.heap.size + 135 + 1 + 43) (s.heap.size + 135 + 1 + 44) 0 (xs 1) (lw_M s.heap.size H1.size) (lw_lM (lw_d_m2 (d := d) (cB := cB)))) (cwV 1 hts2 gL_law_X6_mend rfl rfl rfl (by decide +kernel) ⟨Nat.le_of_ble_eq_true rfl, Nat.le_of_ble_eq_true rfl⟩) hK2 hP (lw_MB hsz) hS rfl rfl rfl rfl hl.1 (Nat.le_of_ble_eq_true rfl) dL_law_844 ⟨Nat.le_of_ble_eq_true rfl, Nat.le_of_ble_eq_true rfl⟩ rfl (fun r_ H2 locs hp hM2 hq2 hz2 hS => ?_)
  subst hp
  have hO2 := rf_keep1 hO (fun _ => hq2 (s.heap.size + 181) (by omega) (lw_noM hsz))
  refine lv_istore (lv' := [(6, .int 0), (5, .int 1), (4, .int 0), (3, .ref (s.heap.size + 181)), (2, .ref (s.heap.size + 135)), (1, .ref s.heap.size), (0, .ref b)]) hx hb dL_law_847 hl (by decide) rfl (fun ls hl => ?_)
  refine lv_aload_n hx hb dL_law_849 rfl (lv_at hl 4 rfl) ?_
  refine rf_callR (As := []) (W0 := [((s.heap.size + 135), .inr (cRm, [.int 1, .ref (s.heap.size + 135 + 1)]))] ++ [((s.heap.size + 181), .inl (cL, 1, .inr (.inl (fun _ => 0))))]) (V := [((s.heap.size + 135), .inr (cRm, [.int 1, .ref (s.heap.size + 135 + 1)]))]) (q0 := 0) (ci := cRm) (r := (RX6, TX6, 2)) ⟨hx, hb, hml, hown, hts2⟩ (rX6_thrown l D d.1 cB H2.size (s.heap.size + 135) (s.heap.size + 135 + 1) 1) (cwV 0 hts2 gL_law_X6_thrown rfl rfl rfl (by decide +kernel) ⟨Nat.le_of_ble_eq_true rfl, Nat.le_of_ble_eq_true rfl⟩) hK2 (hM2.app hO2) hM2 hS rfl rfl rfl rfl hl.1 (Nat.le_of_ble_eq_true rfl) dL_law_850 ⟨Nat.le_of_ble_eq_true rfl, Nat.le_of_ble_eq_true rfl⟩ rfl (fun r_ H3 locs hp hP3 hS => ?_)
  subst hp
  refine lv_iload hx hb dL_law_853 (lv_at hl 1 rfl) ?_
  refine lv_icmp_eq (tgt := 860) hx hb dL_law_855 (by decide) (fun c_855 => ?_) (fun c_855 => ?_)
  · refine lv_iload hx hb dL_law_860 (lv_at hl 1 rfl) ?_
    refine lv_if_ne (tgt := 877) hx hb dL_law_862 (by decide) (fun c_862 => ?_) (fun c_862 => ?_)
    · refine lv_goto (tgt := 2108) hx hb dL_law_877 (by decide) ?_
      exact lw_tail G hS (Nat.le_of_ble_eq_true rfl) (Nat.le_of_ble_eq_true rfl) (lv_sub hl [2, 6] rfl)
    · exact absurd c_862 (by decide)
  · exact absurd (by decide) c_855
set_option maxHeartbeats 4000000 in
set_option maxRecDepth 100000 in
/-- the law: lw_c10 -/
theorem lw_c10 {p : Program} {l : Launch} {e : Env} {s : State} {m : MethodId} {below : List Frame} {meth : Method} {c : Code} {b : Nat} {D : va_G} {d : hs_Dm} {cB cL : ClassId} {xs : Nat → Int32} (G : lw_G p l s m meth c b D d cB cL xs)  {H : Heap} {locs : List Loc} (hg : rg D (lw_X d cB cL s.heap.size) s.heap.size 182 H) (hz0 : H.size = s.heap.size + 182) (hS : va_S (rg_A s.heap.size) s.heap H locs) {ls : Array Slot} (hl : lv_has ls 9 [(4, .int 0), (3, .ref (s.heap.size + 181)), (2, .ref (s.heap.size + 135)), (1, .ref s.heap.size), (0, .ref b)]) : W p l e room_1 s m #[Value.ref b] below meth c H locs 182 1149 (lw_Z below #[Value.ref b] s) (F0 m 880 ls []) := by
  obtain ⟨hx, hb, hr, hlocks, hml, hown, hts, hl0, hX, hbl, hK, hK2, hKL, hXE⟩ := id G
  have hts2 : ∀ w ∈ wsL_law, w.before #[Value.ref b] s = true := fun w h => hts w (wsL_law_in w h)
  have hbA : ¬ rg_A s.heap.size b := Nat.not_le.mpr hbl
  refine lv_aload_n hx hb dL_law_880 rfl (lv_at hl 3 rfl) ?_
  refine lv_aload_n hx hb dL_law_881 rfl (lv_at hl 4 rfl) ?_
  refine lv_iload hx hb dL_law_882 (lv_at hl 0 rfl) ?_
  refine lv_iconst (v := 1) hx hb dL_law_884 (by decide) ?_
  refine lv_iadd hx hb dL_law_885 ?_
  refine va_sld (i := 0 + 1) hx hb hX hbl hbA hS (by unfold vp_in; decide) dL_law_886 ?_
  rw [show ((0 : Int32) + 1).toNatClampNeg = 1 from by decide]
  refine lv_aload_n hx hb dL_law_887 rfl (lv_at hl 1 rfl) ?_
  refine lw_help (As := [.ref s.heap.size, .int (xs 1), .ref (s.heap.size + 181)]) ⟨hx, hb, hml, hown, hts2⟩ (hT_melt l D d s.heap.size (rc_L (s.heap.size + 1)) (rc_L (s.heap.size + 68)) (lw_A1 s.heap.size) (lw_A2 s.heap.size) (lw_B s.heap.size) (s.heap.size + 181) cL (fun _ => 0) lw_wB (fun _ h => lw_AB h) (Or.inr rfl) lw_oA hl0 (xs 1)) (vx_cwSW 3 hts2 gL_law_L_melt rfl rfl rfl (by decide +kernel) ⟨Nat.le_of_ble_eq_true rfl, Nat.le_of_ble_eq_true rfl⟩) (lw_house hg) (lw_trial hg) hK hXE lw_BB (lw_wax hg) (lw_out hg) hKL hS rfl hl.1 (Nat.le_of_ble_eq_true rfl) dL_law_888 ⟨Nat.le_of_ble_eq_true rfl, Nat.le_of_ble_eq_true rfl⟩ rfl (fun H1 locs hO hq hz hS => ?_)
  have hsz : s.heap.size + 182 ≤ H1.size := by rw [← hz0]; exact hz
  have hP := lw_keep (lw_w_m2 hg) (lw_d_m2 (d := d) (cB := cB)) hq
  refine lv_istore (lv' := [(5, .int 1), (4, .int 0), (3, .ref (s.heap.size + 181)), (2, .ref (s.heap.size + 135)), (1, .ref s.heap.size), (0, .ref b)]) hx hb dL_law_891 hl (by decide) rfl (fun ls hl => ?_)
  refine lv_aload_n hx hb dL_law_893 rfl (lv_at hl 3 rfl) ?_
  refine lv_aload_n hx hb dL_law_894 rfl (lv_at hl 5 rfl) ?_
  refine lv_iload hx hb dL_law_895 (lv_at hl 1 rfl) ?_
  refine lv_iconst (v := 1) hx hb dL_law_897 (by decide) ?_
  refine lv_iadd hx hb dL_law_898 ?_
  refine va_sld (i := 0 + 1) hx hb hX hbl hbA hS (by unfold vp_in; decide) dL_law_899 ?_
  rw [show ((0 : Int32) + 1).toNatClampNeg = 1 from by decide]
  refine lw_ref (As := [.int (xs 1)]) (V := [((s.heap.size + 135), .inr (cRm, [.int 0, .ref (s.heap.size + 135 + 1)])), ((s.heap.size + 135 + 1), .inr (cRh, [.ref (s.heap.size + 135 + 1 + 1), .ref (s.heap.size + 135 + 1 + 12), .ref (s.heap.size + 135 + 1 + 23), .ref (s.heap.size + 135 + 1 + 34), .ref (s.heap.size + 135 + 1 + 43), .ref (s.heap.size + 135 + 1 + 44), .int 0, .int 0, .int 0, .int 0, .int 0, .int 5, .int 200, .int 30]))]) (V2 := [((s.heap.size + 135), .inr (cRm, [.int 1, .ref (s.heap.size + 135 + 1)]))]) (B := lw_M s.heap.size H1.size) (q0 := 0) (ci := cRm) (r := (RX6, TX6, 2)) ⟨hx, hb, hml, hown, hts2⟩ (rX6_melt l D d.1 cB H1.size (s.heap.size + 135) (s.heap.size + 135 + 1) (s.heap.size + 135 + 1 + 1) (s.heap.size + 135 + 1 + 12) (s.heap.size + 135 + 1 + 23) (s.heap.size + 135 + 1 + 34) (s.heap.size + 135 + 1 + 43) (s.heap.size + 135 + 1 + 44) 0 (xs 1) (lw_M s.heap.size H1.size) (lw_lM (lw_d_m2 (d := d) (cB := cB)))) (cwV 1 hts2 gL_law_X6_melt rfl rfl rfl (by decide +kernel) ⟨Nat.le_of_ble_eq_true rfl, Nat.le_of_ble_eq_true rfl⟩) hK2 hP (lw_MB hsz) hS rfl rfl rfl rfl hl.1 (Nat.le_of_ble_eq_true rfl) dL_law_900 ⟨Nat.le_of_ble_eq_true rfl, Nat.le_of_ble_eq_true rfl⟩ rfl (fun r_ H2 locs hp hM2 hq2 hz2 hS => ?_)
  subst hp
  have hO2 := rf_keep1 hO (fun _ => hq2 (s.heap.size + 181) (by omega) (lw_noM hsz))
  refine lv_istore (lv' := [(6, .int 0), (5, .int 1), (4, .int 0), (3, .ref (s.heap.size + 181)), (2, .ref (s.heap.size + 135)), (1, .ref s.heap.size), (0, .ref b)]) hx hb dL_law_903 hl (by decide) rfl (fun ls hl => ?_)
  refine lv_aload_n hx hb dL_law_905 rfl (lv_at hl 4 rfl) ?_
  refine rf_callR (As := []) (W0 := [((s.heap.size + 135), .inr (cRm, [.int 1, .ref (s.heap.size + 135 + 1)]))] ++ [((s.heap.size + 181), .inl (cL, 1, .inr (.inl (fun _ => 0))))]) (V := [((s.heap.size + 135), .inr (cRm, [.int 1, .ref (s.heap.size + 135 + 1)]))]) (q0 := 0) (ci := cRm) (r := (RX6, TX6, 2)) ⟨hx, hb, hml, hown, hts2⟩ (rX6_thrown l D d.1 cB H2.size (s.heap.size + 135) (s.heap.size + 135 + 1) 1) (cwV 0 hts2 gL_law_X6_thrown rfl rfl rfl (by decide +kernel) ⟨Nat.le_of_ble_eq_true rfl, Nat.le_of_ble_eq_true rfl⟩) hK2 (hM2.app hO2) hM2 hS rfl rfl rfl rfl hl.1 (Nat.le_of_ble_eq_true rfl) dL_law_906 ⟨Nat.le_of_ble_eq_true rfl, Nat.le_of_ble_eq_true rfl⟩ rfl (fun r_ H3 locs hp hP3 hS => ?_)
  subst hp
  refine lv_iload hx hb dL_law_909 (lv_at hl 1 rfl) ?_
  refine lv_icmp_eq (tgt := 916) hx hb dL_law_911 (by decide) (fun c_911 => ?_) (fun c_911 => ?_)
  · refine lv_iload hx hb dL_law_916 (lv_at hl 1 rfl) ?_
    refine lv_if_ne (tgt := 933) hx hb dL_law_918 (by decide) (fun c_918 => ?_) (fun c_918 => ?_)
    · refine lv_goto (tgt := 2108) hx hb dL_law_933 (by decide) ?_
      exact lw_tail G hS (Nat.le_of_ble_eq_true rfl) (Nat.le_of_ble_eq_true rfl) (lv_sub hl [2, 6] rfl)
    · exact absurd c_918 (by decide)
  · exact absurd (by decide) c_911
set_option maxHeartbeats 4000000 in
set_option maxRecDepth 100000 in
/-- the law: lw_c11 -/
theorem lw_c11 {p : Program} {l : Launch} {e : Env} {s : State} {m : MethodId} {below : List Frame} {meth : Method} {c : Code} {b : Nat} {D : va_G} {d : hs_Dm} {cB cL : ClassId} {xs : Nat → Int32} (G : lw_G p l s m meth c b D d cB cL xs)  {H : Heap} {locs : List Loc} (hg : rg D (lw_X d cB cL s.heap.size) s.heap.size 182 H) (hz0 : H.size = s.heap.size + 182) (hS : va_S (rg_A s.heap.size) s.heap H locs) {ls : Array Slot} (hl : lv_has ls 9 [(4, .int 0), (3, .ref (s.heap.size + 181)), (2, .ref (s.heap.size + 135)), (1, .ref s.heap.size), (0, .ref b)]) : W p l e room_1 s m #[Value.ref b] below meth c H locs 182 1149 (lw_Z below #[Value.ref b] s) (F0 m 936 ls []) := by
  obtain ⟨hx, hb, hr, hlocks, hml, hown, hts, hl0, hX, hbl, hK, hK2, hKL, hXE⟩ := id G
  have hts2 : ∀ w ∈ wsL_law, w.before #[Value.ref b] s = true := fun w h => hts w (wsL_law_in w h)
  have hbA : ¬ rg_A s.heap.size b := Nat.not_le.mpr hbl
  refine lv_aload_n hx hb dL_law_936 rfl (lv_at hl 3 rfl) ?_
  refine lv_aload_n hx hb dL_law_937 rfl (lv_at hl 4 rfl) ?_
  refine lv_iload hx hb dL_law_938 (lv_at hl 0 rfl) ?_
  refine lv_iconst (v := 1) hx hb dL_law_940 (by decide) ?_
  refine lv_iadd hx hb dL_law_941 ?_
  refine va_sld (i := 0 + 1) hx hb hX hbl hbA hS (by unfold vp_in; decide) dL_law_942 ?_
  rw [show ((0 : Int32) + 1).toNatClampNeg = 1 from by decide]
  refine lv_aload_n hx hb dL_law_943 rfl (lv_at hl 4 rfl) ?_
  refine lv_iload hx hb dL_law_944 (lv_at hl 0 rfl) ?_
  refine lv_iconst (v := 2) hx hb dL_law_946 (by decide) ?_
  refine lv_iadd hx hb dL_law_947 ?_
  refine va_sld (i := 0 + 2) hx hb hX hbl hbA hS (by unfold vp_in; decide) dL_law_948 ?_
  rw [show ((0 : Int32) + 2).toNatClampNeg = 2 from by decide]
  refine lv_aload_n hx hb dL_law_949 rfl (lv_at hl 4 rfl) ?_
  refine lv_iload hx hb dL_law_950 (lv_at hl 0 rfl) ?_
  refine lv_iconst (v := 3) hx hb dL_law_952 (by decide) ?_
  refine lv_iadd hx hb dL_law_953 ?_
  refine va_sld (i := 0 + 3) hx hb hX hbl hbA hS (by unfold vp_in; decide) dL_law_954 ?_
  rw [show ((0 : Int32) + 3).toNatClampNeg = 3 from by decide]
  refine lv_aload_n hx hb dL_law_955 rfl (lv_at hl 1 rfl) ?_
  refine lw_help (As := [.ref s.heap.size, .int (xs 1), .int (xs 2), .int (xs 3), .ref (s.heap.size + 181)]) ⟨hx, hb, hml, hown, hts2⟩ (hT_tour l D d s.heap.size (rc_L (s.heap.size + 1)) (rc_L (s.heap.size + 68)) (lw_A1 s.heap.size) (lw_A2 s.heap.size) (lw_B s.heap.size) (s.heap.size + 181) cL (fun _ => 0) lw_wB (fun _ h => lw_AB h) (Or.inr rfl) lw_oA hl0 (xs 1) (xs 2) (xs 3)) (vx_cwSW 5 hts2 gL_law_L_tour rfl rfl rfl (by decide +kernel) ⟨Nat.le_of_ble_eq_true rfl, Nat.le_of_ble_eq_true rfl⟩) (lw_house hg) (lw_trial hg) hK hXE lw_BB (lw_wax hg) (lw_out hg) hKL hS rfl hl.1 (Nat.le_of_ble_eq_true rfl) dL_law_956 ⟨Nat.le_of_ble_eq_true rfl, Nat.le_of_ble_eq_true rfl⟩ rfl (fun H1 locs hO hq hz hS => ?_)
  have hsz : s.heap.size + 182 ≤ H1.size := by rw [← hz0]; exact hz
  have hP := lw_keep (lw_w_m2 hg) (lw_d_m2 (d := d) (cB := cB)) hq
  refine lv_istore (lv' := [(5, .int 1), (4, .int 0), (3, .ref (s.heap.size + 181)), (2, .ref (s.heap.size + 135)), (1, .ref s.heap.size), (0, .ref b)]) hx hb dL_law_959 hl (by decide) rfl (fun ls hl => ?_)
  refine lv_aload_n hx hb dL_law_961 rfl (lv_at hl 3 rfl) ?_
  refine lv_aload_n hx hb dL_law_962 rfl (lv_at hl 5 rfl) ?_
  refine lv_iload hx hb dL_law_963 (lv_at hl 1 rfl) ?_
  refine lv_iconst (v := 1) hx hb dL_law_965 (by decide) ?_
  refine lv_iadd hx hb dL_law_966 ?_
  refine va_sld (i := 0 + 1) hx hb hX hbl hbA hS (by unfold vp_in; decide) dL_law_967 ?_
  rw [show ((0 : Int32) + 1).toNatClampNeg = 1 from by decide]
  refine lv_aload_n hx hb dL_law_968 rfl (lv_at hl 5 rfl) ?_
  refine lv_iload hx hb dL_law_969 (lv_at hl 1 rfl) ?_
  refine lv_iconst (v := 2) hx hb dL_law_971 (by decide) ?_
  refine lv_iadd hx hb dL_law_972 ?_
  refine va_sld (i := 0 + 2) hx hb hX hbl hbA hS (by unfold vp_in; decide) dL_law_973 ?_
  rw [show ((0 : Int32) + 2).toNatClampNeg = 2 from by decide]
  refine lv_aload_n hx hb dL_law_974 rfl (lv_at hl 5 rfl) ?_
  refine lv_iload hx hb dL_law_975 (lv_at hl 1 rfl) ?_
  refine lv_iconst (v := 3) hx hb dL_law_977 (by decide) ?_
  refine lv_iadd hx hb dL_law_978 ?_
  refine va_sld (i := 0 + 3) hx hb hX hbl hbA hS (by unfold vp_in; decide) dL_law_979 ?_
  rw [show ((0 : Int32) + 3).toNatClampNeg = 3 from by decide]
  refine lw_ref (As := [.int (xs 1), .int (xs 2), .int (xs 3)]) (V := [((s.heap.size + 135), .inr (cRm, [.int 0, .ref (s.heap.size + 135 + 1)])), ((s.heap.size + 135 + 1), .inr (cRh, [.ref (s.heap.size + 135 + 1 + 1), .ref (s.heap.size + 135 + 1 + 12), .ref (s.heap.size + 135 + 1 + 23), .ref (s.heap.size + 135 + 1 + 34), .ref (s.heap.size + 135 + 1 + 43), .ref (s.heap.size + 135 + 1 + 44), .int 0, .int 0, .int 0, .int 0, .int 0, .int 5, .int 200, .int 30]))]) (V2 := [((s.heap.size + 135), .inr (cRm, [.int 1, .ref (s.heap.size + 135 + 1)]))]) (B := lw_M s.heap.size H1.size) (q0 := 0) (ci := cRm) (r := (RX6, TX6, 2)) ⟨hx, hb, hml, hown, hts2⟩ (rX6_tour l D d.1 cB H1.size (s.heap.size + 135) (s.heap.size + 135 + 1) (s.heap.size + 135 + 1 + 1) (s.heap.size + 135 + 1 + 12) (s.heap.size + 135 + 1 + 23) (s.heap.size + 135 + 1 + 34) (s.heap.size + 135 + 1 + 43) (s.heap.size + 135 + 1 + 44) 0 (xs 1) (xs 2) (xs 3) (lw_M s.heap.size H1.size) (lw_lM (lw_d_m2 (d := d) (cB := cB)))) (cwV 3 hts2 gL_law_X6_tour rfl rfl rfl (by decide +kernel) ⟨Nat.le_of_ble_eq_true rfl, Nat.le_of_ble_eq_true rfl⟩) hK2 hP (lw_MB hsz) hS rfl rfl rfl rfl hl.1 (Nat.le_of_ble_eq_true rfl) dL_law_980 ⟨Nat.le_of_ble_eq_true rfl, Nat.le_of_ble_eq_true rfl⟩ rfl (fun r_ H2 locs hp hM2 hq2 hz2 hS => ?_)
  subst hp
  have hO2 := rf_keep1 hO (fun _ => hq2 (s.heap.size + 181) (by omega) (lw_noM hsz))
  refine lv_istore (lv' := [(6, .int 0), (5, .int 1), (4, .int 0), (3, .ref (s.heap.size + 181)), (2, .ref (s.heap.size + 135)), (1, .ref s.heap.size), (0, .ref b)]) hx hb dL_law_983 hl (by decide) rfl (fun ls hl => ?_)
  refine lv_aload_n hx hb dL_law_985 rfl (lv_at hl 4 rfl) ?_
  refine rf_callR (As := []) (W0 := [((s.heap.size + 135), .inr (cRm, [.int 1, .ref (s.heap.size + 135 + 1)]))] ++ [((s.heap.size + 181), .inl (cL, 1, .inr (.inl (fun _ => 0))))]) (V := [((s.heap.size + 135), .inr (cRm, [.int 1, .ref (s.heap.size + 135 + 1)]))]) (q0 := 0) (ci := cRm) (r := (RX6, TX6, 2)) ⟨hx, hb, hml, hown, hts2⟩ (rX6_thrown l D d.1 cB H2.size (s.heap.size + 135) (s.heap.size + 135 + 1) 1) (cwV 0 hts2 gL_law_X6_thrown rfl rfl rfl (by decide +kernel) ⟨Nat.le_of_ble_eq_true rfl, Nat.le_of_ble_eq_true rfl⟩) hK2 (hM2.app hO2) hM2 hS rfl rfl rfl rfl hl.1 (Nat.le_of_ble_eq_true rfl) dL_law_986 ⟨Nat.le_of_ble_eq_true rfl, Nat.le_of_ble_eq_true rfl⟩ rfl (fun r_ H3 locs hp hP3 hS => ?_)
  subst hp
  refine lv_iload hx hb dL_law_989 (lv_at hl 1 rfl) ?_
  refine lv_icmp_eq (tgt := 996) hx hb dL_law_991 (by decide) (fun c_991 => ?_) (fun c_991 => ?_)
  · refine lv_iload hx hb dL_law_996 (lv_at hl 1 rfl) ?_
    refine lv_if_ne (tgt := 1013) hx hb dL_law_998 (by decide) (fun c_998 => ?_) (fun c_998 => ?_)
    · refine lv_goto (tgt := 2108) hx hb dL_law_1013 (by decide) ?_
      exact lw_tail G hS (Nat.le_of_ble_eq_true rfl) (Nat.le_of_ble_eq_true rfl) (lv_sub hl [2, 6] rfl)
    · exact absurd c_998 (by decide)
  · exact absurd (by decide) c_991
set_option maxHeartbeats 4000000 in
set_option maxRecDepth 100000 in
/-- the law: lw_c14 -/
theorem lw_c14 {p : Program} {l : Launch} {e : Env} {s : State} {m : MethodId} {below : List Frame} {meth : Method} {c : Code} {b : Nat} {D : va_G} {d : hs_Dm} {cB cL : ClassId} {xs : Nat → Int32} (G : lw_G p l s m meth c b D d cB cL xs)  {H : Heap} {locs : List Loc} (hg : rg D (lw_X d cB cL s.heap.size) s.heap.size 182 H) (hz0 : H.size = s.heap.size + 182) (hS : va_S (rg_A s.heap.size) s.heap H locs) {ls : Array Slot} (hl : lv_has ls 9 [(4, .int 0), (3, .ref (s.heap.size + 181)), (2, .ref (s.heap.size + 135)), (1, .ref s.heap.size), (0, .ref b)]) : W p l e room_1 s m #[Value.ref b] below meth c H locs 182 1149 (lw_Z below #[Value.ref b] s) (F0 m 1152 ls []) := by
  obtain ⟨hx, hb, hr, hlocks, hml, hown, hts, hl0, hX, hbl, hK, hK2, hKL, hXE⟩ := id G
  have hts2 : ∀ w ∈ wsL_law, w.before #[Value.ref b] s = true := fun w h => hts w (wsL_law_in w h)
  have hbA : ¬ rg_A s.heap.size b := Nat.not_le.mpr hbl
  refine lv_aload_n hx hb dL_law_1152 rfl (lv_at hl 3 rfl) ?_
  refine lv_aload_n hx hb dL_law_1153 rfl (lv_at hl 4 rfl) ?_
  refine lv_iload hx hb dL_law_1154 (lv_at hl 0 rfl) ?_
  refine lv_iconst (v := 1) hx hb dL_law_1156 (by decide) ?_
  refine lv_iadd hx hb dL_law_1157 ?_
  refine va_sld (i := 0 + 1) hx hb hX hbl hbA hS (by unfold vp_in; decide) dL_law_1158 ?_
  rw [show ((0 : Int32) + 1).toNatClampNeg = 1 from by decide]
  refine lv_aload_n hx hb dL_law_1159 rfl (lv_at hl 4 rfl) ?_
  refine lv_iload hx hb dL_law_1160 (lv_at hl 0 rfl) ?_
  refine lv_iconst (v := 2) hx hb dL_law_1162 (by decide) ?_
  refine lv_iadd hx hb dL_law_1163 ?_
  refine va_sld (i := 0 + 2) hx hb hX hbl hbA hS (by unfold vp_in; decide) dL_law_1164 ?_
  rw [show ((0 : Int32) + 2).toNatClampNeg = 2 from by decide]
  refine lv_aload_n hx hb dL_law_1165 rfl (lv_at hl 1 rfl) ?_
  refine lw_help (As := [.ref s.heap.size, .int (xs 1), .int (xs 2), .ref (s.heap.size + 181)]) ⟨hx, hb, hml, hown, hts2⟩ (hT_show l D d s.heap.size (rc_L (s.heap.size + 1)) (rc_L (s.heap.size + 68)) (lw_A1 s.heap.size) (lw_A2 s.heap.size) (lw_B s.heap.size) (s.heap.size + 181) cL (fun _ => 0) lw_wB (fun _ h => lw_AB h) (Or.inr rfl) lw_oA hl0 (xs 1) (xs 2)) (vx_cwSW 4 hts2 gL_law_L_show rfl rfl rfl (by decide +kernel) ⟨Nat.le_of_ble_eq_true rfl, Nat.le_of_ble_eq_true rfl⟩) (lw_house hg) (lw_trial hg) hK hXE lw_BB (lw_wax hg) (lw_out hg) hKL hS rfl hl.1 (Nat.le_of_ble_eq_true rfl) dL_law_1166 ⟨Nat.le_of_ble_eq_true rfl, Nat.le_of_ble_eq_true rfl⟩ rfl (fun H1 locs hO hq hz hS => ?_)
  have hsz : s.heap.size + 182 ≤ H1.size := by rw [← hz0]; exact hz
  have hP := lw_keep (lw_w_m2 hg) (lw_d_m2 (d := d) (cB := cB)) hq
  refine lv_istore (lv' := [(5, .int 1), (4, .int 0), (3, .ref (s.heap.size + 181)), (2, .ref (s.heap.size + 135)), (1, .ref s.heap.size), (0, .ref b)]) hx hb dL_law_1169 hl (by decide) rfl (fun ls hl => ?_)
  refine lv_aload_n hx hb dL_law_1171 rfl (lv_at hl 3 rfl) ?_
  refine lv_aload_n hx hb dL_law_1172 rfl (lv_at hl 5 rfl) ?_
  refine lv_iload hx hb dL_law_1173 (lv_at hl 1 rfl) ?_
  refine lv_iconst (v := 1) hx hb dL_law_1175 (by decide) ?_
  refine lv_iadd hx hb dL_law_1176 ?_
  refine va_sld (i := 0 + 1) hx hb hX hbl hbA hS (by unfold vp_in; decide) dL_law_1177 ?_
  rw [show ((0 : Int32) + 1).toNatClampNeg = 1 from by decide]
  refine lv_aload_n hx hb dL_law_1178 rfl (lv_at hl 5 rfl) ?_
  refine lv_iload hx hb dL_law_1179 (lv_at hl 1 rfl) ?_
  refine lv_iconst (v := 2) hx hb dL_law_1181 (by decide) ?_
  refine lv_iadd hx hb dL_law_1182 ?_
  refine va_sld (i := 0 + 2) hx hb hX hbl hbA hS (by unfold vp_in; decide) dL_law_1183 ?_
  rw [show ((0 : Int32) + 2).toNatClampNeg = 2 from by decide]
  refine lw_ref (As := [.int (xs 1), .int (xs 2)]) (V := [((s.heap.size + 135), .inr (cRm, [.int 0, .ref (s.heap.size + 135 + 1)])), ((s.heap.size + 135 + 1), .inr (cRh, [.ref (s.heap.size + 135 + 1 + 1), .ref (s.heap.size + 135 + 1 + 12), .ref (s.heap.size + 135 + 1 + 23), .ref (s.heap.size + 135 + 1 + 34), .ref (s.heap.size + 135 + 1 + 43), .ref (s.heap.size + 135 + 1 + 44), .int 0, .int 0, .int 0, .int 0, .int 0, .int 5, .int 200, .int 30]))]) (V2 := [((s.heap.size + 135), .inr (cRm, [.int 1, .ref (s.heap.size + 135 + 1)]))]) (B := lw_M s.heap.size H1.size) (q0 := 0) (ci := cRm) (r := (RX6, TX6, 2)) ⟨hx, hb, hml, hown, hts2⟩ (rX6_show l D d.1 cB H1.size (s.heap.size + 135) (s.heap.size + 135 + 1) (s.heap.size + 135 + 1 + 1) (s.heap.size + 135 + 1 + 12) (s.heap.size + 135 + 1 + 23) (s.heap.size + 135 + 1 + 34) (s.heap.size + 135 + 1 + 43) (s.heap.size + 135 + 1 + 44) 0 (xs 1) (xs 2) (lw_M s.heap.size H1.size) (lw_lM (lw_d_m2 (d := d) (cB := cB)))) (cwV 2 hts2 gL_law_X6_show rfl rfl rfl (by decide +kernel) ⟨Nat.le_of_ble_eq_true rfl, Nat.le_of_ble_eq_true rfl⟩) hK2 hP (lw_MB hsz) hS rfl rfl rfl rfl hl.1 (Nat.le_of_ble_eq_true rfl) dL_law_1184 ⟨Nat.le_of_ble_eq_true rfl, Nat.le_of_ble_eq_true rfl⟩ rfl (fun r_ H2 locs hp hM2 hq2 hz2 hS => ?_)
  subst hp
  have hO2 := rf_keep1 hO (fun _ => hq2 (s.heap.size + 181) (by omega) (lw_noM hsz))
  refine lv_istore (lv' := [(6, .int 0), (5, .int 1), (4, .int 0), (3, .ref (s.heap.size + 181)), (2, .ref (s.heap.size + 135)), (1, .ref s.heap.size), (0, .ref b)]) hx hb dL_law_1187 hl (by decide) rfl (fun ls hl => ?_)
  refine lv_aload_n hx hb dL_law_1189 rfl (lv_at hl 4 rfl) ?_
  refine rf_callR (As := []) (W0 := [((s.heap.size + 135), .inr (cRm, [.int 1, .ref (s.heap.size + 135 + 1)]))] ++ [((s.heap.size + 181), .inl (cL, 1, .inr (.inl (fun _ => 0))))]) (V := [((s.heap.size + 135), .inr (cRm, [.int 1, .ref (s.heap.size + 135 + 1)]))]) (q0 := 0) (ci := cRm) (r := (RX6, TX6, 2)) ⟨hx, hb, hml, hown, hts2⟩ (rX6_thrown l D d.1 cB H2.size (s.heap.size + 135) (s.heap.size + 135 + 1) 1) (cwV 0 hts2 gL_law_X6_thrown rfl rfl rfl (by decide +kernel) ⟨Nat.le_of_ble_eq_true rfl, Nat.le_of_ble_eq_true rfl⟩) hK2 (hM2.app hO2) hM2 hS rfl rfl rfl rfl hl.1 (Nat.le_of_ble_eq_true rfl) dL_law_1190 ⟨Nat.le_of_ble_eq_true rfl, Nat.le_of_ble_eq_true rfl⟩ rfl (fun r_ H3 locs hp hP3 hS => ?_)
  subst hp
  refine lv_iload hx hb dL_law_1193 (lv_at hl 1 rfl) ?_
  refine lv_icmp_eq (tgt := 1200) hx hb dL_law_1195 (by decide) (fun c_1195 => ?_) (fun c_1195 => ?_)
  · refine lv_iload hx hb dL_law_1200 (lv_at hl 1 rfl) ?_
    refine lv_if_ne (tgt := 1217) hx hb dL_law_1202 (by decide) (fun c_1202 => ?_) (fun c_1202 => ?_)
    · refine lv_goto (tgt := 2108) hx hb dL_law_1217 (by decide) ?_
      exact lw_tail G hS (Nat.le_of_ble_eq_true rfl) (Nat.le_of_ble_eq_true rfl) (lv_sub hl [2, 6] rfl)
    · exact absurd c_1202 (by decide)
  · exact absurd (by decide) c_1195
set_option maxHeartbeats 4000000 in
set_option maxRecDepth 100000 in
/-- the law: lw_c15 -/
theorem lw_c15 {p : Program} {l : Launch} {e : Env} {s : State} {m : MethodId} {below : List Frame} {meth : Method} {c : Code} {b : Nat} {D : va_G} {d : hs_Dm} {cB cL : ClassId} {xs : Nat → Int32} (G : lw_G p l s m meth c b D d cB cL xs)  {H : Heap} {locs : List Loc} (hg : rg D (lw_X d cB cL s.heap.size) s.heap.size 182 H) (hz0 : H.size = s.heap.size + 182) (hS : va_S (rg_A s.heap.size) s.heap H locs) {ls : Array Slot} (hl : lv_has ls 9 [(4, .int 0), (3, .ref (s.heap.size + 181)), (2, .ref (s.heap.size + 135)), (1, .ref s.heap.size), (0, .ref b)]) : W p l e room_1 s m #[Value.ref b] below meth c H locs 182 1149 (lw_Z below #[Value.ref b] s) (F0 m 1220 ls []) := by
  obtain ⟨hx, hb, hr, hlocks, hml, hown, hts, hl0, hX, hbl, hK, hK2, hKL, hXE⟩ := id G
  have hts2 : ∀ w ∈ wsL_law, w.before #[Value.ref b] s = true := fun w h => hts w (wsL_law_in w h)
  have hbA : ¬ rg_A s.heap.size b := Nat.not_le.mpr hbl
  refine lv_aload_n hx hb dL_law_1220 rfl (lv_at hl 3 rfl) ?_
  refine lv_aload_n hx hb dL_law_1221 rfl (lv_at hl 4 rfl) ?_
  refine lv_iload hx hb dL_law_1222 (lv_at hl 0 rfl) ?_
  refine lv_iconst (v := 1) hx hb dL_law_1224 (by decide) ?_
  refine lv_iadd hx hb dL_law_1225 ?_
  refine va_sld (i := 0 + 1) hx hb hX hbl hbA hS (by unfold vp_in; decide) dL_law_1226 ?_
  rw [show ((0 : Int32) + 1).toNatClampNeg = 1 from by decide]
  refine lv_aload_n hx hb dL_law_1227 rfl (lv_at hl 1 rfl) ?_
  refine lw_help (As := [.ref s.heap.size, .int (xs 1), .ref (s.heap.size + 181)]) ⟨hx, hb, hml, hown, hts2⟩ (hT_take l D d s.heap.size (rc_L (s.heap.size + 1)) (rc_L (s.heap.size + 68)) (lw_A1 s.heap.size) (lw_A2 s.heap.size) (lw_B s.heap.size) (s.heap.size + 181) cL (fun _ => 0) lw_wB (fun _ h => lw_AB h) (Or.inr rfl) lw_oA hl0 (xs 1)) (vx_cwSW 3 hts2 gL_law_L_take rfl rfl rfl (by decide +kernel) ⟨Nat.le_of_ble_eq_true rfl, Nat.le_of_ble_eq_true rfl⟩) (lw_house hg) (lw_trial hg) hK hXE lw_BB (lw_wax hg) (lw_out hg) hKL hS rfl hl.1 (Nat.le_of_ble_eq_true rfl) dL_law_1228 ⟨Nat.le_of_ble_eq_true rfl, Nat.le_of_ble_eq_true rfl⟩ rfl (fun H1 locs hO hq hz hS => ?_)
  have hsz : s.heap.size + 182 ≤ H1.size := by rw [← hz0]; exact hz
  have hP := lw_keep (lw_w_m2 hg) (lw_d_m2 (d := d) (cB := cB)) hq
  refine lv_istore (lv' := [(5, .int 1), (4, .int 0), (3, .ref (s.heap.size + 181)), (2, .ref (s.heap.size + 135)), (1, .ref s.heap.size), (0, .ref b)]) hx hb dL_law_1231 hl (by decide) rfl (fun ls hl => ?_)
  refine lv_aload_n hx hb dL_law_1233 rfl (lv_at hl 3 rfl) ?_
  refine lv_aload_n hx hb dL_law_1234 rfl (lv_at hl 5 rfl) ?_
  refine lv_iload hx hb dL_law_1235 (lv_at hl 1 rfl) ?_
  refine lv_iconst (v := 1) hx hb dL_law_1237 (by decide) ?_
  refine lv_iadd hx hb dL_law_1238 ?_
  refine va_sld (i := 0 + 1) hx hb hX hbl hbA hS (by unfold vp_in; decide) dL_law_1239 ?_
  rw [show ((0 : Int32) + 1).toNatClampNeg = 1 from by decide]
  refine lw_ref (As := [.int (xs 1)]) (V := [((s.heap.size + 135), .inr (cRm, [.int 0, .ref (s.heap.size + 135 + 1)])), ((s.heap.size + 135 + 1), .inr (cRh, [.ref (s.heap.size + 135 + 1 + 1), .ref (s.heap.size + 135 + 1 + 12), .ref (s.heap.size + 135 + 1 + 23), .ref (s.heap.size + 135 + 1 + 34), .ref (s.heap.size + 135 + 1 + 43), .ref (s.heap.size + 135 + 1 + 44), .int 0, .int 0, .int 0, .int 0, .int 0, .int 5, .int 200, .int 30]))]) (V2 := [((s.heap.size + 135), .inr (cRm, [.int 1, .ref (s.heap.size + 135 + 1)]))]) (B := lw_M s.heap.size H1.size) (q0 := 0) (ci := cRm) (r := (RX6, TX6, 2)) ⟨hx, hb, hml, hown, hts2⟩ (rX6_take l D d.1 cB H1.size (s.heap.size + 135) (s.heap.size + 135 + 1) (s.heap.size + 135 + 1 + 1) (s.heap.size + 135 + 1 + 12) (s.heap.size + 135 + 1 + 23) (s.heap.size + 135 + 1 + 34) (s.heap.size + 135 + 1 + 43) (s.heap.size + 135 + 1 + 44) 0 (xs 1) (lw_M s.heap.size H1.size) (lw_lM (lw_d_m2 (d := d) (cB := cB)))) (cwV 1 hts2 gL_law_X6_take rfl rfl rfl (by decide +kernel) ⟨Nat.le_of_ble_eq_true rfl, Nat.le_of_ble_eq_true rfl⟩) hK2 hP (lw_MB hsz) hS rfl rfl rfl rfl hl.1 (Nat.le_of_ble_eq_true rfl) dL_law_1240 ⟨Nat.le_of_ble_eq_true rfl, Nat.le_of_ble_eq_true rfl⟩ rfl (fun r_ H2 locs hp hM2 hq2 hz2 hS => ?_)
  subst hp
  have hO2 := rf_keep1 hO (fun _ => hq2 (s.heap.size + 181) (by omega) (lw_noM hsz))
  refine lv_istore (lv' := [(6, .int 0), (5, .int 1), (4, .int 0), (3, .ref (s.heap.size + 181)), (2, .ref (s.heap.size + 135)), (1, .ref s.heap.size), (0, .ref b)]) hx hb dL_law_1243 hl (by decide) rfl (fun ls hl => ?_)
  refine lv_aload_n hx hb dL_law_1245 rfl (lv_at hl 4 rfl) ?_
  refine rf_callR (As := []) (W0 := [((s.heap.size + 135), .inr (cRm, [.int 1, .ref (s.heap.size + 135 + 1)]))] ++ [((s.heap.size + 181), .inl (cL, 1, .inr (.inl (fun _ => 0))))]) (V := [((s.heap.size + 135), .inr (cRm, [.int 1, .ref (s.heap.size + 135 + 1)]))]) (q0 := 0) (ci := cRm) (r := (RX6, TX6, 2)) ⟨hx, hb, hml, hown, hts2⟩ (rX6_thrown l D d.1 cB H2.size (s.heap.size + 135) (s.heap.size + 135 + 1) 1) (cwV 0 hts2 gL_law_X6_thrown rfl rfl rfl (by decide +kernel) ⟨Nat.le_of_ble_eq_true rfl, Nat.le_of_ble_eq_true rfl⟩) hK2 (hM2.app hO2) hM2 hS rfl rfl rfl rfl hl.1 (Nat.le_of_ble_eq_true rfl) dL_law_1246 ⟨Nat.le_of_ble_eq_true rfl, Nat.le_of_ble_eq_true rfl⟩ rfl (fun r_ H3 locs hp hP3 hS => ?_)
  subst hp
  refine lv_iload hx hb dL_law_1249 (lv_at hl 1 rfl) ?_
  refine lv_icmp_eq (tgt := 1256) hx hb dL_law_1251 (by decide) (fun c_1251 => ?_) (fun c_1251 => ?_)
  · refine lv_iload hx hb dL_law_1256 (lv_at hl 1 rfl) ?_
    refine lv_if_ne (tgt := 1273) hx hb dL_law_1258 (by decide) (fun c_1258 => ?_) (fun c_1258 => ?_)
    · refine lv_goto (tgt := 2108) hx hb dL_law_1273 (by decide) ?_
      exact lw_tail G hS (Nat.le_of_ble_eq_true rfl) (Nat.le_of_ble_eq_true rfl) (lv_sub hl [2, 6] rfl)
    · exact absurd c_1258 (by decide)
  · exact absurd (by decide) c_1251
set_option maxHeartbeats 4000000 in
set_option maxRecDepth 100000 in
/-- the law: lw_c21 -/
theorem lw_c21 {p : Program} {l : Launch} {e : Env} {s : State} {m : MethodId} {below : List Frame} {meth : Method} {c : Code} {b : Nat} {D : va_G} {d : hs_Dm} {cB cL : ClassId} {xs : Nat → Int32} (G : lw_G p l s m meth c b D d cB cL xs)  {H : Heap} {locs : List Loc} (hg : rg D (lw_X d cB cL s.heap.size) s.heap.size 182 H) (hz0 : H.size = s.heap.size + 182) (hS : va_S (rg_A s.heap.size) s.heap H locs) {ls : Array Slot} (hl : lv_has ls 9 [(4, .int 0), (3, .ref (s.heap.size + 181)), (2, .ref (s.heap.size + 135)), (1, .ref s.heap.size), (0, .ref b)]) : W p l e room_1 s m #[Value.ref b] below meth c H locs 182 1149 (lw_Z below #[Value.ref b] s) (F0 m 1632 ls []) := by
  obtain ⟨hx, hb, hr, hlocks, hml, hown, hts, hl0, hX, hbl, hK, hK2, hKL, hXE⟩ := id G
  have hts2 : ∀ w ∈ wsL_law, w.before #[Value.ref b] s = true := fun w h => hts w (wsL_law_in w h)
  have hbA : ¬ rg_A s.heap.size b := Nat.not_le.mpr hbl
  refine lv_aload_n hx hb dL_law_1632 rfl (lv_at hl 3 rfl) ?_
  refine lv_aload_n hx hb dL_law_1633 rfl (lv_at hl 4 rfl) ?_
  refine lv_iload hx hb dL_law_1634 (lv_at hl 0 rfl) ?_
  refine lv_iconst (v := 1) hx hb dL_law_1636 (by decide) ?_
  refine lv_iadd hx hb dL_law_1637 ?_
  refine va_sld (i := 0 + 1) hx hb hX hbl hbA hS (by unfold vp_in; decide) dL_law_1638 ?_
  rw [show ((0 : Int32) + 1).toNatClampNeg = 1 from by decide]
  refine lv_aload_n hx hb dL_law_1639 rfl (lv_at hl 4 rfl) ?_
  refine lv_iload hx hb dL_law_1640 (lv_at hl 0 rfl) ?_
  refine lv_iconst (v := 2) hx hb dL_law_1642 (by decide) ?_
  refine lv_iadd hx hb dL_law_1643 ?_
  refine va_sld (i := 0 + 2) hx hb hX hbl hbA hS (by unfold vp_in; decide) dL_law_1644 ?_
  rw [show ((0 : Int32) + 2).toNatClampNeg = 2 from by decide]
  refine lv_aload_n hx hb dL_law_1645 rfl (lv_at hl 1 rfl) ?_
  refine lw_help (As := [.ref s.heap.size, .int (xs 1), .int (xs 2), .ref (s.heap.size + 181)]) ⟨hx, hb, hml, hown, hts2⟩ (hT_ofFigure l D d s.heap.size (rc_L (s.heap.size + 1)) (rc_L (s.heap.size + 68)) (lw_A1 s.heap.size) (lw_A2 s.heap.size) (lw_B s.heap.size) (s.heap.size + 181) cL (fun _ => 0) lw_wB (fun _ h => lw_AB h) (Or.inr rfl) lw_oA hl0 (xs 1) (xs 2)) (vx_cwSW 4 hts2 gL_law_L_ofFigure rfl rfl rfl (by decide +kernel) ⟨Nat.le_of_ble_eq_true rfl, Nat.le_of_ble_eq_true rfl⟩) (lw_house hg) (lw_trial hg) hK hXE lw_BB (lw_wax hg) (lw_out hg) hKL hS rfl hl.1 (Nat.le_of_ble_eq_true rfl) dL_law_1646 ⟨Nat.le_of_ble_eq_true rfl, Nat.le_of_ble_eq_true rfl⟩ rfl (fun H1 locs hO hq hz hS => ?_)
  have hsz : s.heap.size + 182 ≤ H1.size := by rw [← hz0]; exact hz
  have hP := lw_keep (lw_w_m2 hg) (lw_d_m2 (d := d) (cB := cB)) hq
  refine lv_istore (lv' := [(5, .int 1), (4, .int 0), (3, .ref (s.heap.size + 181)), (2, .ref (s.heap.size + 135)), (1, .ref s.heap.size), (0, .ref b)]) hx hb dL_law_1649 hl (by decide) rfl (fun ls hl => ?_)
  refine lv_aload_n hx hb dL_law_1651 rfl (lv_at hl 3 rfl) ?_
  refine lv_aload_n hx hb dL_law_1652 rfl (lv_at hl 5 rfl) ?_
  refine lv_iload hx hb dL_law_1653 (lv_at hl 1 rfl) ?_
  refine lv_iconst (v := 1) hx hb dL_law_1655 (by decide) ?_
  refine lv_iadd hx hb dL_law_1656 ?_
  refine va_sld (i := 0 + 1) hx hb hX hbl hbA hS (by unfold vp_in; decide) dL_law_1657 ?_
  rw [show ((0 : Int32) + 1).toNatClampNeg = 1 from by decide]
  refine lv_aload_n hx hb dL_law_1658 rfl (lv_at hl 5 rfl) ?_
  refine lv_iload hx hb dL_law_1659 (lv_at hl 1 rfl) ?_
  refine lv_iconst (v := 2) hx hb dL_law_1661 (by decide) ?_
  refine lv_iadd hx hb dL_law_1662 ?_
  refine va_sld (i := 0 + 2) hx hb hX hbl hbA hS (by unfold vp_in; decide) dL_law_1663 ?_
  rw [show ((0 : Int32) + 2).toNatClampNeg = 2 from by decide]
  refine lw_ref (As := [.int (xs 1), .int (xs 2)]) (V := [((s.heap.size + 135), .inr (cRm, [.int 0, .ref (s.heap.size + 135 + 1)])), ((s.heap.size + 135 + 1), .inr (cRh, [.ref (s.heap.size + 135 + 1 + 1), .ref (s.heap.size + 135 + 1 + 12), .ref (s.heap.size + 135 + 1 + 23), .ref (s.heap.size + 135 + 1 + 34), .ref (s.heap.size + 135 + 1 + 43), .ref (s.heap.size + 135 + 1 + 44), .int 0, .int 0, .int 0, .int 0, .int 0, .int 5, .int 200, .int 30]))]) (V2 := [((s.heap.size + 135), .inr (cRm, [.int 1, .ref (s.heap.size + 135 + 1)]))]) (B := lw_M s.heap.size H1.size) (q0 := 0) (ci := cRm) (r := (RX6, TX6, 2)) ⟨hx, hb, hml, hown, hts2⟩ (rX6_ofFigure l D d.1 cB H1.size (s.heap.size + 135) (s.heap.size + 135 + 1) (s.heap.size + 135 + 1 + 1) (s.heap.size + 135 + 1 + 12) (s.heap.size + 135 + 1 + 23) (s.heap.size + 135 + 1 + 34) (s.heap.size + 135 + 1 + 43) (s.heap.size + 135 + 1 + 44) 0 (xs 1) (xs 2) (lw_M s.heap.size H1.size) (lw_lM (lw_d_m2 (d := d) (cB := cB)))) (cwV 2 hts2 gL_law_X6_ofFigure rfl rfl rfl (by decide +kernel) ⟨Nat.le_of_ble_eq_true rfl, Nat.le_of_ble_eq_true rfl⟩) hK2 hP (lw_MB hsz) hS rfl rfl rfl rfl hl.1 (Nat.le_of_ble_eq_true rfl) dL_law_1664 ⟨Nat.le_of_ble_eq_true rfl, Nat.le_of_ble_eq_true rfl⟩ rfl (fun r_ H2 locs hp hM2 hq2 hz2 hS => ?_)
  subst hp
  have hO2 := rf_keep1 hO (fun _ => hq2 (s.heap.size + 181) (by omega) (lw_noM hsz))
  refine lv_istore (lv' := [(6, .int 0), (5, .int 1), (4, .int 0), (3, .ref (s.heap.size + 181)), (2, .ref (s.heap.size + 135)), (1, .ref s.heap.size), (0, .ref b)]) hx hb dL_law_1667 hl (by decide) rfl (fun ls hl => ?_)
  refine lv_aload_n hx hb dL_law_1669 rfl (lv_at hl 4 rfl) ?_
  refine rf_callR (As := []) (W0 := [((s.heap.size + 135), .inr (cRm, [.int 1, .ref (s.heap.size + 135 + 1)]))] ++ [((s.heap.size + 181), .inl (cL, 1, .inr (.inl (fun _ => 0))))]) (V := [((s.heap.size + 135), .inr (cRm, [.int 1, .ref (s.heap.size + 135 + 1)]))]) (q0 := 0) (ci := cRm) (r := (RX6, TX6, 2)) ⟨hx, hb, hml, hown, hts2⟩ (rX6_thrown l D d.1 cB H2.size (s.heap.size + 135) (s.heap.size + 135 + 1) 1) (cwV 0 hts2 gL_law_X6_thrown rfl rfl rfl (by decide +kernel) ⟨Nat.le_of_ble_eq_true rfl, Nat.le_of_ble_eq_true rfl⟩) hK2 (hM2.app hO2) hM2 hS rfl rfl rfl rfl hl.1 (Nat.le_of_ble_eq_true rfl) dL_law_1670 ⟨Nat.le_of_ble_eq_true rfl, Nat.le_of_ble_eq_true rfl⟩ rfl (fun r_ H3 locs hp hP3 hS => ?_)
  subst hp
  refine lv_iload hx hb dL_law_1673 (lv_at hl 1 rfl) ?_
  refine lv_icmp_eq (tgt := 1680) hx hb dL_law_1675 (by decide) (fun c_1675 => ?_) (fun c_1675 => ?_)
  · refine lv_iload hx hb dL_law_1680 (lv_at hl 1 rfl) ?_
    refine lv_if_ne (tgt := 1697) hx hb dL_law_1682 (by decide) (fun c_1682 => ?_) (fun c_1682 => ?_)
    · refine lv_goto (tgt := 2108) hx hb dL_law_1697 (by decide) ?_
      exact lw_tail G hS (Nat.le_of_ble_eq_true rfl) (Nat.le_of_ble_eq_true rfl) (lv_sub hl [2, 6] rfl)
    · exact absurd c_1682 (by decide)
  · exact absurd (by decide) c_1675
set_option maxHeartbeats 4000000 in
set_option maxRecDepth 100000 in
/-- the law: lw_c26 -/
theorem lw_c26 {p : Program} {l : Launch} {e : Env} {s : State} {m : MethodId} {below : List Frame} {meth : Method} {c : Code} {b : Nat} {D : va_G} {d : hs_Dm} {cB cL : ClassId} {xs : Nat → Int32} (G : lw_G p l s m meth c b D d cB cL xs)  {H : Heap} {locs : List Loc} (hg : rg D (lw_X d cB cL s.heap.size) s.heap.size 182 H) (hz0 : H.size = s.heap.size + 182) (hS : va_S (rg_A s.heap.size) s.heap H locs) {ls : Array Slot} (hl : lv_has ls 9 [(4, .int 0), (3, .ref (s.heap.size + 181)), (2, .ref (s.heap.size + 135)), (1, .ref s.heap.size), (0, .ref b)]) : W p l e room_1 s m #[Value.ref b] below meth c H locs 182 1149 (lw_Z below #[Value.ref b] s) (F0 m 1945 ls []) := by
  obtain ⟨hx, hb, hr, hlocks, hml, hown, hts, hl0, hX, hbl, hK, hK2, hKL, hXE⟩ := id G
  have hts2 : ∀ w ∈ wsL_law, w.before #[Value.ref b] s = true := fun w h => hts w (wsL_law_in w h)
  have hbA : ¬ rg_A s.heap.size b := Nat.not_le.mpr hbl
  refine lv_aload_n hx hb dL_law_1945 rfl (lv_at hl 3 rfl) ?_
  refine lv_aload_n hx hb dL_law_1946 rfl (lv_at hl 4 rfl) ?_
  refine lv_iload hx hb dL_law_1947 (lv_at hl 0 rfl) ?_
  refine lv_iconst (v := 1) hx hb dL_law_1949 (by decide) ?_
  refine lv_iadd hx hb dL_law_1950 ?_
  refine va_sld (i := 0 + 1) hx hb hX hbl hbA hS (by unfold vp_in; decide) dL_law_1951 ?_
  rw [show ((0 : Int32) + 1).toNatClampNeg = 1 from by decide]
  refine lv_aload_n hx hb dL_law_1952 rfl (lv_at hl 1 rfl) ?_
  refine lw_help (As := [.ref s.heap.size, .int (xs 1), .ref (s.heap.size + 181)]) ⟨hx, hb, hml, hown, hts2⟩ (hT_readyIn l D d s.heap.size (rc_L (s.heap.size + 1)) (rc_L (s.heap.size + 68)) (lw_A1 s.heap.size) (lw_A2 s.heap.size) (lw_B s.heap.size) (s.heap.size + 181) cL (fun _ => 0) lw_wB (fun _ h => lw_AB h) (Or.inr rfl) lw_oA hl0 (xs 1)) (vx_cwSW 3 hts2 gL_law_L_readyIn rfl rfl rfl (by decide +kernel) ⟨Nat.le_of_ble_eq_true rfl, Nat.le_of_ble_eq_true rfl⟩) (lw_house hg) (lw_trial hg) hK hXE lw_BB (lw_wax hg) (lw_out hg) hKL hS rfl hl.1 (Nat.le_of_ble_eq_true rfl) dL_law_1953 ⟨Nat.le_of_ble_eq_true rfl, Nat.le_of_ble_eq_true rfl⟩ rfl (fun H1 locs hO hq hz hS => ?_)
  have hsz : s.heap.size + 182 ≤ H1.size := by rw [← hz0]; exact hz
  have hP := lw_keep (lw_w_m2 hg) (lw_d_m2 (d := d) (cB := cB)) hq
  refine lv_istore (lv' := [(5, .int 1), (4, .int 0), (3, .ref (s.heap.size + 181)), (2, .ref (s.heap.size + 135)), (1, .ref s.heap.size), (0, .ref b)]) hx hb dL_law_1956 hl (by decide) rfl (fun ls hl => ?_)
  refine lv_aload_n hx hb dL_law_1958 rfl (lv_at hl 3 rfl) ?_
  refine lv_aload_n hx hb dL_law_1959 rfl (lv_at hl 5 rfl) ?_
  refine lv_iload hx hb dL_law_1960 (lv_at hl 1 rfl) ?_
  refine lv_iconst (v := 1) hx hb dL_law_1962 (by decide) ?_
  refine lv_iadd hx hb dL_law_1963 ?_
  refine va_sld (i := 0 + 1) hx hb hX hbl hbA hS (by unfold vp_in; decide) dL_law_1964 ?_
  rw [show ((0 : Int32) + 1).toNatClampNeg = 1 from by decide]
  refine lw_ref (As := [.int (xs 1)]) (V := [((s.heap.size + 135), .inr (cRm, [.int 0, .ref (s.heap.size + 135 + 1)])), ((s.heap.size + 135 + 1), .inr (cRh, [.ref (s.heap.size + 135 + 1 + 1), .ref (s.heap.size + 135 + 1 + 12), .ref (s.heap.size + 135 + 1 + 23), .ref (s.heap.size + 135 + 1 + 34), .ref (s.heap.size + 135 + 1 + 43), .ref (s.heap.size + 135 + 1 + 44), .int 0, .int 0, .int 0, .int 0, .int 0, .int 5, .int 200, .int 30]))]) (V2 := [((s.heap.size + 135), .inr (cRm, [.int 1, .ref (s.heap.size + 135 + 1)]))]) (B := lw_M s.heap.size H1.size) (q0 := 0) (ci := cRm) (r := (RX6, TX6, 2)) ⟨hx, hb, hml, hown, hts2⟩ (rX6_readyIn l D d.1 cB H1.size (s.heap.size + 135) (s.heap.size + 135 + 1) (s.heap.size + 135 + 1 + 1) (s.heap.size + 135 + 1 + 12) (s.heap.size + 135 + 1 + 23) (s.heap.size + 135 + 1 + 34) (s.heap.size + 135 + 1 + 43) (s.heap.size + 135 + 1 + 44) 0 (xs 1) (lw_M s.heap.size H1.size) (lw_lM (lw_d_m2 (d := d) (cB := cB)))) (cwV 1 hts2 gL_law_X6_readyIn rfl rfl rfl (by decide +kernel) ⟨Nat.le_of_ble_eq_true rfl, Nat.le_of_ble_eq_true rfl⟩) hK2 hP (lw_MB hsz) hS rfl rfl rfl rfl hl.1 (Nat.le_of_ble_eq_true rfl) dL_law_1965 ⟨Nat.le_of_ble_eq_true rfl, Nat.le_of_ble_eq_true rfl⟩ rfl (fun r_ H2 locs hp hM2 hq2 hz2 hS => ?_)
  subst hp
  have hO2 := rf_keep1 hO (fun _ => hq2 (s.heap.size + 181) (by omega) (lw_noM hsz))
  refine lv_istore (lv' := [(6, .int 0), (5, .int 1), (4, .int 0), (3, .ref (s.heap.size + 181)), (2, .ref (s.heap.size + 135)), (1, .ref s.heap.size), (0, .ref b)]) hx hb dL_law_1968 hl (by decide) rfl (fun ls hl => ?_)
  refine lv_aload_n hx hb dL_law_1970 rfl (lv_at hl 4 rfl) ?_
  refine rf_callR (As := []) (W0 := [((s.heap.size + 135), .inr (cRm, [.int 1, .ref (s.heap.size + 135 + 1)]))] ++ [((s.heap.size + 181), .inl (cL, 1, .inr (.inl (fun _ => 0))))]) (V := [((s.heap.size + 135), .inr (cRm, [.int 1, .ref (s.heap.size + 135 + 1)]))]) (q0 := 0) (ci := cRm) (r := (RX6, TX6, 2)) ⟨hx, hb, hml, hown, hts2⟩ (rX6_thrown l D d.1 cB H2.size (s.heap.size + 135) (s.heap.size + 135 + 1) 1) (cwV 0 hts2 gL_law_X6_thrown rfl rfl rfl (by decide +kernel) ⟨Nat.le_of_ble_eq_true rfl, Nat.le_of_ble_eq_true rfl⟩) hK2 (hM2.app hO2) hM2 hS rfl rfl rfl rfl hl.1 (Nat.le_of_ble_eq_true rfl) dL_law_1971 ⟨Nat.le_of_ble_eq_true rfl, Nat.le_of_ble_eq_true rfl⟩ rfl (fun r_ H3 locs hp hP3 hS => ?_)
  subst hp
  refine lv_iload hx hb dL_law_1974 (lv_at hl 1 rfl) ?_
  refine lv_icmp_eq (tgt := 1981) hx hb dL_law_1976 (by decide) (fun c_1976 => ?_) (fun c_1976 => ?_)
  · refine lv_iload hx hb dL_law_1981 (lv_at hl 1 rfl) ?_
    refine lv_if_ne (tgt := 1998) hx hb dL_law_1983 (by decide) (fun c_1983 => ?_) (fun c_1983 => ?_)
    · refine lv_goto (tgt := 2108) hx hb dL_law_1998 (by decide) ?_
      exact lw_tail G hS (Nat.le_of_ble_eq_true rfl) (Nat.le_of_ble_eq_true rfl) (lv_sub hl [2, 6] rfl)
    · exact absurd c_1983 (by decide)
  · exact absurd (by decide) c_1976
set_option maxHeartbeats 4000000 in
set_option maxRecDepth 100000 in
/-- the law: lw_c27 -/
theorem lw_c27 {p : Program} {l : Launch} {e : Env} {s : State} {m : MethodId} {below : List Frame} {meth : Method} {c : Code} {b : Nat} {D : va_G} {d : hs_Dm} {cB cL : ClassId} {xs : Nat → Int32} (G : lw_G p l s m meth c b D d cB cL xs)  {H : Heap} {locs : List Loc} (hg : rg D (lw_X d cB cL s.heap.size) s.heap.size 182 H) (hz0 : H.size = s.heap.size + 182) (hS : va_S (rg_A s.heap.size) s.heap H locs) {ls : Array Slot} (hl : lv_has ls 9 [(4, .int 0), (3, .ref (s.heap.size + 181)), (2, .ref (s.heap.size + 135)), (1, .ref s.heap.size), (0, .ref b)]) : W p l e room_1 s m #[Value.ref b] below meth c H locs 182 1149 (lw_Z below #[Value.ref b] s) (F0 m 2001 ls []) := by
  obtain ⟨hx, hb, hr, hlocks, hml, hown, hts, hl0, hX, hbl, hK, hK2, hKL, hXE⟩ := id G
  have hts2 : ∀ w ∈ wsL_law, w.before #[Value.ref b] s = true := fun w h => hts w (wsL_law_in w h)
  have hbA : ¬ rg_A s.heap.size b := Nat.not_le.mpr hbl
  refine lv_aload_n hx hb dL_law_2001 rfl (lv_at hl 3 rfl) ?_
  refine lv_aload_n hx hb dL_law_2002 rfl (lv_at hl 4 rfl) ?_
  refine lv_iload hx hb dL_law_2003 (lv_at hl 0 rfl) ?_
  refine lv_iconst (v := 1) hx hb dL_law_2005 (by decide) ?_
  refine lv_iadd hx hb dL_law_2006 ?_
  refine va_sld (i := 0 + 1) hx hb hX hbl hbA hS (by unfold vp_in; decide) dL_law_2007 ?_
  rw [show ((0 : Int32) + 1).toNatClampNeg = 1 from by decide]
  refine lv_aload_n hx hb dL_law_2008 rfl (lv_at hl 4 rfl) ?_
  refine lv_iload hx hb dL_law_2009 (lv_at hl 0 rfl) ?_
  refine lv_iconst (v := 2) hx hb dL_law_2011 (by decide) ?_
  refine lv_iadd hx hb dL_law_2012 ?_
  refine va_sld (i := 0 + 2) hx hb hX hbl hbA hS (by unfold vp_in; decide) dL_law_2013 ?_
  rw [show ((0 : Int32) + 2).toNatClampNeg = 2 from by decide]
  refine lv_aload_n hx hb dL_law_2014 rfl (lv_at hl 4 rfl) ?_
  refine lv_iload hx hb dL_law_2015 (lv_at hl 0 rfl) ?_
  refine lv_iconst (v := 3) hx hb dL_law_2017 (by decide) ?_
  refine lv_iadd hx hb dL_law_2018 ?_
  refine va_sld (i := 0 + 3) hx hb hX hbl hbA hS (by unfold vp_in; decide) dL_law_2019 ?_
  rw [show ((0 : Int32) + 3).toNatClampNeg = 3 from by decide]
  refine lv_aload_n hx hb dL_law_2020 rfl (lv_at hl 1 rfl) ?_
  refine lw_help (As := [.ref s.heap.size, .int (xs 1), .int (xs 2), .int (xs 3), .ref (s.heap.size + 181)]) ⟨hx, hb, hml, hown, hts2⟩ (hT_meltsIn l D d s.heap.size (rc_L (s.heap.size + 1)) (rc_L (s.heap.size + 68)) (lw_A1 s.heap.size) (lw_A2 s.heap.size) (lw_B s.heap.size) (s.heap.size + 181) cL (fun _ => 0) lw_wB (fun _ h => lw_AB h) (Or.inr rfl) lw_oA hl0 (xs 1) (xs 2) (xs 3)) (vx_cwSW 5 hts2 gL_law_L_meltsIn rfl rfl rfl (by decide +kernel) ⟨Nat.le_of_ble_eq_true rfl, Nat.le_of_ble_eq_true rfl⟩) (lw_house hg) (lw_trial hg) hK hXE lw_BB (lw_wax hg) (lw_out hg) hKL hS rfl hl.1 (Nat.le_of_ble_eq_true rfl) dL_law_2021 ⟨Nat.le_of_ble_eq_true rfl, Nat.le_of_ble_eq_true rfl⟩ rfl (fun H1 locs hO hq hz hS => ?_)
  have hsz : s.heap.size + 182 ≤ H1.size := by rw [← hz0]; exact hz
  have hP := lw_keep (lw_w_m2 hg) (lw_d_m2 (d := d) (cB := cB)) hq
  refine lv_istore (lv' := [(5, .int 1), (4, .int 0), (3, .ref (s.heap.size + 181)), (2, .ref (s.heap.size + 135)), (1, .ref s.heap.size), (0, .ref b)]) hx hb dL_law_2024 hl (by decide) rfl (fun ls hl => ?_)
  refine lv_aload_n hx hb dL_law_2026 rfl (lv_at hl 3 rfl) ?_
  refine lv_aload_n hx hb dL_law_2027 rfl (lv_at hl 5 rfl) ?_
  refine lv_iload hx hb dL_law_2028 (lv_at hl 1 rfl) ?_
  refine lv_iconst (v := 1) hx hb dL_law_2030 (by decide) ?_
  refine lv_iadd hx hb dL_law_2031 ?_
  refine va_sld (i := 0 + 1) hx hb hX hbl hbA hS (by unfold vp_in; decide) dL_law_2032 ?_
  rw [show ((0 : Int32) + 1).toNatClampNeg = 1 from by decide]
  refine lv_aload_n hx hb dL_law_2033 rfl (lv_at hl 5 rfl) ?_
  refine lv_iload hx hb dL_law_2034 (lv_at hl 1 rfl) ?_
  refine lv_iconst (v := 2) hx hb dL_law_2036 (by decide) ?_
  refine lv_iadd hx hb dL_law_2037 ?_
  refine va_sld (i := 0 + 2) hx hb hX hbl hbA hS (by unfold vp_in; decide) dL_law_2038 ?_
  rw [show ((0 : Int32) + 2).toNatClampNeg = 2 from by decide]
  refine lv_aload_n hx hb dL_law_2039 rfl (lv_at hl 5 rfl) ?_
  refine lv_iload hx hb dL_law_2040 (lv_at hl 1 rfl) ?_
  refine lv_iconst (v := 3) hx hb dL_law_2042 (by decide) ?_
  refine lv_iadd hx hb dL_law_2043 ?_
  refine va_sld (i := 0 + 3) hx hb hX hbl hbA hS (by unfold vp_in; decide) dL_law_2044 ?_
  rw [show ((0 : Int32) + 3).toNatClampNeg = 3 from by decide]
  refine lw_ref (As := [.int (xs 1), .int (xs 2), .int (xs 3)]) (V := [((s.heap.size + 135), .inr (cRm, [.int 0, .ref (s.heap.size + 135 + 1)])), ((s.heap.size + 135 + 1), .inr (cRh, [.ref (s.heap.size + 135 + 1 + 1), .ref (s.heap.size + 135 + 1 + 12), .ref (s.heap.size + 135 + 1 + 23), .ref (s.heap.size + 135 + 1 + 34), .ref (s.heap.size + 135 + 1 + 43), .ref (s.heap.size + 135 + 1 + 44), .int 0, .int 0, .int 0, .int 0, .int 0, .int 5, .int 200, .int 30]))]) (V2 := [((s.heap.size + 135), .inr (cRm, [.int 1, .ref (s.heap.size + 135 + 1)]))]) (B := lw_M s.heap.size H1.size) (q0 := 0) (ci := cRm) (r := (RX6, TX6, 2)) ⟨hx, hb, hml, hown, hts2⟩ (rX6_meltsIn l D d.1 cB H1.size (s.heap.size + 135) (s.heap.size + 135 + 1) (s.heap.size + 135 + 1 + 1) (s.heap.size + 135 + 1 + 12) (s.heap.size + 135 + 1 + 23) (s.heap.size + 135 + 1 + 34) (s.heap.size + 135 + 1 + 43) (s.heap.size + 135 + 1 + 44) 0 (xs 1) (xs 2) (xs 3) (lw_M s.heap.size H1.size) (lw_lM (lw_d_m2 (d := d) (cB := cB)))) (cwV 3 hts2 gL_law_X6_meltsIn rfl rfl rfl (by decide +kernel) ⟨Nat.le_of_ble_eq_true rfl, Nat.le_of_ble_eq_true rfl⟩) hK2 hP (lw_MB hsz) hS rfl rfl rfl rfl hl.1 (Nat.le_of_ble_eq_true rfl) dL_law_2045 ⟨Nat.le_of_ble_eq_true rfl, Nat.le_of_ble_eq_true rfl⟩ rfl (fun r_ H2 locs hp hM2 hq2 hz2 hS => ?_)
  subst hp
  have hO2 := rf_keep1 hO (fun _ => hq2 (s.heap.size + 181) (by omega) (lw_noM hsz))
  refine lv_istore (lv' := [(6, .int 0), (5, .int 1), (4, .int 0), (3, .ref (s.heap.size + 181)), (2, .ref (s.heap.size + 135)), (1, .ref s.heap.size), (0, .ref b)]) hx hb dL_law_2048 hl (by decide) rfl (fun ls hl => ?_)
  refine lv_aload_n hx hb dL_law_2050 rfl (lv_at hl 4 rfl) ?_
  refine rf_callR (As := []) (W0 := [((s.heap.size + 135), .inr (cRm, [.int 1, .ref (s.heap.size + 135 + 1)]))] ++ [((s.heap.size + 181), .inl (cL, 1, .inr (.inl (fun _ => 0))))]) (V := [((s.heap.size + 135), .inr (cRm, [.int 1, .ref (s.heap.size + 135 + 1)]))]) (q0 := 0) (ci := cRm) (r := (RX6, TX6, 2)) ⟨hx, hb, hml, hown, hts2⟩ (rX6_thrown l D d.1 cB H2.size (s.heap.size + 135) (s.heap.size + 135 + 1) 1) (cwV 0 hts2 gL_law_X6_thrown rfl rfl rfl (by decide +kernel) ⟨Nat.le_of_ble_eq_true rfl, Nat.le_of_ble_eq_true rfl⟩) hK2 (hM2.app hO2) hM2 hS rfl rfl rfl rfl hl.1 (Nat.le_of_ble_eq_true rfl) dL_law_2051 ⟨Nat.le_of_ble_eq_true rfl, Nat.le_of_ble_eq_true rfl⟩ rfl (fun r_ H3 locs hp hP3 hS => ?_)
  subst hp
  refine lv_iload hx hb dL_law_2054 (lv_at hl 1 rfl) ?_
  refine lv_icmp_eq (tgt := 2061) hx hb dL_law_2056 (by decide) (fun c_2056 => ?_) (fun c_2056 => ?_)
  · refine lv_iload hx hb dL_law_2061 (lv_at hl 1 rfl) ?_
    refine lv_if_ne (tgt := 2078) hx hb dL_law_2063 (by decide) (fun c_2063 => ?_) (fun c_2063 => ?_)
    · refine lv_goto (tgt := 2108) hx hb dL_law_2078 (by decide) ?_
      exact lw_tail G hS (Nat.le_of_ble_eq_true rfl) (Nat.le_of_ble_eq_true rfl) (lv_sub hl [2, 6] rfl)
    · exact absurd c_2063 (by decide)
  · exact absurd (by decide) c_2056
set_option maxHeartbeats 4000000 in
set_option maxRecDepth 100000 in
/-- the law: lw_c13 -/
theorem lw_c13 {p : Program} {l : Launch} {e : Env} {s : State} {m : MethodId} {below : List Frame} {meth : Method} {c : Code} {b : Nat} {D : va_G} {d : hs_Dm} {cB cL : ClassId} {xs : Nat → Int32} (G : lw_G p l s m meth c b D d cB cL xs)  {H : Heap} {locs : List Loc} (hg : rg D (lw_X d cB cL s.heap.size) s.heap.size 182 H) (hz0 : H.size = s.heap.size + 182) (hS : va_S (rg_A s.heap.size) s.heap H locs) {ls : Array Slot} (hl : lv_has ls 9 [(4, .int 0), (3, .ref (s.heap.size + 181)), (2, .ref (s.heap.size + 135)), (1, .ref s.heap.size), (0, .ref b)]) : W p l e room_1 s m #[Value.ref b] below meth c H locs 182 1149 (lw_Z below #[Value.ref b] s) (F0 m 1084 ls []) := by
  obtain ⟨hx, hb, hr, hlocks, hml, hown, hts, hl0, hX, hbl, hK, hK2, hKL, hXE⟩ := id G
  have hts2 : ∀ w ∈ wsL_law, w.before #[Value.ref b] s = true := fun w h => hts w (wsL_law_in w h)
  have hbA : ¬ rg_A s.heap.size b := Nat.not_le.mpr hbl
  refine lv_aload_n hx hb dL_law_1084 rfl (lv_at hl 3 rfl) ?_
  refine lv_aload_n hx hb dL_law_1085 rfl (lv_at hl 4 rfl) ?_
  refine lv_iload hx hb dL_law_1086 (lv_at hl 0 rfl) ?_
  refine lv_iconst (v := 1) hx hb dL_law_1088 (by decide) ?_
  refine lv_iadd hx hb dL_law_1089 ?_
  refine va_sld (i := 0 + 1) hx hb hX hbl hbA hS (by unfold vp_in; decide) dL_law_1090 ?_
  rw [show ((0 : Int32) + 1).toNatClampNeg = 1 from by decide]
  refine lv_aload_n hx hb dL_law_1091 rfl (lv_at hl 4 rfl) ?_
  refine lv_iload hx hb dL_law_1092 (lv_at hl 0 rfl) ?_
  refine lv_iconst (v := 2) hx hb dL_law_1094 (by decide) ?_
  refine lv_iadd hx hb dL_law_1095 ?_
  refine va_sld (i := 0 + 2) hx hb hX hbl hbA hS (by unfold vp_in; decide) dL_law_1096 ?_
  rw [show ((0 : Int32) + 2).toNatClampNeg = 2 from by decide]
  refine lv_aload_n hx hb dL_law_1097 rfl (lv_at hl 1 rfl) ?_
  refine lw_help (As := [.ref s.heap.size, .int (xs 1), .int (xs 2), .ref (s.heap.size + 181)]) ⟨hx, hb, hml, hown, hts2⟩ (hT_lamps l D d s.heap.size (rc_L (s.heap.size + 1)) (rc_L (s.heap.size + 68)) (lw_A1 s.heap.size) (lw_A2 s.heap.size) (lw_B s.heap.size) (s.heap.size + 181) cL (fun _ => 0) lw_wB (fun _ h => lw_AB h) (Or.inr rfl) lw_oA hl0 (xs 1) (xs 2)) (vx_cwSW 4 hts2 gL_law_L_lamps rfl rfl rfl (by decide +kernel) ⟨Nat.le_of_ble_eq_true rfl, Nat.le_of_ble_eq_true rfl⟩) (lw_house hg) (lw_trial hg) hK hXE lw_BB (lw_wax hg) (lw_out hg) hKL hS rfl hl.1 (Nat.le_of_ble_eq_true rfl) dL_law_1098 ⟨Nat.le_of_ble_eq_true rfl, Nat.le_of_ble_eq_true rfl⟩ rfl (fun H1 locs hO hq hz hS => ?_)
  have hsz : s.heap.size + 182 ≤ H1.size := by rw [← hz0]; exact hz
  have hP := lw_keep (lw_w_m2 hg) (lw_d_m2 (d := d) (cB := cB)) hq
  refine lv_istore (lv' := [(5, .int 1), (4, .int 0), (3, .ref (s.heap.size + 181)), (2, .ref (s.heap.size + 135)), (1, .ref s.heap.size), (0, .ref b)]) hx hb dL_law_1101 hl (by decide) rfl (fun ls hl => ?_)
  refine lv_aload_n hx hb dL_law_1103 rfl (lv_at hl 3 rfl) ?_
  refine lv_aload_n hx hb dL_law_1104 rfl (lv_at hl 5 rfl) ?_
  refine lv_iload hx hb dL_law_1105 (lv_at hl 1 rfl) ?_
  refine lv_iconst (v := 1) hx hb dL_law_1107 (by decide) ?_
  refine lv_iadd hx hb dL_law_1108 ?_
  refine va_sld (i := 0 + 1) hx hb hX hbl hbA hS (by unfold vp_in; decide) dL_law_1109 ?_
  rw [show ((0 : Int32) + 1).toNatClampNeg = 1 from by decide]
  refine lv_aload_n hx hb dL_law_1110 rfl (lv_at hl 5 rfl) ?_
  refine lv_iload hx hb dL_law_1111 (lv_at hl 1 rfl) ?_
  refine lv_iconst (v := 2) hx hb dL_law_1113 (by decide) ?_
  refine lv_iadd hx hb dL_law_1114 ?_
  refine va_sld (i := 0 + 2) hx hb hX hbl hbA hS (by unfold vp_in; decide) dL_law_1115 ?_
  rw [show ((0 : Int32) + 2).toNatClampNeg = 2 from by decide]
  refine lw_ref (As := [.int (xs 1), .int (xs 2)]) (V := [((s.heap.size + 135), .inr (cRm, [.int 0, .ref (s.heap.size + 135 + 1)])), ((s.heap.size + 135 + 1), .inr (cRh, [.ref (s.heap.size + 135 + 1 + 1), .ref (s.heap.size + 135 + 1 + 12), .ref (s.heap.size + 135 + 1 + 23), .ref (s.heap.size + 135 + 1 + 34), .ref (s.heap.size + 135 + 1 + 43), .ref (s.heap.size + 135 + 1 + 44), .int 0, .int 0, .int 0, .int 0, .int 0, .int 5, .int 200, .int 30]))]) (V2 := [((s.heap.size + 135), .inr (cRm, [.int 1, .ref (s.heap.size + 135 + 1)]))]) (B := lw_M s.heap.size H1.size) (q0 := 0) (ci := cRm) (r := (RX6, TX6, 2)) ⟨hx, hb, hml, hown, hts2⟩ (rX6_lamps l D d.1 cB H1.size (s.heap.size + 135) (s.heap.size + 135 + 1) (s.heap.size + 135 + 1 + 1) (s.heap.size + 135 + 1 + 12) (s.heap.size + 135 + 1 + 23) (s.heap.size + 135 + 1 + 34) (s.heap.size + 135 + 1 + 43) (s.heap.size + 135 + 1 + 44) 0 (xs 1) (xs 2) (lw_M s.heap.size H1.size) (lw_lM (lw_d_m2 (d := d) (cB := cB)))) (cwV 2 hts2 gL_law_X6_lamps rfl rfl rfl (by decide +kernel) ⟨Nat.le_of_ble_eq_true rfl, Nat.le_of_ble_eq_true rfl⟩) hK2 hP (lw_MB hsz) hS rfl rfl rfl rfl hl.1 (Nat.le_of_ble_eq_true rfl) dL_law_1116 ⟨Nat.le_of_ble_eq_true rfl, Nat.le_of_ble_eq_true rfl⟩ rfl (fun r_ H2 locs hp hM2 hq2 hz2 hS => ?_)
  subst hp
  have hO2 := rf_keep1 hO (fun _ => hq2 (s.heap.size + 181) (by omega) (lw_noM hsz))
  refine lv_istore (lv' := [(6, .int 0), (5, .int 1), (4, .int 0), (3, .ref (s.heap.size + 181)), (2, .ref (s.heap.size + 135)), (1, .ref s.heap.size), (0, .ref b)]) hx hb dL_law_1119 hl (by decide) rfl (fun ls hl => ?_)
  refine lv_aload_n hx hb dL_law_1121 rfl (lv_at hl 4 rfl) ?_
  refine rf_callR (As := []) (W0 := [((s.heap.size + 135), .inr (cRm, [.int 1, .ref (s.heap.size + 135 + 1)]))] ++ [((s.heap.size + 181), .inl (cL, 1, .inr (.inl (fun _ => 0))))]) (V := [((s.heap.size + 135), .inr (cRm, [.int 1, .ref (s.heap.size + 135 + 1)]))]) (q0 := 0) (ci := cRm) (r := (RX6, TX6, 2)) ⟨hx, hb, hml, hown, hts2⟩ (rX6_thrown l D d.1 cB H2.size (s.heap.size + 135) (s.heap.size + 135 + 1) 1) (cwV 0 hts2 gL_law_X6_thrown rfl rfl rfl (by decide +kernel) ⟨Nat.le_of_ble_eq_true rfl, Nat.le_of_ble_eq_true rfl⟩) hK2 (hM2.app hO2) hM2 hS rfl rfl rfl rfl hl.1 (Nat.le_of_ble_eq_true rfl) dL_law_1122 ⟨Nat.le_of_ble_eq_true rfl, Nat.le_of_ble_eq_true rfl⟩ rfl (fun r_ H3 locs hp hP3 hS => ?_)
  subst hp
  refine lv_iload hx hb dL_law_1125 (lv_at hl 1 rfl) ?_
  refine lv_icmp_eq (tgt := 1132) hx hb dL_law_1127 (by decide) (fun c_1127 => ?_) (fun c_1127 => ?_)
  · refine lv_iload hx hb dL_law_1132 (lv_at hl 1 rfl) ?_
    refine lv_if_ne (tgt := 1149) hx hb dL_law_1134 (by decide) (fun c_1134 => ?_) (fun c_1134 => ?_)
    · refine lv_goto (tgt := 2108) hx hb dL_law_1149 (by decide) ?_
      exact lw_tail G hS (Nat.le_of_ble_eq_true rfl) (Nat.le_of_ble_eq_true rfl) (lv_sub hl [2, 6] rfl)
    · exact absurd c_1134 (by decide)
  · exact absurd (by decide) c_1127
set_option maxHeartbeats 4000000 in
set_option maxRecDepth 100000 in
/-- the law: lw_c16 -/
theorem lw_c16 {p : Program} {l : Launch} {e : Env} {s : State} {m : MethodId} {below : List Frame} {meth : Method} {c : Code} {b : Nat} {D : va_G} {d : hs_Dm} {cB cL : ClassId} {xs : Nat → Int32} (G : lw_G p l s m meth c b D d cB cL xs)  {H : Heap} {locs : List Loc} (hg : rg D (lw_X d cB cL s.heap.size) s.heap.size 182 H) (hz0 : H.size = s.heap.size + 182) (hS : va_S (rg_A s.heap.size) s.heap H locs) {ls : Array Slot} (hl : lv_has ls 9 [(4, .int 0), (3, .ref (s.heap.size + 181)), (2, .ref (s.heap.size + 135)), (1, .ref s.heap.size), (0, .ref b)]) : W p l e room_1 s m #[Value.ref b] below meth c H locs 182 1149 (lw_Z below #[Value.ref b] s) (F0 m 1276 ls []) := by
  obtain ⟨hx, hb, hr, hlocks, hml, hown, hts, hl0, hX, hbl, hK, hK2, hKL, hXE⟩ := id G
  have hts2 : ∀ w ∈ wsL_law, w.before #[Value.ref b] s = true := fun w h => hts w (wsL_law_in w h)
  have hbA : ¬ rg_A s.heap.size b := Nat.not_le.mpr hbl
  refine lv_aload_n hx hb dL_law_1276 rfl (lv_at hl 3 rfl) ?_
  refine lv_aload_n hx hb dL_law_1277 rfl (lv_at hl 4 rfl) ?_
  refine lv_iload hx hb dL_law_1278 (lv_at hl 0 rfl) ?_
  refine lv_iconst (v := 1) hx hb dL_law_1280 (by decide) ?_
  refine lv_iadd hx hb dL_law_1281 ?_
  refine va_sld (i := 0 + 1) hx hb hX hbl hbA hS (by unfold vp_in; decide) dL_law_1282 ?_
  rw [show ((0 : Int32) + 1).toNatClampNeg = 1 from by decide]
  refine lv_aload_n hx hb dL_law_1283 rfl (lv_at hl 1 rfl) ?_
  refine lw_help (As := [.ref s.heap.size, .int (xs 1), .ref (s.heap.size + 181)]) ⟨hx, hb, hml, hown, hts2⟩ (hT_clean l D d s.heap.size (rc_L (s.heap.size + 1)) (rc_L (s.heap.size + 68)) (lw_A1 s.heap.size) (lw_A2 s.heap.size) (lw_B s.heap.size) (s.heap.size + 181) cL (fun _ => 0) lw_wB (fun _ h => lw_AB h) (Or.inr rfl) lw_oA hl0 (xs 1)) (vx_cwSW 3 hts2 gL_law_L_clean rfl rfl rfl (by decide +kernel) ⟨Nat.le_of_ble_eq_true rfl, Nat.le_of_ble_eq_true rfl⟩) (lw_house hg) (lw_trial hg) hK hXE lw_BB (lw_wax hg) (lw_out hg) hKL hS rfl hl.1 (Nat.le_of_ble_eq_true rfl) dL_law_1284 ⟨Nat.le_of_ble_eq_true rfl, Nat.le_of_ble_eq_true rfl⟩ rfl (fun H1 locs hO hq hz hS => ?_)
  have hsz : s.heap.size + 182 ≤ H1.size := by rw [← hz0]; exact hz
  have hP := lw_keep (lw_w_m2 hg) (lw_d_m2 (d := d) (cB := cB)) hq
  refine lv_istore (lv' := [(5, .int 1), (4, .int 0), (3, .ref (s.heap.size + 181)), (2, .ref (s.heap.size + 135)), (1, .ref s.heap.size), (0, .ref b)]) hx hb dL_law_1287 hl (by decide) rfl (fun ls hl => ?_)
  refine lv_aload_n hx hb dL_law_1289 rfl (lv_at hl 3 rfl) ?_
  refine lv_aload_n hx hb dL_law_1290 rfl (lv_at hl 5 rfl) ?_
  refine lv_iload hx hb dL_law_1291 (lv_at hl 1 rfl) ?_
  refine lv_iconst (v := 1) hx hb dL_law_1293 (by decide) ?_
  refine lv_iadd hx hb dL_law_1294 ?_
  refine va_sld (i := 0 + 1) hx hb hX hbl hbA hS (by unfold vp_in; decide) dL_law_1295 ?_
  rw [show ((0 : Int32) + 1).toNatClampNeg = 1 from by decide]
  refine lw_ref (As := [.int (xs 1)]) (V := [((s.heap.size + 135), .inr (cRm, [.int 0, .ref (s.heap.size + 135 + 1)])), ((s.heap.size + 135 + 1), .inr (cRh, [.ref (s.heap.size + 135 + 1 + 1), .ref (s.heap.size + 135 + 1 + 12), .ref (s.heap.size + 135 + 1 + 23), .ref (s.heap.size + 135 + 1 + 34), .ref (s.heap.size + 135 + 1 + 43), .ref (s.heap.size + 135 + 1 + 44), .int 0, .int 0, .int 0, .int 0, .int 0, .int 5, .int 200, .int 30]))]) (V2 := [((s.heap.size + 135), .inr (cRm, [.int 1, .ref (s.heap.size + 135 + 1)]))]) (B := lw_M s.heap.size H1.size) (q0 := 0) (ci := cRm) (r := (RX6, TX6, 2)) ⟨hx, hb, hml, hown, hts2⟩ (rX6_clean l D d.1 cB H1.size (s.heap.size + 135) (s.heap.size + 135 + 1) (s.heap.size + 135 + 1 + 1) (s.heap.size + 135 + 1 + 12) (s.heap.size + 135 + 1 + 23) (s.heap.size + 135 + 1 + 34) (s.heap.size + 135 + 1 + 43) (s.heap.size + 135 + 1 + 44) 0 (xs 1) (lw_M s.heap.size H1.size) (lw_lM (lw_d_m2 (d := d) (cB := cB)))) (cwV 1 hts2 gL_law_X6_clean rfl rfl rfl (by decide +kernel) ⟨Nat.le_of_ble_eq_true rfl, Nat.le_of_ble_eq_true rfl⟩) hK2 hP (lw_MB hsz) hS rfl rfl rfl rfl hl.1 (Nat.le_of_ble_eq_true rfl) dL_law_1296 ⟨Nat.le_of_ble_eq_true rfl, Nat.le_of_ble_eq_true rfl⟩ rfl (fun r_ H2 locs hp hM2 hq2 hz2 hS => ?_)
  subst hp
  have hO2 := rf_keep1 hO (fun _ => hq2 (s.heap.size + 181) (by omega) (lw_noM hsz))
  refine lv_istore (lv' := [(6, .int 0), (5, .int 1), (4, .int 0), (3, .ref (s.heap.size + 181)), (2, .ref (s.heap.size + 135)), (1, .ref s.heap.size), (0, .ref b)]) hx hb dL_law_1299 hl (by decide) rfl (fun ls hl => ?_)
  refine lv_aload_n hx hb dL_law_1301 rfl (lv_at hl 4 rfl) ?_
  refine rf_callR (As := []) (W0 := [((s.heap.size + 135), .inr (cRm, [.int 1, .ref (s.heap.size + 135 + 1)]))] ++ [((s.heap.size + 181), .inl (cL, 1, .inr (.inl (fun _ => 0))))]) (V := [((s.heap.size + 135), .inr (cRm, [.int 1, .ref (s.heap.size + 135 + 1)]))]) (q0 := 0) (ci := cRm) (r := (RX6, TX6, 2)) ⟨hx, hb, hml, hown, hts2⟩ (rX6_thrown l D d.1 cB H2.size (s.heap.size + 135) (s.heap.size + 135 + 1) 1) (cwV 0 hts2 gL_law_X6_thrown rfl rfl rfl (by decide +kernel) ⟨Nat.le_of_ble_eq_true rfl, Nat.le_of_ble_eq_true rfl⟩) hK2 (hM2.app hO2) hM2 hS rfl rfl rfl rfl hl.1 (Nat.le_of_ble_eq_true rfl) dL_law_1302 ⟨Nat.le_of_ble_eq_true rfl, Nat.le_of_ble_eq_true rfl⟩ rfl (fun r_ H3 locs hp hP3 hS => ?_)
  subst hp
  refine lv_iload hx hb dL_law_1305 (lv_at hl 1 rfl) ?_
  refine lv_icmp_eq (tgt := 1312) hx hb dL_law_1307 (by decide) (fun c_1307 => ?_) (fun c_1307 => ?_)
  · refine lv_iload hx hb dL_law_1312 (lv_at hl 1 rfl) ?_
    refine lv_if_ne (tgt := 1329) hx hb dL_law_1314 (by decide) (fun c_1314 => ?_) (fun c_1314 => ?_)
    · refine lv_goto (tgt := 2108) hx hb dL_law_1329 (by decide) ?_
      exact lw_tail G hS (Nat.le_of_ble_eq_true rfl) (Nat.le_of_ble_eq_true rfl) (lv_sub hl [2, 6] rfl)
    · exact absurd c_1314 (by decide)
  · exact absurd (by decide) c_1307
set_option maxHeartbeats 4000000 in
set_option maxRecDepth 100000 in
/-- the law: lw_c22 -/
theorem lw_c22 {p : Program} {l : Launch} {e : Env} {s : State} {m : MethodId} {below : List Frame} {meth : Method} {c : Code} {b : Nat} {D : va_G} {d : hs_Dm} {cB cL : ClassId} {xs : Nat → Int32} (G : lw_G p l s m meth c b D d cB cL xs)  {H : Heap} {locs : List Loc} (hg : rg D (lw_X d cB cL s.heap.size) s.heap.size 182 H) (hz0 : H.size = s.heap.size + 182) (hS : va_S (rg_A s.heap.size) s.heap H locs) {ls : Array Slot} (hl : lv_has ls 9 [(4, .int 0), (3, .ref (s.heap.size + 181)), (2, .ref (s.heap.size + 135)), (1, .ref s.heap.size), (0, .ref b)]) : W p l e room_1 s m #[Value.ref b] below meth c H locs 182 1149 (lw_Z below #[Value.ref b] s) (F0 m 1700 ls []) := by
  obtain ⟨hx, hb, hr, hlocks, hml, hown, hts, hl0, hX, hbl, hK, hK2, hKL, hXE⟩ := id G
  have hts2 : ∀ w ∈ wsL_law, w.before #[Value.ref b] s = true := fun w h => hts w (wsL_law_in w h)
  have hbA : ¬ rg_A s.heap.size b := Nat.not_le.mpr hbl
  refine lv_aload_n hx hb dL_law_1700 rfl (lv_at hl 3 rfl) ?_
  refine lv_aload_n hx hb dL_law_1701 rfl (lv_at hl 4 rfl) ?_
  refine lv_iload hx hb dL_law_1702 (lv_at hl 0 rfl) ?_
  refine lv_iconst (v := 1) hx hb dL_law_1704 (by decide) ?_
  refine lv_iadd hx hb dL_law_1705 ?_
  refine va_sld (i := 0 + 1) hx hb hX hbl hbA hS (by unfold vp_in; decide) dL_law_1706 ?_
  rw [show ((0 : Int32) + 1).toNatClampNeg = 1 from by decide]
  refine lv_aload_n hx hb dL_law_1707 rfl (lv_at hl 4 rfl) ?_
  refine lv_iload hx hb dL_law_1708 (lv_at hl 0 rfl) ?_
  refine lv_iconst (v := 2) hx hb dL_law_1710 (by decide) ?_
  refine lv_iadd hx hb dL_law_1711 ?_
  refine va_sld (i := 0 + 2) hx hb hX hbl hbA hS (by unfold vp_in; decide) dL_law_1712 ?_
  rw [show ((0 : Int32) + 2).toNatClampNeg = 2 from by decide]
  refine lv_aload_n hx hb dL_law_1713 rfl (lv_at hl 1 rfl) ?_
  refine lw_help (As := [.ref s.heap.size, .int (xs 1), .int (xs 2), .ref (s.heap.size + 181)]) ⟨hx, hb, hml, hown, hts2⟩ (hT_ofRoom l D d s.heap.size (rc_L (s.heap.size + 1)) (rc_L (s.heap.size + 68)) (lw_A1 s.heap.size) (lw_A2 s.heap.size) (lw_B s.heap.size) (s.heap.size + 181) cL (fun _ => 0) lw_wB (fun _ h => lw_AB h) (Or.inr rfl) lw_oA hl0 (xs 1) (xs 2)) (vx_cwSW 4 hts2 gL_law_L_ofRoom rfl rfl rfl (by decide +kernel) ⟨Nat.le_of_ble_eq_true rfl, Nat.le_of_ble_eq_true rfl⟩) (lw_house hg) (lw_trial hg) hK hXE lw_BB (lw_wax hg) (lw_out hg) hKL hS rfl hl.1 (Nat.le_of_ble_eq_true rfl) dL_law_1714 ⟨Nat.le_of_ble_eq_true rfl, Nat.le_of_ble_eq_true rfl⟩ rfl (fun H1 locs hO hq hz hS => ?_)
  have hsz : s.heap.size + 182 ≤ H1.size := by rw [← hz0]; exact hz
  have hP := lw_keep (lw_w_m2 hg) (lw_d_m2 (d := d) (cB := cB)) hq
  refine lv_istore (lv' := [(5, .int 1), (4, .int 0), (3, .ref (s.heap.size + 181)), (2, .ref (s.heap.size + 135)), (1, .ref s.heap.size), (0, .ref b)]) hx hb dL_law_1717 hl (by decide) rfl (fun ls hl => ?_)
  refine lv_aload_n hx hb dL_law_1719 rfl (lv_at hl 3 rfl) ?_
  refine lv_aload_n hx hb dL_law_1720 rfl (lv_at hl 5 rfl) ?_
  refine lv_iload hx hb dL_law_1721 (lv_at hl 1 rfl) ?_
  refine lv_iconst (v := 1) hx hb dL_law_1723 (by decide) ?_
  refine lv_iadd hx hb dL_law_1724 ?_
  refine va_sld (i := 0 + 1) hx hb hX hbl hbA hS (by unfold vp_in; decide) dL_law_1725 ?_
  rw [show ((0 : Int32) + 1).toNatClampNeg = 1 from by decide]
  refine lv_aload_n hx hb dL_law_1726 rfl (lv_at hl 5 rfl) ?_
  refine lv_iload hx hb dL_law_1727 (lv_at hl 1 rfl) ?_
  refine lv_iconst (v := 2) hx hb dL_law_1729 (by decide) ?_
  refine lv_iadd hx hb dL_law_1730 ?_
  refine va_sld (i := 0 + 2) hx hb hX hbl hbA hS (by unfold vp_in; decide) dL_law_1731 ?_
  rw [show ((0 : Int32) + 2).toNatClampNeg = 2 from by decide]
  refine lw_ref (As := [.int (xs 1), .int (xs 2)]) (V := [((s.heap.size + 135), .inr (cRm, [.int 0, .ref (s.heap.size + 135 + 1)])), ((s.heap.size + 135 + 1), .inr (cRh, [.ref (s.heap.size + 135 + 1 + 1), .ref (s.heap.size + 135 + 1 + 12), .ref (s.heap.size + 135 + 1 + 23), .ref (s.heap.size + 135 + 1 + 34), .ref (s.heap.size + 135 + 1 + 43), .ref (s.heap.size + 135 + 1 + 44), .int 0, .int 0, .int 0, .int 0, .int 0, .int 5, .int 200, .int 30]))]) (V2 := [((s.heap.size + 135), .inr (cRm, [.int 1, .ref (s.heap.size + 135 + 1)]))]) (B := lw_M s.heap.size H1.size) (q0 := 0) (ci := cRm) (r := (RX6, TX6, 2)) ⟨hx, hb, hml, hown, hts2⟩ (rX6_ofRoom l D d.1 cB H1.size (s.heap.size + 135) (s.heap.size + 135 + 1) (s.heap.size + 135 + 1 + 1) (s.heap.size + 135 + 1 + 12) (s.heap.size + 135 + 1 + 23) (s.heap.size + 135 + 1 + 34) (s.heap.size + 135 + 1 + 43) (s.heap.size + 135 + 1 + 44) 0 (xs 1) (xs 2) (lw_M s.heap.size H1.size) (lw_lM (lw_d_m2 (d := d) (cB := cB)))) (cwV 2 hts2 gL_law_X6_ofRoom rfl rfl rfl (by decide +kernel) ⟨Nat.le_of_ble_eq_true rfl, Nat.le_of_ble_eq_true rfl⟩) hK2 hP (lw_MB hsz) hS rfl rfl rfl rfl hl.1 (Nat.le_of_ble_eq_true rfl) dL_law_1732 ⟨Nat.le_of_ble_eq_true rfl, Nat.le_of_ble_eq_true rfl⟩ rfl (fun r_ H2 locs hp hM2 hq2 hz2 hS => ?_)
  subst hp
  have hO2 := rf_keep1 hO (fun _ => hq2 (s.heap.size + 181) (by omega) (lw_noM hsz))
  refine lv_istore (lv' := [(6, .int 0), (5, .int 1), (4, .int 0), (3, .ref (s.heap.size + 181)), (2, .ref (s.heap.size + 135)), (1, .ref s.heap.size), (0, .ref b)]) hx hb dL_law_1735 hl (by decide) rfl (fun ls hl => ?_)
  refine lv_aload_n hx hb dL_law_1737 rfl (lv_at hl 4 rfl) ?_
  refine rf_callR (As := []) (W0 := [((s.heap.size + 135), .inr (cRm, [.int 1, .ref (s.heap.size + 135 + 1)]))] ++ [((s.heap.size + 181), .inl (cL, 1, .inr (.inl (fun _ => 0))))]) (V := [((s.heap.size + 135), .inr (cRm, [.int 1, .ref (s.heap.size + 135 + 1)]))]) (q0 := 0) (ci := cRm) (r := (RX6, TX6, 2)) ⟨hx, hb, hml, hown, hts2⟩ (rX6_thrown l D d.1 cB H2.size (s.heap.size + 135) (s.heap.size + 135 + 1) 1) (cwV 0 hts2 gL_law_X6_thrown rfl rfl rfl (by decide +kernel) ⟨Nat.le_of_ble_eq_true rfl, Nat.le_of_ble_eq_true rfl⟩) hK2 (hM2.app hO2) hM2 hS rfl rfl rfl rfl hl.1 (Nat.le_of_ble_eq_true rfl) dL_law_1738 ⟨Nat.le_of_ble_eq_true rfl, Nat.le_of_ble_eq_true rfl⟩ rfl (fun r_ H3 locs hp hP3 hS => ?_)
  subst hp
  refine lv_iload hx hb dL_law_1741 (lv_at hl 1 rfl) ?_
  refine lv_icmp_eq (tgt := 1748) hx hb dL_law_1743 (by decide) (fun c_1743 => ?_) (fun c_1743 => ?_)
  · refine lv_iload hx hb dL_law_1748 (lv_at hl 1 rfl) ?_
    refine lv_if_ne (tgt := 1765) hx hb dL_law_1750 (by decide) (fun c_1750 => ?_) (fun c_1750 => ?_)
    · refine lv_goto (tgt := 2108) hx hb dL_law_1765 (by decide) ?_
      exact lw_tail G hS (Nat.le_of_ble_eq_true rfl) (Nat.le_of_ble_eq_true rfl) (lv_sub hl [2, 6] rfl)
    · exact absurd c_1750 (by decide)
  · exact absurd (by decide) c_1743
set_option maxHeartbeats 4000000 in
set_option maxRecDepth 100000 in
/-- the law: lw_c0_a -/
theorem lw_c0_a {p : Program} {l : Launch} {e : Env} {s : State} {m : MethodId} {below : List Frame} {meth : Method} {c : Code} {b : Nat} {D : va_G} {d : hs_Dm} {cB cL : ClassId} {xs : Nat → Int32} (G : lw_G p l s m meth c b D d cB cL xs) (g0 : xs 1 < 0 ∨ ¬ xs 1 ≤ 999) {H : Heap} {locs : List Loc} (hg : rg D (lw_X d cB cL s.heap.size) s.heap.size 182 H) (hz0 : H.size = s.heap.size + 182) (hS : va_S (rg_A s.heap.size) s.heap H locs) {ls : Array Slot} (hl : lv_has ls 9 [(4, .int 0), (3, .ref (s.heap.size + 181)), (2, .ref (s.heap.size + 135)), (1, .ref s.heap.size), (0, .ref b)]) : W p l e room_1 s m #[Value.ref b] below meth c H locs 182 1149 (lw_Z below #[Value.ref b] s) (F0 m 172 ls []) := by
  obtain ⟨hx, hb, hr, hlocks, hml, hown, hts, hl0, hX, hbl, hK, hK2, hKL, hXE⟩ := id G
  have hts2 : ∀ w ∈ wsL_law, w.before #[Value.ref b] s = true := fun w h => hts w (wsL_law_in w h)
  have hbA : ¬ rg_A s.heap.size b := Nat.not_le.mpr hbl
  refine lv_aload_n hx hb dL_law_172 rfl (lv_at hl 3 rfl) ?_
  refine lv_aload_n hx hb dL_law_173 rfl (lv_at hl 4 rfl) ?_
  refine lv_iload hx hb dL_law_174 (lv_at hl 0 rfl) ?_
  refine lv_iconst (v := 1) hx hb dL_law_176 (by decide) ?_
  refine lv_iadd hx hb dL_law_177 ?_
  refine va_sld (i := 0 + 1) hx hb hX hbl hbA hS (by unfold vp_in; decide) dL_law_178 ?_
  rw [show ((0 : Int32) + 1).toNatClampNeg = 1 from by decide]
  refine lv_aload_n hx hb dL_law_179 rfl (lv_at hl 4 rfl) ?_
  refine lv_iload hx hb dL_law_180 (lv_at hl 0 rfl) ?_
  refine lv_iconst (v := 2) hx hb dL_law_182 (by decide) ?_
  refine lv_iadd hx hb dL_law_183 ?_
  refine va_sld (i := 0 + 2) hx hb hX hbl hbA hS (by unfold vp_in; decide) dL_law_184 ?_
  rw [show ((0 : Int32) + 2).toNatClampNeg = 2 from by decide]
  refine lv_aload_n hx hb dL_law_185 rfl (lv_at hl 4 rfl) ?_
  refine lv_iload hx hb dL_law_186 (lv_at hl 0 rfl) ?_
  refine lv_iconst (v := 3) hx hb dL_law_188 (by decide) ?_
  refine lv_iadd hx hb dL_law_189 ?_
  refine va_sld (i := 0 + 3) hx hb hX hbl hbA hS (by unfold vp_in; decide) dL_law_190 ?_
  rw [show ((0 : Int32) + 3).toNatClampNeg = 3 from by decide]
  refine lv_aload_n hx hb dL_law_191 rfl (lv_at hl 1 rfl) ?_
  refine lw_help (As := [.ref s.heap.size, .int (xs 1), .int (xs 2), .int (xs 3), .ref (s.heap.size + 181)]) ⟨hx, hb, hml, hown, hts2⟩ (hA_person_0 l D d s.heap.size (rc_L (s.heap.size + 1)) (rc_L (s.heap.size + 68)) (lw_A1 s.heap.size) (lw_A2 s.heap.size) (lw_B s.heap.size) (s.heap.size + 181) cL (fun _ => 0) lw_wB (fun _ h => lw_AB h) (Or.inr rfl) lw_oA hl0 (xs 1) (xs 2) (xs 3) g0) (vx_cwSW 5 hts2 gL_law_L_person rfl rfl rfl (by decide +kernel) ⟨Nat.le_of_ble_eq_true rfl, Nat.le_of_ble_eq_true rfl⟩) (lw_house hg) (lw_trial hg) hK hXE lw_BB (lw_wax hg) (lw_out hg) hKL hS rfl hl.1 (Nat.le_of_ble_eq_true rfl) dL_law_192 ⟨Nat.le_of_ble_eq_true rfl, Nat.le_of_ble_eq_true rfl⟩ rfl (fun H1 locs hO hq hz hS => ?_)
  have hsz : s.heap.size + 182 ≤ H1.size := by rw [← hz0]; exact hz
  have hP := lw_keep (lw_w_m2 hg) (lw_d_m2 (d := d) (cB := cB)) hq
  refine lv_istore (lv' := [(5, .int 1), (4, .int 0), (3, .ref (s.heap.size + 181)), (2, .ref (s.heap.size + 135)), (1, .ref s.heap.size), (0, .ref b)]) hx hb dL_law_195 hl (by decide) rfl (fun ls hl => ?_)
  refine lv_aload_n hx hb dL_law_197 rfl (lv_at hl 3 rfl) ?_
  refine lv_aload_n hx hb dL_law_198 rfl (lv_at hl 5 rfl) ?_
  refine lv_iload hx hb dL_law_199 (lv_at hl 1 rfl) ?_
  refine lv_iconst (v := 1) hx hb dL_law_201 (by decide) ?_
  refine lv_iadd hx hb dL_law_202 ?_
  refine va_sld (i := 0 + 1) hx hb hX hbl hbA hS (by unfold vp_in; decide) dL_law_203 ?_
  rw [show ((0 : Int32) + 1).toNatClampNeg = 1 from by decide]
  refine lv_aload_n hx hb dL_law_204 rfl (lv_at hl 5 rfl) ?_
  refine lv_iload hx hb dL_law_205 (lv_at hl 1 rfl) ?_
  refine lv_iconst (v := 2) hx hb dL_law_207 (by decide) ?_
  refine lv_iadd hx hb dL_law_208 ?_
  refine va_sld (i := 0 + 2) hx hb hX hbl hbA hS (by unfold vp_in; decide) dL_law_209 ?_
  rw [show ((0 : Int32) + 2).toNatClampNeg = 2 from by decide]
  refine lv_aload_n hx hb dL_law_210 rfl (lv_at hl 5 rfl) ?_
  refine lv_iload hx hb dL_law_211 (lv_at hl 1 rfl) ?_
  refine lv_iconst (v := 3) hx hb dL_law_213 (by decide) ?_
  refine lv_iadd hx hb dL_law_214 ?_
  refine va_sld (i := 0 + 3) hx hb hX hbl hbA hS (by unfold vp_in; decide) dL_law_215 ?_
  rw [show ((0 : Int32) + 3).toNatClampNeg = 3 from by decide]
  refine lw_ref (As := [.int (xs 1), .int (xs 2), .int (xs 3)]) (V := [((s.heap.size + 135), .inr (cRm, [.int 0, .ref (s.heap.size + 135 + 1)])), ((s.heap.size + 135 + 1), .inr (cRh, [.ref (s.heap.size + 135 + 1 + 1), .ref (s.heap.size + 135 + 1 + 12), .ref (s.heap.size + 135 + 1 + 23), .ref (s.heap.size + 135 + 1 + 34), .ref (s.heap.size + 135 + 1 + 43), .ref (s.heap.size + 135 + 1 + 44), .int 0, .int 0, .int 0, .int 0, .int 0, .int 5, .int 200, .int 30]))]) (V2 := [((s.heap.size + 135), .inr (cRm, [.int 1, .ref (s.heap.size + 135 + 1)]))]) (B := lw_M s.heap.size H1.size) (q0 := 0) (ci := cRm) (r := (RX6, TX6, 2)) ⟨hx, hb, hml, hown, hts2⟩ (rX6_person_bad l D d.1 cB H1.size (s.heap.size + 135) (s.heap.size + 135 + 1) (s.heap.size + 135 + 1 + 1) (s.heap.size + 135 + 1 + 12) (s.heap.size + 135 + 1 + 23) (s.heap.size + 135 + 1 + 34) (s.heap.size + 135 + 1 + 43) (s.heap.size + 135 + 1 + 44) 0 (xs 1) (xs 2) (xs 3) (lw_M s.heap.size H1.size) (lw_lM (lw_d_m2 (d := d) (cB := cB))) (Or.inl (sp_in_0 g0))) (cwV 3 hts2 gL_law_X6_person rfl rfl rfl (by decide +kernel) ⟨Nat.le_of_ble_eq_true rfl, Nat.le_of_ble_eq_true rfl⟩) hK2 hP (lw_MB hsz) hS rfl rfl rfl rfl hl.1 (Nat.le_of_ble_eq_true rfl) dL_law_216 ⟨Nat.le_of_ble_eq_true rfl, Nat.le_of_ble_eq_true rfl⟩ rfl (fun r_ H2 locs hp hM2 hq2 hz2 hS => ?_)
  subst hp
  have hO2 := rf_keep1 hO (fun _ => hq2 (s.heap.size + 181) (by omega) (lw_noM hsz))
  refine lv_istore (lv' := [(6, .int 0), (5, .int 1), (4, .int 0), (3, .ref (s.heap.size + 181)), (2, .ref (s.heap.size + 135)), (1, .ref s.heap.size), (0, .ref b)]) hx hb dL_law_219 hl (by decide) rfl (fun ls hl => ?_)
  refine lv_aload_n hx hb dL_law_221 rfl (lv_at hl 4 rfl) ?_
  refine rf_callR (As := []) (W0 := [((s.heap.size + 135), .inr (cRm, [.int 1, .ref (s.heap.size + 135 + 1)]))] ++ [((s.heap.size + 181), .inl (cL, 1, .inr (.inl (fun _ => 0))))]) (V := [((s.heap.size + 135), .inr (cRm, [.int 1, .ref (s.heap.size + 135 + 1)]))]) (q0 := 0) (ci := cRm) (r := (RX6, TX6, 2)) ⟨hx, hb, hml, hown, hts2⟩ (rX6_thrown l D d.1 cB H2.size (s.heap.size + 135) (s.heap.size + 135 + 1) 1) (cwV 0 hts2 gL_law_X6_thrown rfl rfl rfl (by decide +kernel) ⟨Nat.le_of_ble_eq_true rfl, Nat.le_of_ble_eq_true rfl⟩) hK2 (hM2.app hO2) hM2 hS rfl rfl rfl rfl hl.1 (Nat.le_of_ble_eq_true rfl) dL_law_222 ⟨Nat.le_of_ble_eq_true rfl, Nat.le_of_ble_eq_true rfl⟩ rfl (fun r_ H3 locs hp hP3 hS => ?_)
  subst hp
  refine lv_iload hx hb dL_law_225 (lv_at hl 1 rfl) ?_
  refine lv_icmp_eq (tgt := 232) hx hb dL_law_227 (by decide) (fun c_227 => ?_) (fun c_227 => ?_)
  · refine lv_iload hx hb dL_law_232 (lv_at hl 1 rfl) ?_
    refine lv_if_ne (tgt := 249) hx hb dL_law_234 (by decide) (fun c_234 => ?_) (fun c_234 => ?_)
    · refine lv_goto (tgt := 2108) hx hb dL_law_249 (by decide) ?_
      exact lw_tail G hS (Nat.le_of_ble_eq_true rfl) (Nat.le_of_ble_eq_true rfl) (lv_sub hl [2, 6] rfl)
    · exact absurd c_234 (by decide)
  · exact absurd (by decide) c_227
set_option maxHeartbeats 4000000 in
set_option maxRecDepth 100000 in
/-- the law: lw_c0_b -/
theorem lw_c0_b {p : Program} {l : Launch} {e : Env} {s : State} {m : MethodId} {below : List Frame} {meth : Method} {c : Code} {b : Nat} {D : va_G} {d : hs_Dm} {cB cL : ClassId} {xs : Nat → Int32} (G : lw_G p l s m meth c b D d cB cL xs) (g1 : ¬ xs 1 < 0) (g2 : xs 1 ≤ 999) (g0 : xs 2 < 0 ∨ ¬ xs 2 ≤ 999) {H : Heap} {locs : List Loc} (hg : rg D (lw_X d cB cL s.heap.size) s.heap.size 182 H) (hz0 : H.size = s.heap.size + 182) (hS : va_S (rg_A s.heap.size) s.heap H locs) {ls : Array Slot} (hl : lv_has ls 9 [(4, .int 0), (3, .ref (s.heap.size + 181)), (2, .ref (s.heap.size + 135)), (1, .ref s.heap.size), (0, .ref b)]) : W p l e room_1 s m #[Value.ref b] below meth c H locs 182 1149 (lw_Z below #[Value.ref b] s) (F0 m 172 ls []) := by
  obtain ⟨hx, hb, hr, hlocks, hml, hown, hts, hl0, hX, hbl, hK, hK2, hKL, hXE⟩ := id G
  have hts2 : ∀ w ∈ wsL_law, w.before #[Value.ref b] s = true := fun w h => hts w (wsL_law_in w h)
  have hbA : ¬ rg_A s.heap.size b := Nat.not_le.mpr hbl
  refine lv_aload_n hx hb dL_law_172 rfl (lv_at hl 3 rfl) ?_
  refine lv_aload_n hx hb dL_law_173 rfl (lv_at hl 4 rfl) ?_
  refine lv_iload hx hb dL_law_174 (lv_at hl 0 rfl) ?_
  refine lv_iconst (v := 1) hx hb dL_law_176 (by decide) ?_
  refine lv_iadd hx hb dL_law_177 ?_
  refine va_sld (i := 0 + 1) hx hb hX hbl hbA hS (by unfold vp_in; decide) dL_law_178 ?_
  rw [show ((0 : Int32) + 1).toNatClampNeg = 1 from by decide]
  refine lv_aload_n hx hb dL_law_179 rfl (lv_at hl 4 rfl) ?_
  refine lv_iload hx hb dL_law_180 (lv_at hl 0 rfl) ?_
  refine lv_iconst (v := 2) hx hb dL_law_182 (by decide) ?_
  refine lv_iadd hx hb dL_law_183 ?_
  refine va_sld (i := 0 + 2) hx hb hX hbl hbA hS (by unfold vp_in; decide) dL_law_184 ?_
  rw [show ((0 : Int32) + 2).toNatClampNeg = 2 from by decide]
  refine lv_aload_n hx hb dL_law_185 rfl (lv_at hl 4 rfl) ?_
  refine lv_iload hx hb dL_law_186 (lv_at hl 0 rfl) ?_
  refine lv_iconst (v := 3) hx hb dL_law_188 (by decide) ?_
  refine lv_iadd hx hb dL_law_189 ?_
  refine va_sld (i := 0 + 3) hx hb hX hbl hbA hS (by unfold vp_in; decide) dL_law_190 ?_
  rw [show ((0 : Int32) + 3).toNatClampNeg = 3 from by decide]
  refine lv_aload_n hx hb dL_law_191 rfl (lv_at hl 1 rfl) ?_
  refine lw_help (As := [.ref s.heap.size, .int (xs 1), .int (xs 2), .int (xs 3), .ref (s.heap.size + 181)]) ⟨hx, hb, hml, hown, hts2⟩ (hA_person_1 l D d s.heap.size (rc_L (s.heap.size + 1)) (rc_L (s.heap.size + 68)) (lw_A1 s.heap.size) (lw_A2 s.heap.size) (lw_B s.heap.size) (s.heap.size + 181) cL (fun _ => 0) lw_wB (fun _ h => lw_AB h) (Or.inr rfl) lw_oA hl0 (xs 1) (xs 2) (xs 3) g1 g2 g0) (vx_cwSW 5 hts2 gL_law_L_person rfl rfl rfl (by decide +kernel) ⟨Nat.le_of_ble_eq_true rfl, Nat.le_of_ble_eq_true rfl⟩) (lw_house hg) (lw_trial hg) hK hXE lw_BB (lw_wax hg) (lw_out hg) hKL hS rfl hl.1 (Nat.le_of_ble_eq_true rfl) dL_law_192 ⟨Nat.le_of_ble_eq_true rfl, Nat.le_of_ble_eq_true rfl⟩ rfl (fun H1 locs hO hq hz hS => ?_)
  have hsz : s.heap.size + 182 ≤ H1.size := by rw [← hz0]; exact hz
  have hP := lw_keep (lw_w_m2 hg) (lw_d_m2 (d := d) (cB := cB)) hq
  refine lv_istore (lv' := [(5, .int 1), (4, .int 0), (3, .ref (s.heap.size + 181)), (2, .ref (s.heap.size + 135)), (1, .ref s.heap.size), (0, .ref b)]) hx hb dL_law_195 hl (by decide) rfl (fun ls hl => ?_)
  refine lv_aload_n hx hb dL_law_197 rfl (lv_at hl 3 rfl) ?_
  refine lv_aload_n hx hb dL_law_198 rfl (lv_at hl 5 rfl) ?_
  refine lv_iload hx hb dL_law_199 (lv_at hl 1 rfl) ?_
  refine lv_iconst (v := 1) hx hb dL_law_201 (by decide) ?_
  refine lv_iadd hx hb dL_law_202 ?_
  refine va_sld (i := 0 + 1) hx hb hX hbl hbA hS (by unfold vp_in; decide) dL_law_203 ?_
  rw [show ((0 : Int32) + 1).toNatClampNeg = 1 from by decide]
  refine lv_aload_n hx hb dL_law_204 rfl (lv_at hl 5 rfl) ?_
  refine lv_iload hx hb dL_law_205 (lv_at hl 1 rfl) ?_
  refine lv_iconst (v := 2) hx hb dL_law_207 (by decide) ?_
  refine lv_iadd hx hb dL_law_208 ?_
  refine va_sld (i := 0 + 2) hx hb hX hbl hbA hS (by unfold vp_in; decide) dL_law_209 ?_
  rw [show ((0 : Int32) + 2).toNatClampNeg = 2 from by decide]
  refine lv_aload_n hx hb dL_law_210 rfl (lv_at hl 5 rfl) ?_
  refine lv_iload hx hb dL_law_211 (lv_at hl 1 rfl) ?_
  refine lv_iconst (v := 3) hx hb dL_law_213 (by decide) ?_
  refine lv_iadd hx hb dL_law_214 ?_
  refine va_sld (i := 0 + 3) hx hb hX hbl hbA hS (by unfold vp_in; decide) dL_law_215 ?_
  rw [show ((0 : Int32) + 3).toNatClampNeg = 3 from by decide]
  refine lw_ref (As := [.int (xs 1), .int (xs 2), .int (xs 3)]) (V := [((s.heap.size + 135), .inr (cRm, [.int 0, .ref (s.heap.size + 135 + 1)])), ((s.heap.size + 135 + 1), .inr (cRh, [.ref (s.heap.size + 135 + 1 + 1), .ref (s.heap.size + 135 + 1 + 12), .ref (s.heap.size + 135 + 1 + 23), .ref (s.heap.size + 135 + 1 + 34), .ref (s.heap.size + 135 + 1 + 43), .ref (s.heap.size + 135 + 1 + 44), .int 0, .int 0, .int 0, .int 0, .int 0, .int 5, .int 200, .int 30]))]) (V2 := [((s.heap.size + 135), .inr (cRm, [.int 1, .ref (s.heap.size + 135 + 1)]))]) (B := lw_M s.heap.size H1.size) (q0 := 0) (ci := cRm) (r := (RX6, TX6, 2)) ⟨hx, hb, hml, hown, hts2⟩ (rX6_person_bad l D d.1 cB H1.size (s.heap.size + 135) (s.heap.size + 135 + 1) (s.heap.size + 135 + 1 + 1) (s.heap.size + 135 + 1 + 12) (s.heap.size + 135 + 1 + 23) (s.heap.size + 135 + 1 + 34) (s.heap.size + 135 + 1 + 43) (s.heap.size + 135 + 1 + 44) 0 (xs 1) (xs 2) (xs 3) (lw_M s.heap.size H1.size) (lw_lM (lw_d_m2 (d := d) (cB := cB))) (Or.inr (Or.inl (sp_in_0 g0)))) (cwV 3 hts2 gL_law_X6_person rfl rfl rfl (by decide +kernel) ⟨Nat.le_of_ble_eq_true rfl, Nat.le_of_ble_eq_true rfl⟩) hK2 hP (lw_MB hsz) hS rfl rfl rfl rfl hl.1 (Nat.le_of_ble_eq_true rfl) dL_law_216 ⟨Nat.le_of_ble_eq_true rfl, Nat.le_of_ble_eq_true rfl⟩ rfl (fun r_ H2 locs hp hM2 hq2 hz2 hS => ?_)
  subst hp
  have hO2 := rf_keep1 hO (fun _ => hq2 (s.heap.size + 181) (by omega) (lw_noM hsz))
  refine lv_istore (lv' := [(6, .int 0), (5, .int 1), (4, .int 0), (3, .ref (s.heap.size + 181)), (2, .ref (s.heap.size + 135)), (1, .ref s.heap.size), (0, .ref b)]) hx hb dL_law_219 hl (by decide) rfl (fun ls hl => ?_)
  refine lv_aload_n hx hb dL_law_221 rfl (lv_at hl 4 rfl) ?_
  refine rf_callR (As := []) (W0 := [((s.heap.size + 135), .inr (cRm, [.int 1, .ref (s.heap.size + 135 + 1)]))] ++ [((s.heap.size + 181), .inl (cL, 1, .inr (.inl (fun _ => 0))))]) (V := [((s.heap.size + 135), .inr (cRm, [.int 1, .ref (s.heap.size + 135 + 1)]))]) (q0 := 0) (ci := cRm) (r := (RX6, TX6, 2)) ⟨hx, hb, hml, hown, hts2⟩ (rX6_thrown l D d.1 cB H2.size (s.heap.size + 135) (s.heap.size + 135 + 1) 1) (cwV 0 hts2 gL_law_X6_thrown rfl rfl rfl (by decide +kernel) ⟨Nat.le_of_ble_eq_true rfl, Nat.le_of_ble_eq_true rfl⟩) hK2 (hM2.app hO2) hM2 hS rfl rfl rfl rfl hl.1 (Nat.le_of_ble_eq_true rfl) dL_law_222 ⟨Nat.le_of_ble_eq_true rfl, Nat.le_of_ble_eq_true rfl⟩ rfl (fun r_ H3 locs hp hP3 hS => ?_)
  subst hp
  refine lv_iload hx hb dL_law_225 (lv_at hl 1 rfl) ?_
  refine lv_icmp_eq (tgt := 232) hx hb dL_law_227 (by decide) (fun c_227 => ?_) (fun c_227 => ?_)
  · refine lv_iload hx hb dL_law_232 (lv_at hl 1 rfl) ?_
    refine lv_if_ne (tgt := 249) hx hb dL_law_234 (by decide) (fun c_234 => ?_) (fun c_234 => ?_)
    · refine lv_goto (tgt := 2108) hx hb dL_law_249 (by decide) ?_
      exact lw_tail G hS (Nat.le_of_ble_eq_true rfl) (Nat.le_of_ble_eq_true rfl) (lv_sub hl [2, 6] rfl)
    · exact absurd c_234 (by decide)
  · exact absurd (by decide) c_227
set_option maxHeartbeats 4000000 in
set_option maxRecDepth 100000 in
/-- the law: lw_c0_c -/
theorem lw_c0_c {p : Program} {l : Launch} {e : Env} {s : State} {m : MethodId} {below : List Frame} {meth : Method} {c : Code} {b : Nat} {D : va_G} {d : hs_Dm} {cB cL : ClassId} {xs : Nat → Int32} (G : lw_G p l s m meth c b D d cB cL xs) (g1 : ¬ xs 1 < 0) (g2 : xs 1 ≤ 999) (g3 : ¬ xs 2 < 0) (g4 : xs 2 ≤ 999) (g0 : xs 3 < 0 ∨ ¬ xs 3 ≤ 999) {H : Heap} {locs : List Loc} (hg : rg D (lw_X d cB cL s.heap.size) s.heap.size 182 H) (hz0 : H.size = s.heap.size + 182) (hS : va_S (rg_A s.heap.size) s.heap H locs) {ls : Array Slot} (hl : lv_has ls 9 [(4, .int 0), (3, .ref (s.heap.size + 181)), (2, .ref (s.heap.size + 135)), (1, .ref s.heap.size), (0, .ref b)]) : W p l e room_1 s m #[Value.ref b] below meth c H locs 182 1149 (lw_Z below #[Value.ref b] s) (F0 m 172 ls []) := by
  obtain ⟨hx, hb, hr, hlocks, hml, hown, hts, hl0, hX, hbl, hK, hK2, hKL, hXE⟩ := id G
  have hts2 : ∀ w ∈ wsL_law, w.before #[Value.ref b] s = true := fun w h => hts w (wsL_law_in w h)
  have hbA : ¬ rg_A s.heap.size b := Nat.not_le.mpr hbl
  refine lv_aload_n hx hb dL_law_172 rfl (lv_at hl 3 rfl) ?_
  refine lv_aload_n hx hb dL_law_173 rfl (lv_at hl 4 rfl) ?_
  refine lv_iload hx hb dL_law_174 (lv_at hl 0 rfl) ?_
  refine lv_iconst (v := 1) hx hb dL_law_176 (by decide) ?_
  refine lv_iadd hx hb dL_law_177 ?_
  refine va_sld (i := 0 + 1) hx hb hX hbl hbA hS (by unfold vp_in; decide) dL_law_178 ?_
  rw [show ((0 : Int32) + 1).toNatClampNeg = 1 from by decide]
  refine lv_aload_n hx hb dL_law_179 rfl (lv_at hl 4 rfl) ?_
  refine lv_iload hx hb dL_law_180 (lv_at hl 0 rfl) ?_
  refine lv_iconst (v := 2) hx hb dL_law_182 (by decide) ?_
  refine lv_iadd hx hb dL_law_183 ?_
  refine va_sld (i := 0 + 2) hx hb hX hbl hbA hS (by unfold vp_in; decide) dL_law_184 ?_
  rw [show ((0 : Int32) + 2).toNatClampNeg = 2 from by decide]
  refine lv_aload_n hx hb dL_law_185 rfl (lv_at hl 4 rfl) ?_
  refine lv_iload hx hb dL_law_186 (lv_at hl 0 rfl) ?_
  refine lv_iconst (v := 3) hx hb dL_law_188 (by decide) ?_
  refine lv_iadd hx hb dL_law_189 ?_
  refine va_sld (i := 0 + 3) hx hb hX hbl hbA hS (by unfold vp_in; decide) dL_law_190 ?_
  rw [show ((0 : Int32) + 3).toNatClampNeg = 3 from by decide]
  refine lv_aload_n hx hb dL_law_191 rfl (lv_at hl 1 rfl) ?_
  refine lw_help (As := [.ref s.heap.size, .int (xs 1), .int (xs 2), .int (xs 3), .ref (s.heap.size + 181)]) ⟨hx, hb, hml, hown, hts2⟩ (hA_person_2 l D d s.heap.size (rc_L (s.heap.size + 1)) (rc_L (s.heap.size + 68)) (lw_A1 s.heap.size) (lw_A2 s.heap.size) (lw_B s.heap.size) (s.heap.size + 181) cL (fun _ => 0) lw_wB (fun _ h => lw_AB h) (Or.inr rfl) lw_oA hl0 (xs 1) (xs 2) (xs 3) g1 g2 g3 g4 g0) (vx_cwSW 5 hts2 gL_law_L_person rfl rfl rfl (by decide +kernel) ⟨Nat.le_of_ble_eq_true rfl, Nat.le_of_ble_eq_true rfl⟩) (lw_house hg) (lw_trial hg) hK hXE lw_BB (lw_wax hg) (lw_out hg) hKL hS rfl hl.1 (Nat.le_of_ble_eq_true rfl) dL_law_192 ⟨Nat.le_of_ble_eq_true rfl, Nat.le_of_ble_eq_true rfl⟩ rfl (fun H1 locs hO hq hz hS => ?_)
  have hsz : s.heap.size + 182 ≤ H1.size := by rw [← hz0]; exact hz
  have hP := lw_keep (lw_w_m2 hg) (lw_d_m2 (d := d) (cB := cB)) hq
  refine lv_istore (lv' := [(5, .int 1), (4, .int 0), (3, .ref (s.heap.size + 181)), (2, .ref (s.heap.size + 135)), (1, .ref s.heap.size), (0, .ref b)]) hx hb dL_law_195 hl (by decide) rfl (fun ls hl => ?_)
  refine lv_aload_n hx hb dL_law_197 rfl (lv_at hl 3 rfl) ?_
  refine lv_aload_n hx hb dL_law_198 rfl (lv_at hl 5 rfl) ?_
  refine lv_iload hx hb dL_law_199 (lv_at hl 1 rfl) ?_
  refine lv_iconst (v := 1) hx hb dL_law_201 (by decide) ?_
  refine lv_iadd hx hb dL_law_202 ?_
  refine va_sld (i := 0 + 1) hx hb hX hbl hbA hS (by unfold vp_in; decide) dL_law_203 ?_
  rw [show ((0 : Int32) + 1).toNatClampNeg = 1 from by decide]
  refine lv_aload_n hx hb dL_law_204 rfl (lv_at hl 5 rfl) ?_
  refine lv_iload hx hb dL_law_205 (lv_at hl 1 rfl) ?_
  refine lv_iconst (v := 2) hx hb dL_law_207 (by decide) ?_
  refine lv_iadd hx hb dL_law_208 ?_
  refine va_sld (i := 0 + 2) hx hb hX hbl hbA hS (by unfold vp_in; decide) dL_law_209 ?_
  rw [show ((0 : Int32) + 2).toNatClampNeg = 2 from by decide]
  refine lv_aload_n hx hb dL_law_210 rfl (lv_at hl 5 rfl) ?_
  refine lv_iload hx hb dL_law_211 (lv_at hl 1 rfl) ?_
  refine lv_iconst (v := 3) hx hb dL_law_213 (by decide) ?_
  refine lv_iadd hx hb dL_law_214 ?_
  refine va_sld (i := 0 + 3) hx hb hX hbl hbA hS (by unfold vp_in; decide) dL_law_215 ?_
  rw [show ((0 : Int32) + 3).toNatClampNeg = 3 from by decide]
  refine lw_ref (As := [.int (xs 1), .int (xs 2), .int (xs 3)]) (V := [((s.heap.size + 135), .inr (cRm, [.int 0, .ref (s.heap.size + 135 + 1)])), ((s.heap.size + 135 + 1), .inr (cRh, [.ref (s.heap.size + 135 + 1 + 1), .ref (s.heap.size + 135 + 1 + 12), .ref (s.heap.size + 135 + 1 + 23), .ref (s.heap.size + 135 + 1 + 34), .ref (s.heap.size + 135 + 1 + 43), .ref (s.heap.size + 135 + 1 + 44), .int 0, .int 0, .int 0, .int 0, .int 0, .int 5, .int 200, .int 30]))]) (V2 := [((s.heap.size + 135), .inr (cRm, [.int 1, .ref (s.heap.size + 135 + 1)]))]) (B := lw_M s.heap.size H1.size) (q0 := 0) (ci := cRm) (r := (RX6, TX6, 2)) ⟨hx, hb, hml, hown, hts2⟩ (rX6_person_bad l D d.1 cB H1.size (s.heap.size + 135) (s.heap.size + 135 + 1) (s.heap.size + 135 + 1 + 1) (s.heap.size + 135 + 1 + 12) (s.heap.size + 135 + 1 + 23) (s.heap.size + 135 + 1 + 34) (s.heap.size + 135 + 1 + 43) (s.heap.size + 135 + 1 + 44) 0 (xs 1) (xs 2) (xs 3) (lw_M s.heap.size H1.size) (lw_lM (lw_d_m2 (d := d) (cB := cB))) (Or.inr (Or.inr (sp_in_0 g0)))) (cwV 3 hts2 gL_law_X6_person rfl rfl rfl (by decide +kernel) ⟨Nat.le_of_ble_eq_true rfl, Nat.le_of_ble_eq_true rfl⟩) hK2 hP (lw_MB hsz) hS rfl rfl rfl rfl hl.1 (Nat.le_of_ble_eq_true rfl) dL_law_216 ⟨Nat.le_of_ble_eq_true rfl, Nat.le_of_ble_eq_true rfl⟩ rfl (fun r_ H2 locs hp hM2 hq2 hz2 hS => ?_)
  subst hp
  have hO2 := rf_keep1 hO (fun _ => hq2 (s.heap.size + 181) (by omega) (lw_noM hsz))
  refine lv_istore (lv' := [(6, .int 0), (5, .int 1), (4, .int 0), (3, .ref (s.heap.size + 181)), (2, .ref (s.heap.size + 135)), (1, .ref s.heap.size), (0, .ref b)]) hx hb dL_law_219 hl (by decide) rfl (fun ls hl => ?_)
  refine lv_aload_n hx hb dL_law_221 rfl (lv_at hl 4 rfl) ?_
  refine rf_callR (As := []) (W0 := [((s.heap.size + 135), .inr (cRm, [.int 1, .ref (s.heap.size + 135 + 1)]))] ++ [((s.heap.size + 181), .inl (cL, 1, .inr (.inl (fun _ => 0))))]) (V := [((s.heap.size + 135), .inr (cRm, [.int 1, .ref (s.heap.size + 135 + 1)]))]) (q0 := 0) (ci := cRm) (r := (RX6, TX6, 2)) ⟨hx, hb, hml, hown, hts2⟩ (rX6_thrown l D d.1 cB H2.size (s.heap.size + 135) (s.heap.size + 135 + 1) 1) (cwV 0 hts2 gL_law_X6_thrown rfl rfl rfl (by decide +kernel) ⟨Nat.le_of_ble_eq_true rfl, Nat.le_of_ble_eq_true rfl⟩) hK2 (hM2.app hO2) hM2 hS rfl rfl rfl rfl hl.1 (Nat.le_of_ble_eq_true rfl) dL_law_222 ⟨Nat.le_of_ble_eq_true rfl, Nat.le_of_ble_eq_true rfl⟩ rfl (fun r_ H3 locs hp hP3 hS => ?_)
  subst hp
  refine lv_iload hx hb dL_law_225 (lv_at hl 1 rfl) ?_
  refine lv_icmp_eq (tgt := 232) hx hb dL_law_227 (by decide) (fun c_227 => ?_) (fun c_227 => ?_)
  · refine lv_iload hx hb dL_law_232 (lv_at hl 1 rfl) ?_
    refine lv_if_ne (tgt := 249) hx hb dL_law_234 (by decide) (fun c_234 => ?_) (fun c_234 => ?_)
    · refine lv_goto (tgt := 2108) hx hb dL_law_249 (by decide) ?_
      exact lw_tail G hS (Nat.le_of_ble_eq_true rfl) (Nat.le_of_ble_eq_true rfl) (lv_sub hl [2, 6] rfl)
    · exact absurd c_234 (by decide)
  · exact absurd (by decide) c_227
set_option maxHeartbeats 4000000 in
set_option maxRecDepth 100000 in
/-- the law: lw_c0_d -/
theorem lw_c0_d {p : Program} {l : Launch} {e : Env} {s : State} {m : MethodId} {below : List Frame} {meth : Method} {c : Code} {b : Nat} {D : va_G} {d : hs_Dm} {cB cL : ClassId} {xs : Nat → Int32} (G : lw_G p l s m meth c b D d cB cL xs) (g1 : ¬ xs 1 < 0) (g2 : xs 1 ≤ 999) (g3 : ¬ xs 2 < 0) (g4 : xs 2 ≤ 999) (g5 : ¬ xs 3 < 0) (g6 : xs 3 ≤ 999) {H : Heap} {locs : List Loc} (hg : rg D (lw_X d cB cL s.heap.size) s.heap.size 182 H) (hz0 : H.size = s.heap.size + 182) (hS : va_S (rg_A s.heap.size) s.heap H locs) {ls : Array Slot} (hl : lv_has ls 9 [(4, .int 0), (3, .ref (s.heap.size + 181)), (2, .ref (s.heap.size + 135)), (1, .ref s.heap.size), (0, .ref b)]) : W p l e room_1 s m #[Value.ref b] below meth c H locs 182 1149 (lw_Z below #[Value.ref b] s) (F0 m 172 ls []) := by
  obtain ⟨hx, hb, hr, hlocks, hml, hown, hts, hl0, hX, hbl, hK, hK2, hKL, hXE⟩ := id G
  have hts2 : ∀ w ∈ wsL_law, w.before #[Value.ref b] s = true := fun w h => hts w (wsL_law_in w h)
  have hbA : ¬ rg_A s.heap.size b := Nat.not_le.mpr hbl
  refine lv_aload_n hx hb dL_law_172 rfl (lv_at hl 3 rfl) ?_
  refine lv_aload_n hx hb dL_law_173 rfl (lv_at hl 4 rfl) ?_
  refine lv_iload hx hb dL_law_174 (lv_at hl 0 rfl) ?_
  refine lv_iconst (v := 1) hx hb dL_law_176 (by decide) ?_
  refine lv_iadd hx hb dL_law_177 ?_
  refine va_sld (i := 0 + 1) hx hb hX hbl hbA hS (by unfold vp_in; decide) dL_law_178 ?_
  rw [show ((0 : Int32) + 1).toNatClampNeg = 1 from by decide]
  refine lv_aload_n hx hb dL_law_179 rfl (lv_at hl 4 rfl) ?_
  refine lv_iload hx hb dL_law_180 (lv_at hl 0 rfl) ?_
  refine lv_iconst (v := 2) hx hb dL_law_182 (by decide) ?_
  refine lv_iadd hx hb dL_law_183 ?_
  refine va_sld (i := 0 + 2) hx hb hX hbl hbA hS (by unfold vp_in; decide) dL_law_184 ?_
  rw [show ((0 : Int32) + 2).toNatClampNeg = 2 from by decide]
  refine lv_aload_n hx hb dL_law_185 rfl (lv_at hl 4 rfl) ?_
  refine lv_iload hx hb dL_law_186 (lv_at hl 0 rfl) ?_
  refine lv_iconst (v := 3) hx hb dL_law_188 (by decide) ?_
  refine lv_iadd hx hb dL_law_189 ?_
  refine va_sld (i := 0 + 3) hx hb hX hbl hbA hS (by unfold vp_in; decide) dL_law_190 ?_
  rw [show ((0 : Int32) + 3).toNatClampNeg = 3 from by decide]
  refine lv_aload_n hx hb dL_law_191 rfl (lv_at hl 1 rfl) ?_
  refine lw_help (As := [.ref s.heap.size, .int (xs 1), .int (xs 2), .int (xs 3), .ref (s.heap.size + 181)]) ⟨hx, hb, hml, hown, hts2⟩ (hK_person l D d s.heap.size (rc_L (s.heap.size + 1)) (rc_L (s.heap.size + 68)) (lw_A1 s.heap.size) (lw_A2 s.heap.size) (lw_B s.heap.size) (s.heap.size + 181) cL (fun _ => 0) lw_wB (fun _ h => lw_AB h) (Or.inr rfl) lw_oA (xs 1) (xs 2) (xs 3) g1 g2 g3 g4 g5 g6) (vx_cwSW 5 hts2 gL_law_L_person rfl rfl rfl (by decide +kernel) ⟨Nat.le_of_ble_eq_true rfl, Nat.le_of_ble_eq_true rfl⟩) (lw_house hg) (lw_trial hg) hK hXE lw_BB (lw_wax hg) (lw_out hg) hKL hS rfl hl.1 (Nat.le_of_ble_eq_true rfl) dL_law_192 ⟨Nat.le_of_ble_eq_true rfl, Nat.le_of_ble_eq_true rfl⟩ rfl (fun H1 locs hO hq hz hS => ?_)
  have hsz : s.heap.size + 182 ≤ H1.size := by rw [← hz0]; exact hz
  have hP := lw_keep (lw_w_pe hg) (lw_d_pe (d := d) (cB := cB)) hq
  refine lv_istore (lv' := [(5, .int 0), (4, .int 0), (3, .ref (s.heap.size + 181)), (2, .ref (s.heap.size + 135)), (1, .ref s.heap.size), (0, .ref b)]) hx hb dL_law_195 hl (by decide) rfl (fun ls hl => ?_)
  refine lv_aload_n hx hb dL_law_197 rfl (lv_at hl 3 rfl) ?_
  refine lv_aload_n hx hb dL_law_198 rfl (lv_at hl 5 rfl) ?_
  refine lv_iload hx hb dL_law_199 (lv_at hl 1 rfl) ?_
  refine lv_iconst (v := 1) hx hb dL_law_201 (by decide) ?_
  refine lv_iadd hx hb dL_law_202 ?_
  refine va_sld (i := 0 + 1) hx hb hX hbl hbA hS (by unfold vp_in; decide) dL_law_203 ?_
  rw [show ((0 : Int32) + 1).toNatClampNeg = 1 from by decide]
  refine lv_aload_n hx hb dL_law_204 rfl (lv_at hl 5 rfl) ?_
  refine lv_iload hx hb dL_law_205 (lv_at hl 1 rfl) ?_
  refine lv_iconst (v := 2) hx hb dL_law_207 (by decide) ?_
  refine lv_iadd hx hb dL_law_208 ?_
  refine va_sld (i := 0 + 2) hx hb hX hbl hbA hS (by unfold vp_in; decide) dL_law_209 ?_
  rw [show ((0 : Int32) + 2).toNatClampNeg = 2 from by decide]
  refine lv_aload_n hx hb dL_law_210 rfl (lv_at hl 5 rfl) ?_
  refine lv_iload hx hb dL_law_211 (lv_at hl 1 rfl) ?_
  refine lv_iconst (v := 3) hx hb dL_law_213 (by decide) ?_
  refine lv_iadd hx hb dL_law_214 ?_
  refine va_sld (i := 0 + 3) hx hb hX hbl hbA hS (by unfold vp_in; decide) dL_law_215 ?_
  rw [show ((0 : Int32) + 3).toNatClampNeg = 3 from by decide]
  refine lw_ref (As := [.int (xs 1), .int (xs 2), .int (xs 3)]) (V := [((s.heap.size + 135), .inr (cRm, [.int 0, .ref (s.heap.size + 135 + 1)])), ((s.heap.size + 135 + 1), .inr (cRh, [.ref (s.heap.size + 135 + 1 + 1), .ref (s.heap.size + 135 + 1 + 12), .ref (s.heap.size + 135 + 1 + 23), .ref (s.heap.size + 135 + 1 + 34), .ref (s.heap.size + 135 + 1 + 43), .ref (s.heap.size + 135 + 1 + 44), .int 0, .int 0, .int 0, .int 0, .int 0, .int 5, .int 200, .int 30])), ((s.heap.size + 135 + 1 + 1), .inl (cB, 10, .inr (.inr (.inr (.inr (fun i => if i < 10 then some (s.heap.size + 135 + 1 + (1 + 1 + i)) else none)))))), ((s.heap.size + 135 + 1 + (1 + 1 + 0)), .inl (d.1, 9, .inl (fun _ => 0))), ((s.heap.size + 135 + 1 + 23), .inl (cB, 10, .inr (.inr (.inr (.inr (fun i => if i < 10 then some (s.heap.size + 135 + 1 + (23 + 1 + i)) else none)))))), ((s.heap.size + 135 + 1 + (23 + 1 + 0)), .inl (d.1, 6, .inl (fun _ => 0)))]) (V2 := [((s.heap.size + 135), .inr (cRm, [.int 0, .ref (s.heap.size + 135 + 1)]))]) (B := lw_M s.heap.size H1.size) (q0 := 0) (ci := cRm) (r := (RX6, TX6, 2)) ⟨hx, hb, hml, hown, hts2⟩ (rX6_person_ok l D d.1 cB H1.size (s.heap.size + 135) (s.heap.size + 135 + 1) (s.heap.size + 135 + 1 + 1) (s.heap.size + 135 + 1 + 12) (s.heap.size + 135 + 1 + 23) (s.heap.size + 135 + 1 + 34) (s.heap.size + 135 + 1 + 43) (s.heap.size + 135 + 1 + 44) (s.heap.size + 135 + 1 + (1 + 1 + 0)) (s.heap.size + 135 + 1 + (23 + 1 + 0)) (fun i => if i < 10 then some (s.heap.size + 135 + 1 + (1 + 1 + i)) else none) (fun i => if i < 10 then some (s.heap.size + 135 + 1 + (23 + 1 + i)) else none) (fun _ => 0) (fun _ => 0) (by rw [show (0 : Int32).toNatClampNeg = 0 from by decide]; rfl) (by rw [show (0 : Int32).toNatClampNeg = 0 from by decide]; rfl) 0 (xs 1) (xs 2) (xs 3) (lw_M s.heap.size H1.size) (lw_lM (lw_d_pe (d := d) (cB := cB))) (sp_in_1 g1 g2) (sp_in_1 g3 g4) (sp_in_1 g5 g6)) (cwV 3 hts2 gL_law_X6_person rfl rfl rfl (by decide +kernel) ⟨Nat.le_of_ble_eq_true rfl, Nat.le_of_ble_eq_true rfl⟩) hK2 hP (lw_MB hsz) hS rfl rfl rfl rfl hl.1 (Nat.le_of_ble_eq_true rfl) dL_law_216 ⟨Nat.le_of_ble_eq_true rfl, Nat.le_of_ble_eq_true rfl⟩ rfl (fun r_ H2 locs hp hM2 hq2 hz2 hS => ?_)
  subst hp
  have hO2 := rf_keep1 hO (fun _ => hq2 (s.heap.size + 181) (by omega) (lw_noM hsz))
  refine lv_istore (lv' := [(6, .int 0), (5, .int 0), (4, .int 0), (3, .ref (s.heap.size + 181)), (2, .ref (s.heap.size + 135)), (1, .ref s.heap.size), (0, .ref b)]) hx hb dL_law_219 hl (by decide) rfl (fun ls hl => ?_)
  refine lv_aload_n hx hb dL_law_221 rfl (lv_at hl 4 rfl) ?_
  refine rf_callR (As := []) (W0 := [((s.heap.size + 135), .inr (cRm, [.int 0, .ref (s.heap.size + 135 + 1)]))] ++ [((s.heap.size + 181), .inl (cL, 1, .inr (.inl (vp_updL (fun _ => 0) (0 : Int32).toNatClampNeg (nI 0).toInt64))))]) (V := [((s.heap.size + 135), .inr (cRm, [.int 0, .ref (s.heap.size + 135 + 1)]))]) (q0 := 0) (ci := cRm) (r := (RX6, TX6, 2)) ⟨hx, hb, hml, hown, hts2⟩ (rX6_thrown l D d.1 cB H2.size (s.heap.size + 135) (s.heap.size + 135 + 1) 0) (cwV 0 hts2 gL_law_X6_thrown rfl rfl rfl (by decide +kernel) ⟨Nat.le_of_ble_eq_true rfl, Nat.le_of_ble_eq_true rfl⟩) hK2 (hM2.app hO2) hM2 hS rfl rfl rfl rfl hl.1 (Nat.le_of_ble_eq_true rfl) dL_law_222 ⟨Nat.le_of_ble_eq_true rfl, Nat.le_of_ble_eq_true rfl⟩ rfl (fun r_ H3 locs hp hP3 hS => ?_)
  subst hp
  refine lv_iload hx hb dL_law_225 (lv_at hl 1 rfl) ?_
  refine lv_icmp_eq (tgt := 232) hx hb dL_law_227 (by decide) (fun c_227 => ?_) (fun c_227 => ?_)
  · refine lv_iload hx hb dL_law_232 (lv_at hl 1 rfl) ?_
    refine lv_if_ne (tgt := 249) hx hb dL_law_234 (by decide) (fun c_234 => ?_) (fun c_234 => ?_)
    · exact absurd (by decide) c_234
    · refine lv_aload_n hx hb dL_law_237 rfl (lv_at hl 3 rfl) ?_
      refine lv_iconst (v := 0) hx hb dL_law_238 (by decide) ?_
      refine va_lald hx hb hKL (hP3.sub (ws' := [((s.heap.size + 181), .inl (cL, 1, .inr (.inl (vp_updL (fun _ => 0) (0 : Int32).toNatClampNeg (nI 0).toInt64))))]) [1] rfl) 0 0 rfl rfl (by unfold vp_in; decide) dL_law_239 ?_
      rw [vp_updL_self]
      refine lv_iload hx hb dL_law_240 (lv_at hl 0 rfl) ?_
      refine lv_i2l hx hb dL_law_242 rfl ?_
      refine W.lcmp hx hb dL_law_243 ?_
      rw [show (nI 0) = (0 : Int32) from nI_0, lg_cmp_self]
      refine lv_if_eq (tgt := 249) hx hb dL_law_244 (by decide) (fun c_244 => ?_) (fun c_244 => ?_)
      · refine lv_goto (tgt := 2108) hx hb dL_law_249 (by decide) ?_
        exact lw_tail G hS (Nat.le_of_ble_eq_true rfl) (Nat.le_of_ble_eq_true rfl) (lv_sub hl [2, 6] rfl)
      · exact absurd (by decide) c_244
  · exact absurd (by decide) c_227
set_option maxHeartbeats 4000000 in
set_option maxRecDepth 100000 in
/-- the law: lw_c12_a -/
theorem lw_c12_a {p : Program} {l : Launch} {e : Env} {s : State} {m : MethodId} {below : List Frame} {meth : Method} {c : Code} {b : Nat} {D : va_G} {d : hs_Dm} {cB cL : ClassId} {xs : Nat → Int32} (G : lw_G p l s m meth c b D d cB cL xs) (g0 : xs 1 < 0 ∨ ¬ xs 1 ≤ 9) {H : Heap} {locs : List Loc} (hg : rg D (lw_X d cB cL s.heap.size) s.heap.size 182 H) (hz0 : H.size = s.heap.size + 182) (hS : va_S (rg_A s.heap.size) s.heap H locs) {ls : Array Slot} (hl : lv_has ls 9 [(4, .int 0), (3, .ref (s.heap.size + 181)), (2, .ref (s.heap.size + 135)), (1, .ref s.heap.size), (0, .ref b)]) : W p l e room_1 s m #[Value.ref b] below meth c H locs 182 1149 (lw_Z below #[Value.ref b] s) (F0 m 1016 ls []) := by
  obtain ⟨hx, hb, hr, hlocks, hml, hown, hts, hl0, hX, hbl, hK, hK2, hKL, hXE⟩ := id G
  have hts2 : ∀ w ∈ wsL_law, w.before #[Value.ref b] s = true := fun w h => hts w (wsL_law_in w h)
  have hbA : ¬ rg_A s.heap.size b := Nat.not_le.mpr hbl
  refine lv_aload_n hx hb dL_law_1016 rfl (lv_at hl 3 rfl) ?_
  refine lv_aload_n hx hb dL_law_1017 rfl (lv_at hl 4 rfl) ?_
  refine lv_iload hx hb dL_law_1018 (lv_at hl 0 rfl) ?_
  refine lv_iconst (v := 1) hx hb dL_law_1020 (by decide) ?_
  refine lv_iadd hx hb dL_law_1021 ?_
  refine va_sld (i := 0 + 1) hx hb hX hbl hbA hS (by unfold vp_in; decide) dL_law_1022 ?_
  rw [show ((0 : Int32) + 1).toNatClampNeg = 1 from by decide]
  refine lv_aload_n hx hb dL_law_1023 rfl (lv_at hl 4 rfl) ?_
  refine lv_iload hx hb dL_law_1024 (lv_at hl 0 rfl) ?_
  refine lv_iconst (v := 2) hx hb dL_law_1026 (by decide) ?_
  refine lv_iadd hx hb dL_law_1027 ?_
  refine va_sld (i := 0 + 2) hx hb hX hbl hbA hS (by unfold vp_in; decide) dL_law_1028 ?_
  rw [show ((0 : Int32) + 2).toNatClampNeg = 2 from by decide]
  refine lv_aload_n hx hb dL_law_1029 rfl (lv_at hl 1 rfl) ?_
  refine lw_help (As := [.ref s.heap.size, .int (xs 1), .int (xs 2), .ref (s.heap.size + 181)]) ⟨hx, hb, hml, hown, hts2⟩ (hA_room_0 l D d s.heap.size (rc_L (s.heap.size + 1)) (rc_L (s.heap.size + 68)) (lw_A1 s.heap.size) (lw_A2 s.heap.size) (lw_B s.heap.size) (s.heap.size + 181) cL (fun _ => 0) lw_wB (fun _ h => lw_AB h) (Or.inr rfl) lw_oA hl0 (xs 1) (xs 2) g0) (vx_cwSW 4 hts2 gL_law_L_room rfl rfl rfl (by decide +kernel) ⟨Nat.le_of_ble_eq_true rfl, Nat.le_of_ble_eq_true rfl⟩) (lw_house hg) (lw_trial hg) hK hXE lw_BB (lw_wax hg) (lw_out hg) hKL hS rfl hl.1 (Nat.le_of_ble_eq_true rfl) dL_law_1030 ⟨Nat.le_of_ble_eq_true rfl, Nat.le_of_ble_eq_true rfl⟩ rfl (fun H1 locs hO hq hz hS => ?_)
  have hsz : s.heap.size + 182 ≤ H1.size := by rw [← hz0]; exact hz
  have hP := lw_keep (lw_w_m2 hg) (lw_d_m2 (d := d) (cB := cB)) hq
  refine lv_istore (lv' := [(5, .int 1), (4, .int 0), (3, .ref (s.heap.size + 181)), (2, .ref (s.heap.size + 135)), (1, .ref s.heap.size), (0, .ref b)]) hx hb dL_law_1033 hl (by decide) rfl (fun ls hl => ?_)
  refine lv_aload_n hx hb dL_law_1035 rfl (lv_at hl 3 rfl) ?_
  refine lv_aload_n hx hb dL_law_1036 rfl (lv_at hl 5 rfl) ?_
  refine lv_iload hx hb dL_law_1037 (lv_at hl 1 rfl) ?_
  refine lv_iconst (v := 1) hx hb dL_law_1039 (by decide) ?_
  refine lv_iadd hx hb dL_law_1040 ?_
  refine va_sld (i := 0 + 1) hx hb hX hbl hbA hS (by unfold vp_in; decide) dL_law_1041 ?_
  rw [show ((0 : Int32) + 1).toNatClampNeg = 1 from by decide]
  refine lv_aload_n hx hb dL_law_1042 rfl (lv_at hl 5 rfl) ?_
  refine lv_iload hx hb dL_law_1043 (lv_at hl 1 rfl) ?_
  refine lv_iconst (v := 2) hx hb dL_law_1045 (by decide) ?_
  refine lv_iadd hx hb dL_law_1046 ?_
  refine va_sld (i := 0 + 2) hx hb hX hbl hbA hS (by unfold vp_in; decide) dL_law_1047 ?_
  rw [show ((0 : Int32) + 2).toNatClampNeg = 2 from by decide]
  refine lw_ref (As := [.int (xs 1), .int (xs 2)]) (V := [((s.heap.size + 135), .inr (cRm, [.int 0, .ref (s.heap.size + 135 + 1)])), ((s.heap.size + 135 + 1), .inr (cRh, [.ref (s.heap.size + 135 + 1 + 1), .ref (s.heap.size + 135 + 1 + 12), .ref (s.heap.size + 135 + 1 + 23), .ref (s.heap.size + 135 + 1 + 34), .ref (s.heap.size + 135 + 1 + 43), .ref (s.heap.size + 135 + 1 + 44), .int 0, .int 0, .int 0, .int 0, .int 0, .int 5, .int 200, .int 30]))]) (V2 := [((s.heap.size + 135), .inr (cRm, [.int 1, .ref (s.heap.size + 135 + 1)]))]) (B := lw_M s.heap.size H1.size) (q0 := 0) (ci := cRm) (r := (RX6, TX6, 2)) ⟨hx, hb, hml, hown, hts2⟩ (rX6_room_bad l D d.1 cB H1.size (s.heap.size + 135) (s.heap.size + 135 + 1) (s.heap.size + 135 + 1 + 1) (s.heap.size + 135 + 1 + 12) (s.heap.size + 135 + 1 + 23) (s.heap.size + 135 + 1 + 34) (s.heap.size + 135 + 1 + 43) (s.heap.size + 135 + 1 + 44) 0 (xs 1) (xs 2) (lw_M s.heap.size H1.size) (lw_lM (lw_d_m2 (d := d) (cB := cB))) (Or.inl (sp_in_0 g0))) (cwV 2 hts2 gL_law_X6_room rfl rfl rfl (by decide +kernel) ⟨Nat.le_of_ble_eq_true rfl, Nat.le_of_ble_eq_true rfl⟩) hK2 hP (lw_MB hsz) hS rfl rfl rfl rfl hl.1 (Nat.le_of_ble_eq_true rfl) dL_law_1048 ⟨Nat.le_of_ble_eq_true rfl, Nat.le_of_ble_eq_true rfl⟩ rfl (fun r_ H2 locs hp hM2 hq2 hz2 hS => ?_)
  subst hp
  have hO2 := rf_keep1 hO (fun _ => hq2 (s.heap.size + 181) (by omega) (lw_noM hsz))
  refine lv_istore (lv' := [(6, .int 0), (5, .int 1), (4, .int 0), (3, .ref (s.heap.size + 181)), (2, .ref (s.heap.size + 135)), (1, .ref s.heap.size), (0, .ref b)]) hx hb dL_law_1051 hl (by decide) rfl (fun ls hl => ?_)
  refine lv_aload_n hx hb dL_law_1053 rfl (lv_at hl 4 rfl) ?_
  refine rf_callR (As := []) (W0 := [((s.heap.size + 135), .inr (cRm, [.int 1, .ref (s.heap.size + 135 + 1)]))] ++ [((s.heap.size + 181), .inl (cL, 1, .inr (.inl (fun _ => 0))))]) (V := [((s.heap.size + 135), .inr (cRm, [.int 1, .ref (s.heap.size + 135 + 1)]))]) (q0 := 0) (ci := cRm) (r := (RX6, TX6, 2)) ⟨hx, hb, hml, hown, hts2⟩ (rX6_thrown l D d.1 cB H2.size (s.heap.size + 135) (s.heap.size + 135 + 1) 1) (cwV 0 hts2 gL_law_X6_thrown rfl rfl rfl (by decide +kernel) ⟨Nat.le_of_ble_eq_true rfl, Nat.le_of_ble_eq_true rfl⟩) hK2 (hM2.app hO2) hM2 hS rfl rfl rfl rfl hl.1 (Nat.le_of_ble_eq_true rfl) dL_law_1054 ⟨Nat.le_of_ble_eq_true rfl, Nat.le_of_ble_eq_true rfl⟩ rfl (fun r_ H3 locs hp hP3 hS => ?_)
  subst hp
  refine lv_iload hx hb dL_law_1057 (lv_at hl 1 rfl) ?_
  refine lv_icmp_eq (tgt := 1064) hx hb dL_law_1059 (by decide) (fun c_1059 => ?_) (fun c_1059 => ?_)
  · refine lv_iload hx hb dL_law_1064 (lv_at hl 1 rfl) ?_
    refine lv_if_ne (tgt := 1081) hx hb dL_law_1066 (by decide) (fun c_1066 => ?_) (fun c_1066 => ?_)
    · refine lv_goto (tgt := 2108) hx hb dL_law_1081 (by decide) ?_
      exact lw_tail G hS (Nat.le_of_ble_eq_true rfl) (Nat.le_of_ble_eq_true rfl) (lv_sub hl [2, 6] rfl)
    · exact absurd c_1066 (by decide)
  · exact absurd (by decide) c_1059
set_option maxHeartbeats 4000000 in
set_option maxRecDepth 100000 in
/-- the law: lw_c12_b -/
theorem lw_c12_b {p : Program} {l : Launch} {e : Env} {s : State} {m : MethodId} {below : List Frame} {meth : Method} {c : Code} {b : Nat} {D : va_G} {d : hs_Dm} {cB cL : ClassId} {xs : Nat → Int32} (G : lw_G p l s m meth c b D d cB cL xs) (g1 : ¬ xs 1 < 0) (g2 : xs 1 ≤ 9) (g0 : xs 2 < 1 ∨ ¬ xs 2 ≤ 4) {H : Heap} {locs : List Loc} (hg : rg D (lw_X d cB cL s.heap.size) s.heap.size 182 H) (hz0 : H.size = s.heap.size + 182) (hS : va_S (rg_A s.heap.size) s.heap H locs) {ls : Array Slot} (hl : lv_has ls 9 [(4, .int 0), (3, .ref (s.heap.size + 181)), (2, .ref (s.heap.size + 135)), (1, .ref s.heap.size), (0, .ref b)]) : W p l e room_1 s m #[Value.ref b] below meth c H locs 182 1149 (lw_Z below #[Value.ref b] s) (F0 m 1016 ls []) := by
  obtain ⟨hx, hb, hr, hlocks, hml, hown, hts, hl0, hX, hbl, hK, hK2, hKL, hXE⟩ := id G
  have hts2 : ∀ w ∈ wsL_law, w.before #[Value.ref b] s = true := fun w h => hts w (wsL_law_in w h)
  have hbA : ¬ rg_A s.heap.size b := Nat.not_le.mpr hbl
  refine lv_aload_n hx hb dL_law_1016 rfl (lv_at hl 3 rfl) ?_
  refine lv_aload_n hx hb dL_law_1017 rfl (lv_at hl 4 rfl) ?_
  refine lv_iload hx hb dL_law_1018 (lv_at hl 0 rfl) ?_
  refine lv_iconst (v := 1) hx hb dL_law_1020 (by decide) ?_
  refine lv_iadd hx hb dL_law_1021 ?_
  refine va_sld (i := 0 + 1) hx hb hX hbl hbA hS (by unfold vp_in; decide) dL_law_1022 ?_
  rw [show ((0 : Int32) + 1).toNatClampNeg = 1 from by decide]
  refine lv_aload_n hx hb dL_law_1023 rfl (lv_at hl 4 rfl) ?_
  refine lv_iload hx hb dL_law_1024 (lv_at hl 0 rfl) ?_
  refine lv_iconst (v := 2) hx hb dL_law_1026 (by decide) ?_
  refine lv_iadd hx hb dL_law_1027 ?_
  refine va_sld (i := 0 + 2) hx hb hX hbl hbA hS (by unfold vp_in; decide) dL_law_1028 ?_
  rw [show ((0 : Int32) + 2).toNatClampNeg = 2 from by decide]
  refine lv_aload_n hx hb dL_law_1029 rfl (lv_at hl 1 rfl) ?_
  refine lw_help (As := [.ref s.heap.size, .int (xs 1), .int (xs 2), .ref (s.heap.size + 181)]) ⟨hx, hb, hml, hown, hts2⟩ (hA_room_1 l D d s.heap.size (rc_L (s.heap.size + 1)) (rc_L (s.heap.size + 68)) (lw_A1 s.heap.size) (lw_A2 s.heap.size) (lw_B s.heap.size) (s.heap.size + 181) cL (fun _ => 0) lw_wB (fun _ h => lw_AB h) (Or.inr rfl) lw_oA hl0 (xs 1) (xs 2) g1 g2 g0) (vx_cwSW 4 hts2 gL_law_L_room rfl rfl rfl (by decide +kernel) ⟨Nat.le_of_ble_eq_true rfl, Nat.le_of_ble_eq_true rfl⟩) (lw_house hg) (lw_trial hg) hK hXE lw_BB (lw_wax hg) (lw_out hg) hKL hS rfl hl.1 (Nat.le_of_ble_eq_true rfl) dL_law_1030 ⟨Nat.le_of_ble_eq_true rfl, Nat.le_of_ble_eq_true rfl⟩ rfl (fun H1 locs hO hq hz hS => ?_)
  have hsz : s.heap.size + 182 ≤ H1.size := by rw [← hz0]; exact hz
  have hP := lw_keep (lw_w_m2 hg) (lw_d_m2 (d := d) (cB := cB)) hq
  refine lv_istore (lv' := [(5, .int 1), (4, .int 0), (3, .ref (s.heap.size + 181)), (2, .ref (s.heap.size + 135)), (1, .ref s.heap.size), (0, .ref b)]) hx hb dL_law_1033 hl (by decide) rfl (fun ls hl => ?_)
  refine lv_aload_n hx hb dL_law_1035 rfl (lv_at hl 3 rfl) ?_
  refine lv_aload_n hx hb dL_law_1036 rfl (lv_at hl 5 rfl) ?_
  refine lv_iload hx hb dL_law_1037 (lv_at hl 1 rfl) ?_
  refine lv_iconst (v := 1) hx hb dL_law_1039 (by decide) ?_
  refine lv_iadd hx hb dL_law_1040 ?_
  refine va_sld (i := 0 + 1) hx hb hX hbl hbA hS (by unfold vp_in; decide) dL_law_1041 ?_
  rw [show ((0 : Int32) + 1).toNatClampNeg = 1 from by decide]
  refine lv_aload_n hx hb dL_law_1042 rfl (lv_at hl 5 rfl) ?_
  refine lv_iload hx hb dL_law_1043 (lv_at hl 1 rfl) ?_
  refine lv_iconst (v := 2) hx hb dL_law_1045 (by decide) ?_
  refine lv_iadd hx hb dL_law_1046 ?_
  refine va_sld (i := 0 + 2) hx hb hX hbl hbA hS (by unfold vp_in; decide) dL_law_1047 ?_
  rw [show ((0 : Int32) + 2).toNatClampNeg = 2 from by decide]
  refine lw_ref (As := [.int (xs 1), .int (xs 2)]) (V := [((s.heap.size + 135), .inr (cRm, [.int 0, .ref (s.heap.size + 135 + 1)])), ((s.heap.size + 135 + 1), .inr (cRh, [.ref (s.heap.size + 135 + 1 + 1), .ref (s.heap.size + 135 + 1 + 12), .ref (s.heap.size + 135 + 1 + 23), .ref (s.heap.size + 135 + 1 + 34), .ref (s.heap.size + 135 + 1 + 43), .ref (s.heap.size + 135 + 1 + 44), .int 0, .int 0, .int 0, .int 0, .int 0, .int 5, .int 200, .int 30]))]) (V2 := [((s.heap.size + 135), .inr (cRm, [.int 1, .ref (s.heap.size + 135 + 1)]))]) (B := lw_M s.heap.size H1.size) (q0 := 0) (ci := cRm) (r := (RX6, TX6, 2)) ⟨hx, hb, hml, hown, hts2⟩ (rX6_room_bad l D d.1 cB H1.size (s.heap.size + 135) (s.heap.size + 135 + 1) (s.heap.size + 135 + 1 + 1) (s.heap.size + 135 + 1 + 12) (s.heap.size + 135 + 1 + 23) (s.heap.size + 135 + 1 + 34) (s.heap.size + 135 + 1 + 43) (s.heap.size + 135 + 1 + 44) 0 (xs 1) (xs 2) (lw_M s.heap.size H1.size) (lw_lM (lw_d_m2 (d := d) (cB := cB))) (Or.inr (sp_in_0 g0))) (cwV 2 hts2 gL_law_X6_room rfl rfl rfl (by decide +kernel) ⟨Nat.le_of_ble_eq_true rfl, Nat.le_of_ble_eq_true rfl⟩) hK2 hP (lw_MB hsz) hS rfl rfl rfl rfl hl.1 (Nat.le_of_ble_eq_true rfl) dL_law_1048 ⟨Nat.le_of_ble_eq_true rfl, Nat.le_of_ble_eq_true rfl⟩ rfl (fun r_ H2 locs hp hM2 hq2 hz2 hS => ?_)
  subst hp
  have hO2 := rf_keep1 hO (fun _ => hq2 (s.heap.size + 181) (by omega) (lw_noM hsz))
  refine lv_istore (lv' := [(6, .int 0), (5, .int 1), (4, .int 0), (3, .ref (s.heap.size + 181)), (2, .ref (s.heap.size + 135)), (1, .ref s.heap.size), (0, .ref b)]) hx hb dL_law_1051 hl (by decide) rfl (fun ls hl => ?_)
  refine lv_aload_n hx hb dL_law_1053 rfl (lv_at hl 4 rfl) ?_
  refine rf_callR (As := []) (W0 := [((s.heap.size + 135), .inr (cRm, [.int 1, .ref (s.heap.size + 135 + 1)]))] ++ [((s.heap.size + 181), .inl (cL, 1, .inr (.inl (fun _ => 0))))]) (V := [((s.heap.size + 135), .inr (cRm, [.int 1, .ref (s.heap.size + 135 + 1)]))]) (q0 := 0) (ci := cRm) (r := (RX6, TX6, 2)) ⟨hx, hb, hml, hown, hts2⟩ (rX6_thrown l D d.1 cB H2.size (s.heap.size + 135) (s.heap.size + 135 + 1) 1) (cwV 0 hts2 gL_law_X6_thrown rfl rfl rfl (by decide +kernel) ⟨Nat.le_of_ble_eq_true rfl, Nat.le_of_ble_eq_true rfl⟩) hK2 (hM2.app hO2) hM2 hS rfl rfl rfl rfl hl.1 (Nat.le_of_ble_eq_true rfl) dL_law_1054 ⟨Nat.le_of_ble_eq_true rfl, Nat.le_of_ble_eq_true rfl⟩ rfl (fun r_ H3 locs hp hP3 hS => ?_)
  subst hp
  refine lv_iload hx hb dL_law_1057 (lv_at hl 1 rfl) ?_
  refine lv_icmp_eq (tgt := 1064) hx hb dL_law_1059 (by decide) (fun c_1059 => ?_) (fun c_1059 => ?_)
  · refine lv_iload hx hb dL_law_1064 (lv_at hl 1 rfl) ?_
    refine lv_if_ne (tgt := 1081) hx hb dL_law_1066 (by decide) (fun c_1066 => ?_) (fun c_1066 => ?_)
    · refine lv_goto (tgt := 2108) hx hb dL_law_1081 (by decide) ?_
      exact lw_tail G hS (Nat.le_of_ble_eq_true rfl) (Nat.le_of_ble_eq_true rfl) (lv_sub hl [2, 6] rfl)
    · exact absurd c_1066 (by decide)
  · exact absurd (by decide) c_1059
set_option maxHeartbeats 4000000 in
set_option maxRecDepth 100000 in
/-- the law: lw_c12_d -/
theorem lw_c12_d {p : Program} {l : Launch} {e : Env} {s : State} {m : MethodId} {below : List Frame} {meth : Method} {c : Code} {b : Nat} {D : va_G} {d : hs_Dm} {cB cL : ClassId} {xs : Nat → Int32} (G : lw_G p l s m meth c b D d cB cL xs) (g1 : ¬ xs 1 < 0) (g2 : xs 1 ≤ 9) (g3 : ¬ xs 2 < 1) (g4 : xs 2 ≤ 4) {H : Heap} {locs : List Loc} (hg : rg D (lw_X d cB cL s.heap.size) s.heap.size 182 H) (hz0 : H.size = s.heap.size + 182) (hS : va_S (rg_A s.heap.size) s.heap H locs) {ls : Array Slot} (hl : lv_has ls 9 [(4, .int 0), (3, .ref (s.heap.size + 181)), (2, .ref (s.heap.size + 135)), (1, .ref s.heap.size), (0, .ref b)]) : W p l e room_1 s m #[Value.ref b] below meth c H locs 182 1149 (lw_Z below #[Value.ref b] s) (F0 m 1016 ls []) := by
  obtain ⟨hx, hb, hr, hlocks, hml, hown, hts, hl0, hX, hbl, hK, hK2, hKL, hXE⟩ := id G
  have hts2 : ∀ w ∈ wsL_law, w.before #[Value.ref b] s = true := fun w h => hts w (wsL_law_in w h)
  have hbA : ¬ rg_A s.heap.size b := Nat.not_le.mpr hbl
  refine lv_aload_n hx hb dL_law_1016 rfl (lv_at hl 3 rfl) ?_
  refine lv_aload_n hx hb dL_law_1017 rfl (lv_at hl 4 rfl) ?_
  refine lv_iload hx hb dL_law_1018 (lv_at hl 0 rfl) ?_
  refine lv_iconst (v := 1) hx hb dL_law_1020 (by decide) ?_
  refine lv_iadd hx hb dL_law_1021 ?_
  refine va_sld (i := 0 + 1) hx hb hX hbl hbA hS (by unfold vp_in; decide) dL_law_1022 ?_
  rw [show ((0 : Int32) + 1).toNatClampNeg = 1 from by decide]
  refine lv_aload_n hx hb dL_law_1023 rfl (lv_at hl 4 rfl) ?_
  refine lv_iload hx hb dL_law_1024 (lv_at hl 0 rfl) ?_
  refine lv_iconst (v := 2) hx hb dL_law_1026 (by decide) ?_
  refine lv_iadd hx hb dL_law_1027 ?_
  refine va_sld (i := 0 + 2) hx hb hX hbl hbA hS (by unfold vp_in; decide) dL_law_1028 ?_
  rw [show ((0 : Int32) + 2).toNatClampNeg = 2 from by decide]
  refine lv_aload_n hx hb dL_law_1029 rfl (lv_at hl 1 rfl) ?_
  refine lw_help (As := [.ref s.heap.size, .int (xs 1), .int (xs 2), .ref (s.heap.size + 181)]) ⟨hx, hb, hml, hown, hts2⟩ (hK_room l D d s.heap.size (rc_L (s.heap.size + 1)) (rc_L (s.heap.size + 68)) (lw_A1 s.heap.size) (lw_A2 s.heap.size) (lw_B s.heap.size) (s.heap.size + 181) cL (fun _ => 0) lw_wB (fun _ h => lw_AB h) (Or.inr rfl) lw_oA (xs 1) (xs 2) g1 g2 g3 g4) (vx_cwSW 4 hts2 gL_law_L_room rfl rfl rfl (by decide +kernel) ⟨Nat.le_of_ble_eq_true rfl, Nat.le_of_ble_eq_true rfl⟩) (lw_house hg) (lw_trial hg) hK hXE lw_BB (lw_wax hg) (lw_out hg) hKL hS rfl hl.1 (Nat.le_of_ble_eq_true rfl) dL_law_1030 ⟨Nat.le_of_ble_eq_true rfl, Nat.le_of_ble_eq_true rfl⟩ rfl (fun H1 locs hO hq hz hS => ?_)
  have hsz : s.heap.size + 182 ≤ H1.size := by rw [← hz0]; exact hz
  have hP := lw_keep (lw_w_ro hg) (lw_d_ro (d := d) (cB := cB)) hq
  refine lv_istore (lv' := [(5, .int 0), (4, .int 0), (3, .ref (s.heap.size + 181)), (2, .ref (s.heap.size + 135)), (1, .ref s.heap.size), (0, .ref b)]) hx hb dL_law_1033 hl (by decide) rfl (fun ls hl => ?_)
  refine lv_aload_n hx hb dL_law_1035 rfl (lv_at hl 3 rfl) ?_
  refine lv_aload_n hx hb dL_law_1036 rfl (lv_at hl 5 rfl) ?_
  refine lv_iload hx hb dL_law_1037 (lv_at hl 1 rfl) ?_
  refine lv_iconst (v := 1) hx hb dL_law_1039 (by decide) ?_
  refine lv_iadd hx hb dL_law_1040 ?_
  refine va_sld (i := 0 + 1) hx hb hX hbl hbA hS (by unfold vp_in; decide) dL_law_1041 ?_
  rw [show ((0 : Int32) + 1).toNatClampNeg = 1 from by decide]
  refine lv_aload_n hx hb dL_law_1042 rfl (lv_at hl 5 rfl) ?_
  refine lv_iload hx hb dL_law_1043 (lv_at hl 1 rfl) ?_
  refine lv_iconst (v := 2) hx hb dL_law_1045 (by decide) ?_
  refine lv_iadd hx hb dL_law_1046 ?_
  refine va_sld (i := 0 + 2) hx hb hX hbl hbA hS (by unfold vp_in; decide) dL_law_1047 ?_
  rw [show ((0 : Int32) + 2).toNatClampNeg = 2 from by decide]
  refine lw_ref (As := [.int (xs 1), .int (xs 2)]) (V := [((s.heap.size + 135), .inr (cRm, [.int 0, .ref (s.heap.size + 135 + 1)])), ((s.heap.size + 135 + 1), .inr (cRh, [.ref (s.heap.size + 135 + 1 + 1), .ref (s.heap.size + 135 + 1 + 12), .ref (s.heap.size + 135 + 1 + 23), .ref (s.heap.size + 135 + 1 + 34), .ref (s.heap.size + 135 + 1 + 43), .ref (s.heap.size + 135 + 1 + 44), .int 0, .int 0, .int 0, .int 0, .int 0, .int 5, .int 200, .int 30])), ((s.heap.size + 135 + 1 + 43), .inl (d.1, 5, .inl (fun _ => 0))), ((s.heap.size + 135 + 1 + 44), .inl (d.1, 5, .inl (fun _ => 0)))]) (V2 := [((s.heap.size + 135), .inr (cRm, [.int 0, .ref (s.heap.size + 135 + 1)]))]) (B := lw_M s.heap.size H1.size) (q0 := 0) (ci := cRm) (r := (RX6, TX6, 2)) ⟨hx, hb, hml, hown, hts2⟩ (rX6_room_ok l D d.1 cB H1.size (s.heap.size + 135) (s.heap.size + 135 + 1) (s.heap.size + 135 + 1 + 1) (s.heap.size + 135 + 1 + 12) (s.heap.size + 135 + 1 + 23) (s.heap.size + 135 + 1 + 34) (s.heap.size + 135 + 1 + 43) (s.heap.size + 135 + 1 + 44) (fun _ => 0) (fun _ => 0) 0 (xs 1) (xs 2) (lw_M s.heap.size H1.size) (lw_lM (lw_d_ro (d := d) (cB := cB))) (sp_in_1 g1 g2) (sp_in_1 g3 g4)) (cwV 2 hts2 gL_law_X6_room rfl rfl rfl (by decide +kernel) ⟨Nat.le_of_ble_eq_true rfl, Nat.le_of_ble_eq_true rfl⟩) hK2 hP (lw_MB hsz) hS rfl rfl rfl rfl hl.1 (Nat.le_of_ble_eq_true rfl) dL_law_1048 ⟨Nat.le_of_ble_eq_true rfl, Nat.le_of_ble_eq_true rfl⟩ rfl (fun r_ H2 locs hp hM2 hq2 hz2 hS => ?_)
  subst hp
  have hO2 := rf_keep1 hO (fun _ => hq2 (s.heap.size + 181) (by omega) (lw_noM hsz))
  refine lv_istore (lv' := [(6, .int 0), (5, .int 0), (4, .int 0), (3, .ref (s.heap.size + 181)), (2, .ref (s.heap.size + 135)), (1, .ref s.heap.size), (0, .ref b)]) hx hb dL_law_1051 hl (by decide) rfl (fun ls hl => ?_)
  refine lv_aload_n hx hb dL_law_1053 rfl (lv_at hl 4 rfl) ?_
  refine rf_callR (As := []) (W0 := [((s.heap.size + 135), .inr (cRm, [.int 0, .ref (s.heap.size + 135 + 1)]))] ++ [((s.heap.size + 181), .inl (cL, 1, .inr (.inl (vp_updL (fun _ => 0) (0 : Int32).toNatClampNeg (nI 0).toInt64))))]) (V := [((s.heap.size + 135), .inr (cRm, [.int 0, .ref (s.heap.size + 135 + 1)]))]) (q0 := 0) (ci := cRm) (r := (RX6, TX6, 2)) ⟨hx, hb, hml, hown, hts2⟩ (rX6_thrown l D d.1 cB H2.size (s.heap.size + 135) (s.heap.size + 135 + 1) 0) (cwV 0 hts2 gL_law_X6_thrown rfl rfl rfl (by decide +kernel) ⟨Nat.le_of_ble_eq_true rfl, Nat.le_of_ble_eq_true rfl⟩) hK2 (hM2.app hO2) hM2 hS rfl rfl rfl rfl hl.1 (Nat.le_of_ble_eq_true rfl) dL_law_1054 ⟨Nat.le_of_ble_eq_true rfl, Nat.le_of_ble_eq_true rfl⟩ rfl (fun r_ H3 locs hp hP3 hS => ?_)
  subst hp
  refine lv_iload hx hb dL_law_1057 (lv_at hl 1 rfl) ?_
  refine lv_icmp_eq (tgt := 1064) hx hb dL_law_1059 (by decide) (fun c_1059 => ?_) (fun c_1059 => ?_)
  · refine lv_iload hx hb dL_law_1064 (lv_at hl 1 rfl) ?_
    refine lv_if_ne (tgt := 1081) hx hb dL_law_1066 (by decide) (fun c_1066 => ?_) (fun c_1066 => ?_)
    · exact absurd (by decide) c_1066
    · refine lv_aload_n hx hb dL_law_1069 rfl (lv_at hl 3 rfl) ?_
      refine lv_iconst (v := 0) hx hb dL_law_1070 (by decide) ?_
      refine va_lald hx hb hKL (hP3.sub (ws' := [((s.heap.size + 181), .inl (cL, 1, .inr (.inl (vp_updL (fun _ => 0) (0 : Int32).toNatClampNeg (nI 0).toInt64))))]) [1] rfl) 0 0 rfl rfl (by unfold vp_in; decide) dL_law_1071 ?_
      rw [vp_updL_self]
      refine lv_iload hx hb dL_law_1072 (lv_at hl 0 rfl) ?_
      refine lv_i2l hx hb dL_law_1074 rfl ?_
      refine W.lcmp hx hb dL_law_1075 ?_
      rw [show (nI 0) = (0 : Int32) from nI_0, lg_cmp_self]
      refine lv_if_eq (tgt := 1081) hx hb dL_law_1076 (by decide) (fun c_1076 => ?_) (fun c_1076 => ?_)
      · refine lv_goto (tgt := 2108) hx hb dL_law_1081 (by decide) ?_
        exact lw_tail G hS (Nat.le_of_ble_eq_true rfl) (Nat.le_of_ble_eq_true rfl) (lv_sub hl [2, 6] rfl)
      · exact absurd (by decide) c_1076
  · exact absurd (by decide) c_1059
set_option maxHeartbeats 4000000 in
set_option maxRecDepth 100000 in
/-- the law: lw_c17_a -/
theorem lw_c17_a {p : Program} {l : Launch} {e : Env} {s : State} {m : MethodId} {below : List Frame} {meth : Method} {c : Code} {b : Nat} {D : va_G} {d : hs_Dm} {cB cL : ClassId} {xs : Nat → Int32} (G : lw_G p l s m meth c b D d cB cL xs) (g0 : xs 1 < 0 ∨ ¬ xs 1 ≤ 20) {H : Heap} {locs : List Loc} (hg : rg D (lw_X d cB cL s.heap.size) s.heap.size 182 H) (hz0 : H.size = s.heap.size + 182) (hS : va_S (rg_A s.heap.size) s.heap H locs) {ls : Array Slot} (hl : lv_has ls 9 [(4, .int 0), (3, .ref (s.heap.size + 181)), (2, .ref (s.heap.size + 135)), (1, .ref s.heap.size), (0, .ref b)]) : W p l e room_1 s m #[Value.ref b] below meth c H locs 182 1149 (lw_Z below #[Value.ref b] s) (F0 m 1332 ls []) := by
  obtain ⟨hx, hb, hr, hlocks, hml, hown, hts, hl0, hX, hbl, hK, hK2, hKL, hXE⟩ := id G
  have hts2 : ∀ w ∈ wsL_law, w.before #[Value.ref b] s = true := fun w h => hts w (wsL_law_in w h)
  have hbA : ¬ rg_A s.heap.size b := Nat.not_le.mpr hbl
  refine lv_aload_n hx hb dL_law_1332 rfl (lv_at hl 3 rfl) ?_
  refine lv_aload_n hx hb dL_law_1333 rfl (lv_at hl 4 rfl) ?_
  refine lv_iload hx hb dL_law_1334 (lv_at hl 0 rfl) ?_
  refine lv_iconst (v := 1) hx hb dL_law_1336 (by decide) ?_
  refine lv_iadd hx hb dL_law_1337 ?_
  refine va_sld (i := 0 + 1) hx hb hX hbl hbA hS (by unfold vp_in; decide) dL_law_1338 ?_
  rw [show ((0 : Int32) + 1).toNatClampNeg = 1 from by decide]
  refine lv_aload_n hx hb dL_law_1339 rfl (lv_at hl 1 rfl) ?_
  refine lw_help (As := [.ref s.heap.size, .int (xs 1), .ref (s.heap.size + 181)]) ⟨hx, hb, hml, hown, hts2⟩ (hA_price_0 l D d s.heap.size (rc_L (s.heap.size + 1)) (rc_L (s.heap.size + 68)) (lw_A1 s.heap.size) (lw_A2 s.heap.size) (lw_B s.heap.size) (s.heap.size + 181) cL (fun _ => 0) lw_wB (fun _ h => lw_AB h) (Or.inr rfl) lw_oA hl0 (xs 1) g0) (vx_cwSW 3 hts2 gL_law_L_price rfl rfl rfl (by decide +kernel) ⟨Nat.le_of_ble_eq_true rfl, Nat.le_of_ble_eq_true rfl⟩) (lw_house hg) (lw_trial hg) hK hXE lw_BB (lw_wax hg) (lw_out hg) hKL hS rfl hl.1 (Nat.le_of_ble_eq_true rfl) dL_law_1340 ⟨Nat.le_of_ble_eq_true rfl, Nat.le_of_ble_eq_true rfl⟩ rfl (fun H1 locs hO hq hz hS => ?_)
  have hsz : s.heap.size + 182 ≤ H1.size := by rw [← hz0]; exact hz
  have hP := lw_keep (lw_w_m2 hg) (lw_d_m2 (d := d) (cB := cB)) hq
  refine lv_istore (lv' := [(5, .int 1), (4, .int 0), (3, .ref (s.heap.size + 181)), (2, .ref (s.heap.size + 135)), (1, .ref s.heap.size), (0, .ref b)]) hx hb dL_law_1343 hl (by decide) rfl (fun ls hl => ?_)
  refine lv_aload_n hx hb dL_law_1345 rfl (lv_at hl 3 rfl) ?_
  refine lv_aload_n hx hb dL_law_1346 rfl (lv_at hl 5 rfl) ?_
  refine lv_iload hx hb dL_law_1347 (lv_at hl 1 rfl) ?_
  refine lv_iconst (v := 1) hx hb dL_law_1349 (by decide) ?_
  refine lv_iadd hx hb dL_law_1350 ?_
  refine va_sld (i := 0 + 1) hx hb hX hbl hbA hS (by unfold vp_in; decide) dL_law_1351 ?_
  rw [show ((0 : Int32) + 1).toNatClampNeg = 1 from by decide]
  refine lw_ref (As := [.int (xs 1)]) (V := [((s.heap.size + 135), .inr (cRm, [.int 0, .ref (s.heap.size + 135 + 1)])), ((s.heap.size + 135 + 1), .inr (cRh, [.ref (s.heap.size + 135 + 1 + 1), .ref (s.heap.size + 135 + 1 + 12), .ref (s.heap.size + 135 + 1 + 23), .ref (s.heap.size + 135 + 1 + 34), .ref (s.heap.size + 135 + 1 + 43), .ref (s.heap.size + 135 + 1 + 44), .int 0, .int 0, .int 0, .int 0, .int 0, .int 5, .int 200, .int 30]))]) (V2 := [((s.heap.size + 135), .inr (cRm, [.int 1, .ref (s.heap.size + 135 + 1)]))]) (B := lw_M s.heap.size H1.size) (q0 := 0) (ci := cRm) (r := (RX6, TX6, 2)) ⟨hx, hb, hml, hown, hts2⟩ (rX6_price_bad l D d.1 cB H1.size (s.heap.size + 135) (s.heap.size + 135 + 1) (s.heap.size + 135 + 1 + 1) (s.heap.size + 135 + 1 + 12) (s.heap.size + 135 + 1 + 23) (s.heap.size + 135 + 1 + 34) (s.heap.size + 135 + 1 + 43) (s.heap.size + 135 + 1 + 44) 0 (xs 1) (lw_M s.heap.size H1.size) (lw_lM (lw_d_m2 (d := d) (cB := cB))) (sp_in_0 g0)) (cwV 1 hts2 gL_law_X6_price rfl rfl rfl (by decide +kernel) ⟨Nat.le_of_ble_eq_true rfl, Nat.le_of_ble_eq_true rfl⟩) hK2 hP (lw_MB hsz) hS rfl rfl rfl rfl hl.1 (Nat.le_of_ble_eq_true rfl) dL_law_1352 ⟨Nat.le_of_ble_eq_true rfl, Nat.le_of_ble_eq_true rfl⟩ rfl (fun r_ H2 locs hp hM2 hq2 hz2 hS => ?_)
  subst hp
  have hO2 := rf_keep1 hO (fun _ => hq2 (s.heap.size + 181) (by omega) (lw_noM hsz))
  refine lv_istore (lv' := [(6, .int 0), (5, .int 1), (4, .int 0), (3, .ref (s.heap.size + 181)), (2, .ref (s.heap.size + 135)), (1, .ref s.heap.size), (0, .ref b)]) hx hb dL_law_1355 hl (by decide) rfl (fun ls hl => ?_)
  refine lv_aload_n hx hb dL_law_1357 rfl (lv_at hl 4 rfl) ?_
  refine rf_callR (As := []) (W0 := [((s.heap.size + 135), .inr (cRm, [.int 1, .ref (s.heap.size + 135 + 1)]))] ++ [((s.heap.size + 181), .inl (cL, 1, .inr (.inl (fun _ => 0))))]) (V := [((s.heap.size + 135), .inr (cRm, [.int 1, .ref (s.heap.size + 135 + 1)]))]) (q0 := 0) (ci := cRm) (r := (RX6, TX6, 2)) ⟨hx, hb, hml, hown, hts2⟩ (rX6_thrown l D d.1 cB H2.size (s.heap.size + 135) (s.heap.size + 135 + 1) 1) (cwV 0 hts2 gL_law_X6_thrown rfl rfl rfl (by decide +kernel) ⟨Nat.le_of_ble_eq_true rfl, Nat.le_of_ble_eq_true rfl⟩) hK2 (hM2.app hO2) hM2 hS rfl rfl rfl rfl hl.1 (Nat.le_of_ble_eq_true rfl) dL_law_1358 ⟨Nat.le_of_ble_eq_true rfl, Nat.le_of_ble_eq_true rfl⟩ rfl (fun r_ H3 locs hp hP3 hS => ?_)
  subst hp
  refine lv_iload hx hb dL_law_1361 (lv_at hl 1 rfl) ?_
  refine lv_icmp_eq (tgt := 1368) hx hb dL_law_1363 (by decide) (fun c_1363 => ?_) (fun c_1363 => ?_)
  · refine lv_iload hx hb dL_law_1368 (lv_at hl 1 rfl) ?_
    refine lv_if_ne (tgt := 1385) hx hb dL_law_1370 (by decide) (fun c_1370 => ?_) (fun c_1370 => ?_)
    · refine lv_goto (tgt := 2108) hx hb dL_law_1385 (by decide) ?_
      exact lw_tail G hS (Nat.le_of_ble_eq_true rfl) (Nat.le_of_ble_eq_true rfl) (lv_sub hl [2, 6] rfl)
    · exact absurd c_1370 (by decide)
  · exact absurd (by decide) c_1363
set_option maxHeartbeats 4000000 in
set_option maxRecDepth 100000 in
/-- the law: lw_c17_d -/
theorem lw_c17_d {p : Program} {l : Launch} {e : Env} {s : State} {m : MethodId} {below : List Frame} {meth : Method} {c : Code} {b : Nat} {D : va_G} {d : hs_Dm} {cB cL : ClassId} {xs : Nat → Int32} (G : lw_G p l s m meth c b D d cB cL xs) (g1 : ¬ xs 1 < 0) (g2 : xs 1 ≤ 20) {H : Heap} {locs : List Loc} (hg : rg D (lw_X d cB cL s.heap.size) s.heap.size 182 H) (hz0 : H.size = s.heap.size + 182) (hS : va_S (rg_A s.heap.size) s.heap H locs) {ls : Array Slot} (hl : lv_has ls 9 [(4, .int 0), (3, .ref (s.heap.size + 181)), (2, .ref (s.heap.size + 135)), (1, .ref s.heap.size), (0, .ref b)]) : W p l e room_1 s m #[Value.ref b] below meth c H locs 182 1149 (lw_Z below #[Value.ref b] s) (F0 m 1332 ls []) := by
  obtain ⟨hx, hb, hr, hlocks, hml, hown, hts, hl0, hX, hbl, hK, hK2, hKL, hXE⟩ := id G
  have hts2 : ∀ w ∈ wsL_law, w.before #[Value.ref b] s = true := fun w h => hts w (wsL_law_in w h)
  have hbA : ¬ rg_A s.heap.size b := Nat.not_le.mpr hbl
  refine lv_aload_n hx hb dL_law_1332 rfl (lv_at hl 3 rfl) ?_
  refine lv_aload_n hx hb dL_law_1333 rfl (lv_at hl 4 rfl) ?_
  refine lv_iload hx hb dL_law_1334 (lv_at hl 0 rfl) ?_
  refine lv_iconst (v := 1) hx hb dL_law_1336 (by decide) ?_
  refine lv_iadd hx hb dL_law_1337 ?_
  refine va_sld (i := 0 + 1) hx hb hX hbl hbA hS (by unfold vp_in; decide) dL_law_1338 ?_
  rw [show ((0 : Int32) + 1).toNatClampNeg = 1 from by decide]
  refine lv_aload_n hx hb dL_law_1339 rfl (lv_at hl 1 rfl) ?_
  refine lw_help (As := [.ref s.heap.size, .int (xs 1), .ref (s.heap.size + 181)]) ⟨hx, hb, hml, hown, hts2⟩ (hK_price l D d s.heap.size (rc_L (s.heap.size + 1)) (rc_L (s.heap.size + 68)) (lw_A1 s.heap.size) (lw_A2 s.heap.size) (lw_B s.heap.size) (s.heap.size + 181) cL (fun _ => 0) lw_wB (fun _ h => lw_AB h) (Or.inr rfl) lw_oA (xs 1) g1 g2) (vx_cwSW 3 hts2 gL_law_L_price rfl rfl rfl (by decide +kernel) ⟨Nat.le_of_ble_eq_true rfl, Nat.le_of_ble_eq_true rfl⟩) (lw_house hg) (lw_trial hg) hK hXE lw_BB (lw_wax hg) (lw_out hg) hKL hS rfl hl.1 (Nat.le_of_ble_eq_true rfl) dL_law_1340 ⟨Nat.le_of_ble_eq_true rfl, Nat.le_of_ble_eq_true rfl⟩ rfl (fun H1 locs hO hq hz hS => ?_)
  have hsz : s.heap.size + 182 ≤ H1.size := by rw [← hz0]; exact hz
  have hP := lw_keep (lw_w_m2 hg) (lw_d_m2 (d := d) (cB := cB)) hq
  refine lv_istore (lv' := [(5, .int 0), (4, .int 0), (3, .ref (s.heap.size + 181)), (2, .ref (s.heap.size + 135)), (1, .ref s.heap.size), (0, .ref b)]) hx hb dL_law_1343 hl (by decide) rfl (fun ls hl => ?_)
  refine lv_aload_n hx hb dL_law_1345 rfl (lv_at hl 3 rfl) ?_
  refine lv_aload_n hx hb dL_law_1346 rfl (lv_at hl 5 rfl) ?_
  refine lv_iload hx hb dL_law_1347 (lv_at hl 1 rfl) ?_
  refine lv_iconst (v := 1) hx hb dL_law_1349 (by decide) ?_
  refine lv_iadd hx hb dL_law_1350 ?_
  refine va_sld (i := 0 + 1) hx hb hX hbl hbA hS (by unfold vp_in; decide) dL_law_1351 ?_
  rw [show ((0 : Int32) + 1).toNatClampNeg = 1 from by decide]
  refine lw_ref (As := [.int (xs 1)]) (V := [((s.heap.size + 135), .inr (cRm, [.int 0, .ref (s.heap.size + 135 + 1)])), ((s.heap.size + 135 + 1), .inr (cRh, [.ref (s.heap.size + 135 + 1 + 1), .ref (s.heap.size + 135 + 1 + 12), .ref (s.heap.size + 135 + 1 + 23), .ref (s.heap.size + 135 + 1 + 34), .ref (s.heap.size + 135 + 1 + 43), .ref (s.heap.size + 135 + 1 + 44), .int 0, .int 0, .int 0, .int 0, .int 0, .int 5, .int 200, .int 30]))]) (V2 := [((s.heap.size + 135), .inr (cRm, [.int 0, .ref (s.heap.size + 135 + 1)]))]) (B := lw_M s.heap.size H1.size) (q0 := 0) (ci := cRm) (r := (RX6, TX6, 2)) ⟨hx, hb, hml, hown, hts2⟩ (rX6_price_ok l D d.1 cB H1.size (s.heap.size + 135) (s.heap.size + 135 + 1) (s.heap.size + 135 + 1 + 1) (s.heap.size + 135 + 1 + 12) (s.heap.size + 135 + 1 + 23) (s.heap.size + 135 + 1 + 34) (s.heap.size + 135 + 1 + 43) (s.heap.size + 135 + 1 + 44) 0 (xs 1) (lw_M s.heap.size H1.size) (lw_lM (lw_d_m2 (d := d) (cB := cB))) (sp_in_1 g1 g2)) (cwV 1 hts2 gL_law_X6_price rfl rfl rfl (by decide +kernel) ⟨Nat.le_of_ble_eq_true rfl, Nat.le_of_ble_eq_true rfl⟩) hK2 hP (lw_MB hsz) hS rfl rfl rfl rfl hl.1 (Nat.le_of_ble_eq_true rfl) dL_law_1352 ⟨Nat.le_of_ble_eq_true rfl, Nat.le_of_ble_eq_true rfl⟩ rfl (fun r_ H2 locs hp hM2 hq2 hz2 hS => ?_)
  subst hp
  have hO2 := rf_keep1 hO (fun _ => hq2 (s.heap.size + 181) (by omega) (lw_noM hsz))
  refine lv_istore (lv' := [(6, .int 5), (5, .int 0), (4, .int 0), (3, .ref (s.heap.size + 181)), (2, .ref (s.heap.size + 135)), (1, .ref s.heap.size), (0, .ref b)]) hx hb dL_law_1355 hl (by decide) rfl (fun ls hl => ?_)
  refine lv_aload_n hx hb dL_law_1357 rfl (lv_at hl 4 rfl) ?_
  refine rf_callR (As := []) (W0 := [((s.heap.size + 135), .inr (cRm, [.int 0, .ref (s.heap.size + 135 + 1)]))] ++ [((s.heap.size + 181), .inl (cL, 1, .inr (.inl (vp_updL (fun _ => 0) (0 : Int32).toNatClampNeg (rc_s 0 0 9).toInt64))))]) (V := [((s.heap.size + 135), .inr (cRm, [.int 0, .ref (s.heap.size + 135 + 1)]))]) (q0 := 0) (ci := cRm) (r := (RX6, TX6, 2)) ⟨hx, hb, hml, hown, hts2⟩ (rX6_thrown l D d.1 cB H2.size (s.heap.size + 135) (s.heap.size + 135 + 1) 0) (cwV 0 hts2 gL_law_X6_thrown rfl rfl rfl (by decide +kernel) ⟨Nat.le_of_ble_eq_true rfl, Nat.le_of_ble_eq_true rfl⟩) hK2 (hM2.app hO2) hM2 hS rfl rfl rfl rfl hl.1 (Nat.le_of_ble_eq_true rfl) dL_law_1358 ⟨Nat.le_of_ble_eq_true rfl, Nat.le_of_ble_eq_true rfl⟩ rfl (fun r_ H3 locs hp hP3 hS => ?_)
  subst hp
  refine lv_iload hx hb dL_law_1361 (lv_at hl 1 rfl) ?_
  refine lv_icmp_eq (tgt := 1368) hx hb dL_law_1363 (by decide) (fun c_1363 => ?_) (fun c_1363 => ?_)
  · refine lv_iload hx hb dL_law_1368 (lv_at hl 1 rfl) ?_
    refine lv_if_ne (tgt := 1385) hx hb dL_law_1370 (by decide) (fun c_1370 => ?_) (fun c_1370 => ?_)
    · exact absurd (by decide) c_1370
    · refine lv_aload_n hx hb dL_law_1373 rfl (lv_at hl 3 rfl) ?_
      refine lv_iconst (v := 0) hx hb dL_law_1374 (by decide) ?_
      refine va_lald hx hb hKL (hP3.sub (ws' := [((s.heap.size + 181), .inl (cL, 1, .inr (.inl (vp_updL (fun _ => 0) (0 : Int32).toNatClampNeg (rc_s 0 0 9).toInt64))))]) [1] rfl) 0 0 rfl rfl (by unfold vp_in; decide) dL_law_1375 ?_
      rw [vp_updL_self]
      refine lv_iload hx hb dL_law_1376 (lv_at hl 0 rfl) ?_
      refine lv_i2l hx hb dL_law_1378 rfl ?_
      refine W.lcmp hx hb dL_law_1379 ?_
      rw [show (rc_s 0 0 9) = (5 : Int32) from rfl, lg_cmp_self]
      refine lv_if_eq (tgt := 1385) hx hb dL_law_1380 (by decide) (fun c_1380 => ?_) (fun c_1380 => ?_)
      · refine lv_goto (tgt := 2108) hx hb dL_law_1385 (by decide) ?_
        exact lw_tail G hS (Nat.le_of_ble_eq_true rfl) (Nat.le_of_ble_eq_true rfl) (lv_sub hl [2, 6] rfl)
      · exact absurd (by decide) c_1380
  · exact absurd (by decide) c_1363
set_option maxHeartbeats 4000000 in
set_option maxRecDepth 100000 in
/-- the law: lw_c18_a -/
theorem lw_c18_a {p : Program} {l : Launch} {e : Env} {s : State} {m : MethodId} {below : List Frame} {meth : Method} {c : Code} {b : Nat} {D : va_G} {d : hs_Dm} {cB cL : ClassId} {xs : Nat → Int32} (G : lw_G p l s m meth c b D d cB cL xs) (g0 : xs 1 < 1 ∨ ¬ xs 1 ≤ 40) {H : Heap} {locs : List Loc} (hg : rg D (lw_X d cB cL s.heap.size) s.heap.size 182 H) (hz0 : H.size = s.heap.size + 182) (hS : va_S (rg_A s.heap.size) s.heap H locs) {ls : Array Slot} (hl : lv_has ls 9 [(4, .int 0), (3, .ref (s.heap.size + 181)), (2, .ref (s.heap.size + 135)), (1, .ref s.heap.size), (0, .ref b)]) : W p l e room_1 s m #[Value.ref b] below meth c H locs 182 1149 (lw_Z below #[Value.ref b] s) (F0 m 1388 ls []) := by
  obtain ⟨hx, hb, hr, hlocks, hml, hown, hts, hl0, hX, hbl, hK, hK2, hKL, hXE⟩ := id G
  have hts2 : ∀ w ∈ wsL_law, w.before #[Value.ref b] s = true := fun w h => hts w (wsL_law_in w h)
  have hbA : ¬ rg_A s.heap.size b := Nat.not_le.mpr hbl
  refine lv_aload_n hx hb dL_law_1388 rfl (lv_at hl 3 rfl) ?_
  refine lv_aload_n hx hb dL_law_1389 rfl (lv_at hl 4 rfl) ?_
  refine lv_iload hx hb dL_law_1390 (lv_at hl 0 rfl) ?_
  refine lv_iconst (v := 1) hx hb dL_law_1392 (by decide) ?_
  refine lv_iadd hx hb dL_law_1393 ?_
  refine va_sld (i := 0 + 1) hx hb hX hbl hbA hS (by unfold vp_in; decide) dL_law_1394 ?_
  rw [show ((0 : Int32) + 1).toNatClampNeg = 1 from by decide]
  refine lv_aload_n hx hb dL_law_1395 rfl (lv_at hl 4 rfl) ?_
  refine lv_iload hx hb dL_law_1396 (lv_at hl 0 rfl) ?_
  refine lv_iconst (v := 2) hx hb dL_law_1398 (by decide) ?_
  refine lv_iadd hx hb dL_law_1399 ?_
  refine va_sld (i := 0 + 2) hx hb hX hbl hbA hS (by unfold vp_in; decide) dL_law_1400 ?_
  rw [show ((0 : Int32) + 2).toNatClampNeg = 2 from by decide]
  refine lv_aload_n hx hb dL_law_1401 rfl (lv_at hl 4 rfl) ?_
  refine lv_iload hx hb dL_law_1402 (lv_at hl 0 rfl) ?_
  refine lv_iconst (v := 3) hx hb dL_law_1404 (by decide) ?_
  refine lv_iadd hx hb dL_law_1405 ?_
  refine va_sld (i := 0 + 3) hx hb hX hbl hbA hS (by unfold vp_in; decide) dL_law_1406 ?_
  rw [show ((0 : Int32) + 3).toNatClampNeg = 3 from by decide]
  refine lv_aload_n hx hb dL_law_1407 rfl (lv_at hl 1 rfl) ?_
  refine lw_help (As := [.ref s.heap.size, .int (xs 1), .int (xs 2), .int (xs 3), .ref (s.heap.size + 181)]) ⟨hx, hb, hml, hown, hts2⟩ (hA_pass_0 l D d s.heap.size (rc_L (s.heap.size + 1)) (rc_L (s.heap.size + 68)) (lw_A1 s.heap.size) (lw_A2 s.heap.size) (lw_B s.heap.size) (s.heap.size + 181) cL (fun _ => 0) lw_wB (fun _ h => lw_AB h) (Or.inr rfl) lw_oA hl0 (xs 1) (xs 2) (xs 3) g0) (vx_cwSW 5 hts2 gL_law_L_pass rfl rfl rfl (by decide +kernel) ⟨Nat.le_of_ble_eq_true rfl, Nat.le_of_ble_eq_true rfl⟩) (lw_house hg) (lw_trial hg) hK hXE lw_BB (lw_wax hg) (lw_out hg) hKL hS rfl hl.1 (Nat.le_of_ble_eq_true rfl) dL_law_1408 ⟨Nat.le_of_ble_eq_true rfl, Nat.le_of_ble_eq_true rfl⟩ rfl (fun H1 locs hO hq hz hS => ?_)
  have hsz : s.heap.size + 182 ≤ H1.size := by rw [← hz0]; exact hz
  have hP := lw_keep (lw_w_m2 hg) (lw_d_m2 (d := d) (cB := cB)) hq
  refine lv_istore (lv' := [(5, .int 1), (4, .int 0), (3, .ref (s.heap.size + 181)), (2, .ref (s.heap.size + 135)), (1, .ref s.heap.size), (0, .ref b)]) hx hb dL_law_1411 hl (by decide) rfl (fun ls hl => ?_)
  refine lv_aload_n hx hb dL_law_1413 rfl (lv_at hl 3 rfl) ?_
  refine lv_aload_n hx hb dL_law_1414 rfl (lv_at hl 5 rfl) ?_
  refine lv_iload hx hb dL_law_1415 (lv_at hl 1 rfl) ?_
  refine lv_iconst (v := 1) hx hb dL_law_1417 (by decide) ?_
  refine lv_iadd hx hb dL_law_1418 ?_
  refine va_sld (i := 0 + 1) hx hb hX hbl hbA hS (by unfold vp_in; decide) dL_law_1419 ?_
  rw [show ((0 : Int32) + 1).toNatClampNeg = 1 from by decide]
  refine lv_aload_n hx hb dL_law_1420 rfl (lv_at hl 5 rfl) ?_
  refine lv_iload hx hb dL_law_1421 (lv_at hl 1 rfl) ?_
  refine lv_iconst (v := 2) hx hb dL_law_1423 (by decide) ?_
  refine lv_iadd hx hb dL_law_1424 ?_
  refine va_sld (i := 0 + 2) hx hb hX hbl hbA hS (by unfold vp_in; decide) dL_law_1425 ?_
  rw [show ((0 : Int32) + 2).toNatClampNeg = 2 from by decide]
  refine lv_aload_n hx hb dL_law_1426 rfl (lv_at hl 5 rfl) ?_
  refine lv_iload hx hb dL_law_1427 (lv_at hl 1 rfl) ?_
  refine lv_iconst (v := 3) hx hb dL_law_1429 (by decide) ?_
  refine lv_iadd hx hb dL_law_1430 ?_
  refine va_sld (i := 0 + 3) hx hb hX hbl hbA hS (by unfold vp_in; decide) dL_law_1431 ?_
  rw [show ((0 : Int32) + 3).toNatClampNeg = 3 from by decide]
  refine lw_ref (As := [.int (xs 1), .int (xs 2), .int (xs 3)]) (V := [((s.heap.size + 135), .inr (cRm, [.int 0, .ref (s.heap.size + 135 + 1)])), ((s.heap.size + 135 + 1), .inr (cRh, [.ref (s.heap.size + 135 + 1 + 1), .ref (s.heap.size + 135 + 1 + 12), .ref (s.heap.size + 135 + 1 + 23), .ref (s.heap.size + 135 + 1 + 34), .ref (s.heap.size + 135 + 1 + 43), .ref (s.heap.size + 135 + 1 + 44), .int 0, .int 0, .int 0, .int 0, .int 0, .int 5, .int 200, .int 30]))]) (V2 := [((s.heap.size + 135), .inr (cRm, [.int 1, .ref (s.heap.size + 135 + 1)]))]) (B := lw_M s.heap.size H1.size) (q0 := 0) (ci := cRm) (r := (RX6, TX6, 2)) ⟨hx, hb, hml, hown, hts2⟩ (rX6_pass_bad l D d.1 cB H1.size (s.heap.size + 135) (s.heap.size + 135 + 1) (s.heap.size + 135 + 1 + 1) (s.heap.size + 135 + 1 + 12) (s.heap.size + 135 + 1 + 23) (s.heap.size + 135 + 1 + 34) (s.heap.size + 135 + 1 + 43) (s.heap.size + 135 + 1 + 44) 0 (xs 1) (xs 2) (xs 3) (lw_M s.heap.size H1.size) (lw_lM (lw_d_m2 (d := d) (cB := cB))) (Or.inl (sp_in_0 g0))) (cwV 3 hts2 gL_law_X6_pass rfl rfl rfl (by decide +kernel) ⟨Nat.le_of_ble_eq_true rfl, Nat.le_of_ble_eq_true rfl⟩) hK2 hP (lw_MB hsz) hS rfl rfl rfl rfl hl.1 (Nat.le_of_ble_eq_true rfl) dL_law_1432 ⟨Nat.le_of_ble_eq_true rfl, Nat.le_of_ble_eq_true rfl⟩ rfl (fun r_ H2 locs hp hM2 hq2 hz2 hS => ?_)
  subst hp
  have hO2 := rf_keep1 hO (fun _ => hq2 (s.heap.size + 181) (by omega) (lw_noM hsz))
  refine lv_istore (lv' := [(6, .int 0), (5, .int 1), (4, .int 0), (3, .ref (s.heap.size + 181)), (2, .ref (s.heap.size + 135)), (1, .ref s.heap.size), (0, .ref b)]) hx hb dL_law_1435 hl (by decide) rfl (fun ls hl => ?_)
  refine lv_aload_n hx hb dL_law_1437 rfl (lv_at hl 4 rfl) ?_
  refine rf_callR (As := []) (W0 := [((s.heap.size + 135), .inr (cRm, [.int 1, .ref (s.heap.size + 135 + 1)]))] ++ [((s.heap.size + 181), .inl (cL, 1, .inr (.inl (fun _ => 0))))]) (V := [((s.heap.size + 135), .inr (cRm, [.int 1, .ref (s.heap.size + 135 + 1)]))]) (q0 := 0) (ci := cRm) (r := (RX6, TX6, 2)) ⟨hx, hb, hml, hown, hts2⟩ (rX6_thrown l D d.1 cB H2.size (s.heap.size + 135) (s.heap.size + 135 + 1) 1) (cwV 0 hts2 gL_law_X6_thrown rfl rfl rfl (by decide +kernel) ⟨Nat.le_of_ble_eq_true rfl, Nat.le_of_ble_eq_true rfl⟩) hK2 (hM2.app hO2) hM2 hS rfl rfl rfl rfl hl.1 (Nat.le_of_ble_eq_true rfl) dL_law_1438 ⟨Nat.le_of_ble_eq_true rfl, Nat.le_of_ble_eq_true rfl⟩ rfl (fun r_ H3 locs hp hP3 hS => ?_)
  subst hp
  refine lv_iload hx hb dL_law_1441 (lv_at hl 1 rfl) ?_
  refine lv_icmp_eq (tgt := 1448) hx hb dL_law_1443 (by decide) (fun c_1443 => ?_) (fun c_1443 => ?_)
  · refine lv_iload hx hb dL_law_1448 (lv_at hl 1 rfl) ?_
    refine lv_if_ne (tgt := 1465) hx hb dL_law_1450 (by decide) (fun c_1450 => ?_) (fun c_1450 => ?_)
    · refine lv_goto (tgt := 2108) hx hb dL_law_1465 (by decide) ?_
      exact lw_tail G hS (Nat.le_of_ble_eq_true rfl) (Nat.le_of_ble_eq_true rfl) (lv_sub hl [2, 6] rfl)
    · exact absurd c_1450 (by decide)
  · exact absurd (by decide) c_1443
set_option maxHeartbeats 4000000 in
set_option maxRecDepth 100000 in
/-- the law: lw_c18_b -/
theorem lw_c18_b {p : Program} {l : Launch} {e : Env} {s : State} {m : MethodId} {below : List Frame} {meth : Method} {c : Code} {b : Nat} {D : va_G} {d : hs_Dm} {cB cL : ClassId} {xs : Nat → Int32} (G : lw_G p l s m meth c b D d cB cL xs) (g1 : ¬ xs 1 < 1) (g2 : xs 1 ≤ 40) (g0 : xs 2 < 0 ∨ ¬ xs 2 ≤ 2000) {H : Heap} {locs : List Loc} (hg : rg D (lw_X d cB cL s.heap.size) s.heap.size 182 H) (hz0 : H.size = s.heap.size + 182) (hS : va_S (rg_A s.heap.size) s.heap H locs) {ls : Array Slot} (hl : lv_has ls 9 [(4, .int 0), (3, .ref (s.heap.size + 181)), (2, .ref (s.heap.size + 135)), (1, .ref s.heap.size), (0, .ref b)]) : W p l e room_1 s m #[Value.ref b] below meth c H locs 182 1149 (lw_Z below #[Value.ref b] s) (F0 m 1388 ls []) := by
  obtain ⟨hx, hb, hr, hlocks, hml, hown, hts, hl0, hX, hbl, hK, hK2, hKL, hXE⟩ := id G
  have hts2 : ∀ w ∈ wsL_law, w.before #[Value.ref b] s = true := fun w h => hts w (wsL_law_in w h)
  have hbA : ¬ rg_A s.heap.size b := Nat.not_le.mpr hbl
  refine lv_aload_n hx hb dL_law_1388 rfl (lv_at hl 3 rfl) ?_
  refine lv_aload_n hx hb dL_law_1389 rfl (lv_at hl 4 rfl) ?_
  refine lv_iload hx hb dL_law_1390 (lv_at hl 0 rfl) ?_
  refine lv_iconst (v := 1) hx hb dL_law_1392 (by decide) ?_
  refine lv_iadd hx hb dL_law_1393 ?_
  refine va_sld (i := 0 + 1) hx hb hX hbl hbA hS (by unfold vp_in; decide) dL_law_1394 ?_
  rw [show ((0 : Int32) + 1).toNatClampNeg = 1 from by decide]
  refine lv_aload_n hx hb dL_law_1395 rfl (lv_at hl 4 rfl) ?_
  refine lv_iload hx hb dL_law_1396 (lv_at hl 0 rfl) ?_
  refine lv_iconst (v := 2) hx hb dL_law_1398 (by decide) ?_
  refine lv_iadd hx hb dL_law_1399 ?_
  refine va_sld (i := 0 + 2) hx hb hX hbl hbA hS (by unfold vp_in; decide) dL_law_1400 ?_
  rw [show ((0 : Int32) + 2).toNatClampNeg = 2 from by decide]
  refine lv_aload_n hx hb dL_law_1401 rfl (lv_at hl 4 rfl) ?_
  refine lv_iload hx hb dL_law_1402 (lv_at hl 0 rfl) ?_
  refine lv_iconst (v := 3) hx hb dL_law_1404 (by decide) ?_
  refine lv_iadd hx hb dL_law_1405 ?_
  refine va_sld (i := 0 + 3) hx hb hX hbl hbA hS (by unfold vp_in; decide) dL_law_1406 ?_
  rw [show ((0 : Int32) + 3).toNatClampNeg = 3 from by decide]
  refine lv_aload_n hx hb dL_law_1407 rfl (lv_at hl 1 rfl) ?_
  refine lw_help (As := [.ref s.heap.size, .int (xs 1), .int (xs 2), .int (xs 3), .ref (s.heap.size + 181)]) ⟨hx, hb, hml, hown, hts2⟩ (hA_pass_1 l D d s.heap.size (rc_L (s.heap.size + 1)) (rc_L (s.heap.size + 68)) (lw_A1 s.heap.size) (lw_A2 s.heap.size) (lw_B s.heap.size) (s.heap.size + 181) cL (fun _ => 0) lw_wB (fun _ h => lw_AB h) (Or.inr rfl) lw_oA hl0 (xs 1) (xs 2) (xs 3) g1 g2 g0) (vx_cwSW 5 hts2 gL_law_L_pass rfl rfl rfl (by decide +kernel) ⟨Nat.le_of_ble_eq_true rfl, Nat.le_of_ble_eq_true rfl⟩) (lw_house hg) (lw_trial hg) hK hXE lw_BB (lw_wax hg) (lw_out hg) hKL hS rfl hl.1 (Nat.le_of_ble_eq_true rfl) dL_law_1408 ⟨Nat.le_of_ble_eq_true rfl, Nat.le_of_ble_eq_true rfl⟩ rfl (fun H1 locs hO hq hz hS => ?_)
  have hsz : s.heap.size + 182 ≤ H1.size := by rw [← hz0]; exact hz
  have hP := lw_keep (lw_w_m2 hg) (lw_d_m2 (d := d) (cB := cB)) hq
  refine lv_istore (lv' := [(5, .int 1), (4, .int 0), (3, .ref (s.heap.size + 181)), (2, .ref (s.heap.size + 135)), (1, .ref s.heap.size), (0, .ref b)]) hx hb dL_law_1411 hl (by decide) rfl (fun ls hl => ?_)
  refine lv_aload_n hx hb dL_law_1413 rfl (lv_at hl 3 rfl) ?_
  refine lv_aload_n hx hb dL_law_1414 rfl (lv_at hl 5 rfl) ?_
  refine lv_iload hx hb dL_law_1415 (lv_at hl 1 rfl) ?_
  refine lv_iconst (v := 1) hx hb dL_law_1417 (by decide) ?_
  refine lv_iadd hx hb dL_law_1418 ?_
  refine va_sld (i := 0 + 1) hx hb hX hbl hbA hS (by unfold vp_in; decide) dL_law_1419 ?_
  rw [show ((0 : Int32) + 1).toNatClampNeg = 1 from by decide]
  refine lv_aload_n hx hb dL_law_1420 rfl (lv_at hl 5 rfl) ?_
  refine lv_iload hx hb dL_law_1421 (lv_at hl 1 rfl) ?_
  refine lv_iconst (v := 2) hx hb dL_law_1423 (by decide) ?_
  refine lv_iadd hx hb dL_law_1424 ?_
  refine va_sld (i := 0 + 2) hx hb hX hbl hbA hS (by unfold vp_in; decide) dL_law_1425 ?_
  rw [show ((0 : Int32) + 2).toNatClampNeg = 2 from by decide]
  refine lv_aload_n hx hb dL_law_1426 rfl (lv_at hl 5 rfl) ?_
  refine lv_iload hx hb dL_law_1427 (lv_at hl 1 rfl) ?_
  refine lv_iconst (v := 3) hx hb dL_law_1429 (by decide) ?_
  refine lv_iadd hx hb dL_law_1430 ?_
  refine va_sld (i := 0 + 3) hx hb hX hbl hbA hS (by unfold vp_in; decide) dL_law_1431 ?_
  rw [show ((0 : Int32) + 3).toNatClampNeg = 3 from by decide]
  refine lw_ref (As := [.int (xs 1), .int (xs 2), .int (xs 3)]) (V := [((s.heap.size + 135), .inr (cRm, [.int 0, .ref (s.heap.size + 135 + 1)])), ((s.heap.size + 135 + 1), .inr (cRh, [.ref (s.heap.size + 135 + 1 + 1), .ref (s.heap.size + 135 + 1 + 12), .ref (s.heap.size + 135 + 1 + 23), .ref (s.heap.size + 135 + 1 + 34), .ref (s.heap.size + 135 + 1 + 43), .ref (s.heap.size + 135 + 1 + 44), .int 0, .int 0, .int 0, .int 0, .int 0, .int 5, .int 200, .int 30]))]) (V2 := [((s.heap.size + 135), .inr (cRm, [.int 1, .ref (s.heap.size + 135 + 1)]))]) (B := lw_M s.heap.size H1.size) (q0 := 0) (ci := cRm) (r := (RX6, TX6, 2)) ⟨hx, hb, hml, hown, hts2⟩ (rX6_pass_bad l D d.1 cB H1.size (s.heap.size + 135) (s.heap.size + 135 + 1) (s.heap.size + 135 + 1 + 1) (s.heap.size + 135 + 1 + 12) (s.heap.size + 135 + 1 + 23) (s.heap.size + 135 + 1 + 34) (s.heap.size + 135 + 1 + 43) (s.heap.size + 135 + 1 + 44) 0 (xs 1) (xs 2) (xs 3) (lw_M s.heap.size H1.size) (lw_lM (lw_d_m2 (d := d) (cB := cB))) (Or.inr (Or.inl (sp_in_0 g0)))) (cwV 3 hts2 gL_law_X6_pass rfl rfl rfl (by decide +kernel) ⟨Nat.le_of_ble_eq_true rfl, Nat.le_of_ble_eq_true rfl⟩) hK2 hP (lw_MB hsz) hS rfl rfl rfl rfl hl.1 (Nat.le_of_ble_eq_true rfl) dL_law_1432 ⟨Nat.le_of_ble_eq_true rfl, Nat.le_of_ble_eq_true rfl⟩ rfl (fun r_ H2 locs hp hM2 hq2 hz2 hS => ?_)
  subst hp
  have hO2 := rf_keep1 hO (fun _ => hq2 (s.heap.size + 181) (by omega) (lw_noM hsz))
  refine lv_istore (lv' := [(6, .int 0), (5, .int 1), (4, .int 0), (3, .ref (s.heap.size + 181)), (2, .ref (s.heap.size + 135)), (1, .ref s.heap.size), (0, .ref b)]) hx hb dL_law_1435 hl (by decide) rfl (fun ls hl => ?_)
  refine lv_aload_n hx hb dL_law_1437 rfl (lv_at hl 4 rfl) ?_
  refine rf_callR (As := []) (W0 := [((s.heap.size + 135), .inr (cRm, [.int 1, .ref (s.heap.size + 135 + 1)]))] ++ [((s.heap.size + 181), .inl (cL, 1, .inr (.inl (fun _ => 0))))]) (V := [((s.heap.size + 135), .inr (cRm, [.int 1, .ref (s.heap.size + 135 + 1)]))]) (q0 := 0) (ci := cRm) (r := (RX6, TX6, 2)) ⟨hx, hb, hml, hown, hts2⟩ (rX6_thrown l D d.1 cB H2.size (s.heap.size + 135) (s.heap.size + 135 + 1) 1) (cwV 0 hts2 gL_law_X6_thrown rfl rfl rfl (by decide +kernel) ⟨Nat.le_of_ble_eq_true rfl, Nat.le_of_ble_eq_true rfl⟩) hK2 (hM2.app hO2) hM2 hS rfl rfl rfl rfl hl.1 (Nat.le_of_ble_eq_true rfl) dL_law_1438 ⟨Nat.le_of_ble_eq_true rfl, Nat.le_of_ble_eq_true rfl⟩ rfl (fun r_ H3 locs hp hP3 hS => ?_)
  subst hp
  refine lv_iload hx hb dL_law_1441 (lv_at hl 1 rfl) ?_
  refine lv_icmp_eq (tgt := 1448) hx hb dL_law_1443 (by decide) (fun c_1443 => ?_) (fun c_1443 => ?_)
  · refine lv_iload hx hb dL_law_1448 (lv_at hl 1 rfl) ?_
    refine lv_if_ne (tgt := 1465) hx hb dL_law_1450 (by decide) (fun c_1450 => ?_) (fun c_1450 => ?_)
    · refine lv_goto (tgt := 2108) hx hb dL_law_1465 (by decide) ?_
      exact lw_tail G hS (Nat.le_of_ble_eq_true rfl) (Nat.le_of_ble_eq_true rfl) (lv_sub hl [2, 6] rfl)
    · exact absurd c_1450 (by decide)
  · exact absurd (by decide) c_1443
set_option maxHeartbeats 4000000 in
set_option maxRecDepth 100000 in
/-- the law: lw_c18_c -/
theorem lw_c18_c {p : Program} {l : Launch} {e : Env} {s : State} {m : MethodId} {below : List Frame} {meth : Method} {c : Code} {b : Nat} {D : va_G} {d : hs_Dm} {cB cL : ClassId} {xs : Nat → Int32} (G : lw_G p l s m meth c b D d cB cL xs) (g1 : ¬ xs 1 < 1) (g2 : xs 1 ≤ 40) (g3 : ¬ xs 2 < 0) (g4 : xs 2 ≤ 2000) (g0 : xs 3 < 0 ∨ ¬ xs 3 ≤ 40) {H : Heap} {locs : List Loc} (hg : rg D (lw_X d cB cL s.heap.size) s.heap.size 182 H) (hz0 : H.size = s.heap.size + 182) (hS : va_S (rg_A s.heap.size) s.heap H locs) {ls : Array Slot} (hl : lv_has ls 9 [(4, .int 0), (3, .ref (s.heap.size + 181)), (2, .ref (s.heap.size + 135)), (1, .ref s.heap.size), (0, .ref b)]) : W p l e room_1 s m #[Value.ref b] below meth c H locs 182 1149 (lw_Z below #[Value.ref b] s) (F0 m 1388 ls []) := by
  obtain ⟨hx, hb, hr, hlocks, hml, hown, hts, hl0, hX, hbl, hK, hK2, hKL, hXE⟩ := id G
  have hts2 : ∀ w ∈ wsL_law, w.before #[Value.ref b] s = true := fun w h => hts w (wsL_law_in w h)
  have hbA : ¬ rg_A s.heap.size b := Nat.not_le.mpr hbl
  refine lv_aload_n hx hb dL_law_1388 rfl (lv_at hl 3 rfl) ?_
  refine lv_aload_n hx hb dL_law_1389 rfl (lv_at hl 4 rfl) ?_
  refine lv_iload hx hb dL_law_1390 (lv_at hl 0 rfl) ?_
  refine lv_iconst (v := 1) hx hb dL_law_1392 (by decide) ?_
  refine lv_iadd hx hb dL_law_1393 ?_
  refine va_sld (i := 0 + 1) hx hb hX hbl hbA hS (by unfold vp_in; decide) dL_law_1394 ?_
  rw [show ((0 : Int32) + 1).toNatClampNeg = 1 from by decide]
  refine lv_aload_n hx hb dL_law_1395 rfl (lv_at hl 4 rfl) ?_
  refine lv_iload hx hb dL_law_1396 (lv_at hl 0 rfl) ?_
  refine lv_iconst (v := 2) hx hb dL_law_1398 (by decide) ?_
  refine lv_iadd hx hb dL_law_1399 ?_
  refine va_sld (i := 0 + 2) hx hb hX hbl hbA hS (by unfold vp_in; decide) dL_law_1400 ?_
  rw [show ((0 : Int32) + 2).toNatClampNeg = 2 from by decide]
  refine lv_aload_n hx hb dL_law_1401 rfl (lv_at hl 4 rfl) ?_
  refine lv_iload hx hb dL_law_1402 (lv_at hl 0 rfl) ?_
  refine lv_iconst (v := 3) hx hb dL_law_1404 (by decide) ?_
  refine lv_iadd hx hb dL_law_1405 ?_
  refine va_sld (i := 0 + 3) hx hb hX hbl hbA hS (by unfold vp_in; decide) dL_law_1406 ?_
  rw [show ((0 : Int32) + 3).toNatClampNeg = 3 from by decide]
  refine lv_aload_n hx hb dL_law_1407 rfl (lv_at hl 1 rfl) ?_
  refine lw_help (As := [.ref s.heap.size, .int (xs 1), .int (xs 2), .int (xs 3), .ref (s.heap.size + 181)]) ⟨hx, hb, hml, hown, hts2⟩ (hA_pass_2 l D d s.heap.size (rc_L (s.heap.size + 1)) (rc_L (s.heap.size + 68)) (lw_A1 s.heap.size) (lw_A2 s.heap.size) (lw_B s.heap.size) (s.heap.size + 181) cL (fun _ => 0) lw_wB (fun _ h => lw_AB h) (Or.inr rfl) lw_oA hl0 (xs 1) (xs 2) (xs 3) g1 g2 g3 g4 g0) (vx_cwSW 5 hts2 gL_law_L_pass rfl rfl rfl (by decide +kernel) ⟨Nat.le_of_ble_eq_true rfl, Nat.le_of_ble_eq_true rfl⟩) (lw_house hg) (lw_trial hg) hK hXE lw_BB (lw_wax hg) (lw_out hg) hKL hS rfl hl.1 (Nat.le_of_ble_eq_true rfl) dL_law_1408 ⟨Nat.le_of_ble_eq_true rfl, Nat.le_of_ble_eq_true rfl⟩ rfl (fun H1 locs hO hq hz hS => ?_)
  have hsz : s.heap.size + 182 ≤ H1.size := by rw [← hz0]; exact hz
  have hP := lw_keep (lw_w_m2 hg) (lw_d_m2 (d := d) (cB := cB)) hq
  refine lv_istore (lv' := [(5, .int 1), (4, .int 0), (3, .ref (s.heap.size + 181)), (2, .ref (s.heap.size + 135)), (1, .ref s.heap.size), (0, .ref b)]) hx hb dL_law_1411 hl (by decide) rfl (fun ls hl => ?_)
  refine lv_aload_n hx hb dL_law_1413 rfl (lv_at hl 3 rfl) ?_
  refine lv_aload_n hx hb dL_law_1414 rfl (lv_at hl 5 rfl) ?_
  refine lv_iload hx hb dL_law_1415 (lv_at hl 1 rfl) ?_
  refine lv_iconst (v := 1) hx hb dL_law_1417 (by decide) ?_
  refine lv_iadd hx hb dL_law_1418 ?_
  refine va_sld (i := 0 + 1) hx hb hX hbl hbA hS (by unfold vp_in; decide) dL_law_1419 ?_
  rw [show ((0 : Int32) + 1).toNatClampNeg = 1 from by decide]
  refine lv_aload_n hx hb dL_law_1420 rfl (lv_at hl 5 rfl) ?_
  refine lv_iload hx hb dL_law_1421 (lv_at hl 1 rfl) ?_
  refine lv_iconst (v := 2) hx hb dL_law_1423 (by decide) ?_
  refine lv_iadd hx hb dL_law_1424 ?_
  refine va_sld (i := 0 + 2) hx hb hX hbl hbA hS (by unfold vp_in; decide) dL_law_1425 ?_
  rw [show ((0 : Int32) + 2).toNatClampNeg = 2 from by decide]
  refine lv_aload_n hx hb dL_law_1426 rfl (lv_at hl 5 rfl) ?_
  refine lv_iload hx hb dL_law_1427 (lv_at hl 1 rfl) ?_
  refine lv_iconst (v := 3) hx hb dL_law_1429 (by decide) ?_
  refine lv_iadd hx hb dL_law_1430 ?_
  refine va_sld (i := 0 + 3) hx hb hX hbl hbA hS (by unfold vp_in; decide) dL_law_1431 ?_
  rw [show ((0 : Int32) + 3).toNatClampNeg = 3 from by decide]
  refine lw_ref (As := [.int (xs 1), .int (xs 2), .int (xs 3)]) (V := [((s.heap.size + 135), .inr (cRm, [.int 0, .ref (s.heap.size + 135 + 1)])), ((s.heap.size + 135 + 1), .inr (cRh, [.ref (s.heap.size + 135 + 1 + 1), .ref (s.heap.size + 135 + 1 + 12), .ref (s.heap.size + 135 + 1 + 23), .ref (s.heap.size + 135 + 1 + 34), .ref (s.heap.size + 135 + 1 + 43), .ref (s.heap.size + 135 + 1 + 44), .int 0, .int 0, .int 0, .int 0, .int 0, .int 5, .int 200, .int 30]))]) (V2 := [((s.heap.size + 135), .inr (cRm, [.int 1, .ref (s.heap.size + 135 + 1)]))]) (B := lw_M s.heap.size H1.size) (q0 := 0) (ci := cRm) (r := (RX6, TX6, 2)) ⟨hx, hb, hml, hown, hts2⟩ (rX6_pass_bad l D d.1 cB H1.size (s.heap.size + 135) (s.heap.size + 135 + 1) (s.heap.size + 135 + 1 + 1) (s.heap.size + 135 + 1 + 12) (s.heap.size + 135 + 1 + 23) (s.heap.size + 135 + 1 + 34) (s.heap.size + 135 + 1 + 43) (s.heap.size + 135 + 1 + 44) 0 (xs 1) (xs 2) (xs 3) (lw_M s.heap.size H1.size) (lw_lM (lw_d_m2 (d := d) (cB := cB))) (Or.inr (Or.inr (sp_in_0 g0)))) (cwV 3 hts2 gL_law_X6_pass rfl rfl rfl (by decide +kernel) ⟨Nat.le_of_ble_eq_true rfl, Nat.le_of_ble_eq_true rfl⟩) hK2 hP (lw_MB hsz) hS rfl rfl rfl rfl hl.1 (Nat.le_of_ble_eq_true rfl) dL_law_1432 ⟨Nat.le_of_ble_eq_true rfl, Nat.le_of_ble_eq_true rfl⟩ rfl (fun r_ H2 locs hp hM2 hq2 hz2 hS => ?_)
  subst hp
  have hO2 := rf_keep1 hO (fun _ => hq2 (s.heap.size + 181) (by omega) (lw_noM hsz))
  refine lv_istore (lv' := [(6, .int 0), (5, .int 1), (4, .int 0), (3, .ref (s.heap.size + 181)), (2, .ref (s.heap.size + 135)), (1, .ref s.heap.size), (0, .ref b)]) hx hb dL_law_1435 hl (by decide) rfl (fun ls hl => ?_)
  refine lv_aload_n hx hb dL_law_1437 rfl (lv_at hl 4 rfl) ?_
  refine rf_callR (As := []) (W0 := [((s.heap.size + 135), .inr (cRm, [.int 1, .ref (s.heap.size + 135 + 1)]))] ++ [((s.heap.size + 181), .inl (cL, 1, .inr (.inl (fun _ => 0))))]) (V := [((s.heap.size + 135), .inr (cRm, [.int 1, .ref (s.heap.size + 135 + 1)]))]) (q0 := 0) (ci := cRm) (r := (RX6, TX6, 2)) ⟨hx, hb, hml, hown, hts2⟩ (rX6_thrown l D d.1 cB H2.size (s.heap.size + 135) (s.heap.size + 135 + 1) 1) (cwV 0 hts2 gL_law_X6_thrown rfl rfl rfl (by decide +kernel) ⟨Nat.le_of_ble_eq_true rfl, Nat.le_of_ble_eq_true rfl⟩) hK2 (hM2.app hO2) hM2 hS rfl rfl rfl rfl hl.1 (Nat.le_of_ble_eq_true rfl) dL_law_1438 ⟨Nat.le_of_ble_eq_true rfl, Nat.le_of_ble_eq_true rfl⟩ rfl (fun r_ H3 locs hp hP3 hS => ?_)
  subst hp
  refine lv_iload hx hb dL_law_1441 (lv_at hl 1 rfl) ?_
  refine lv_icmp_eq (tgt := 1448) hx hb dL_law_1443 (by decide) (fun c_1443 => ?_) (fun c_1443 => ?_)
  · refine lv_iload hx hb dL_law_1448 (lv_at hl 1 rfl) ?_
    refine lv_if_ne (tgt := 1465) hx hb dL_law_1450 (by decide) (fun c_1450 => ?_) (fun c_1450 => ?_)
    · refine lv_goto (tgt := 2108) hx hb dL_law_1465 (by decide) ?_
      exact lw_tail G hS (Nat.le_of_ble_eq_true rfl) (Nat.le_of_ble_eq_true rfl) (lv_sub hl [2, 6] rfl)
    · exact absurd c_1450 (by decide)
  · exact absurd (by decide) c_1443
set_option maxHeartbeats 4000000 in
set_option maxRecDepth 100000 in
/-- the law: lw_c18_d -/
theorem lw_c18_d {p : Program} {l : Launch} {e : Env} {s : State} {m : MethodId} {below : List Frame} {meth : Method} {c : Code} {b : Nat} {D : va_G} {d : hs_Dm} {cB cL : ClassId} {xs : Nat → Int32} (G : lw_G p l s m meth c b D d cB cL xs) {N : Nat} (hN1 : 1 ≤ N) (hN : N ≤ 40) (e1 : xs 1 = nI N) (g1 : ¬ xs 1 < 1) (g2 : xs 1 ≤ 40) (g3 : ¬ xs 2 < 0) (g4 : xs 2 ≤ 2000) (g5 : ¬ xs 3 < 0) (g6 : xs 3 ≤ 40) {H : Heap} {locs : List Loc} (hg : rg D (lw_X d cB cL s.heap.size) s.heap.size 182 H) (hz0 : H.size = s.heap.size + 182) (hS : va_S (rg_A s.heap.size) s.heap H locs) {ls : Array Slot} (hl : lv_has ls 9 [(4, .int 0), (3, .ref (s.heap.size + 181)), (2, .ref (s.heap.size + 135)), (1, .ref s.heap.size), (0, .ref b)]) : W p l e room_1 s m #[Value.ref b] below meth c H locs 182 1149 (lw_Z below #[Value.ref b] s) (F0 m 1388 ls []) := by
  obtain ⟨hx, hb, hr, hlocks, hml, hown, hts, hl0, hX, hbl, hK, hK2, hKL, hXE⟩ := id G
  have hts2 : ∀ w ∈ wsL_law, w.before #[Value.ref b] s = true := fun w h => hts w (wsL_law_in w h)
  have hbA : ¬ rg_A s.heap.size b := Nat.not_le.mpr hbl
  refine lv_aload_n hx hb dL_law_1388 rfl (lv_at hl 3 rfl) ?_
  refine lv_aload_n hx hb dL_law_1389 rfl (lv_at hl 4 rfl) ?_
  refine lv_iload hx hb dL_law_1390 (lv_at hl 0 rfl) ?_
  refine lv_iconst (v := 1) hx hb dL_law_1392 (by decide) ?_
  refine lv_iadd hx hb dL_law_1393 ?_
  refine va_sld (i := 0 + 1) hx hb hX hbl hbA hS (by unfold vp_in; decide) dL_law_1394 ?_
  rw [show ((0 : Int32) + 1).toNatClampNeg = 1 from by decide]
  rw [e1]
  refine lv_aload_n hx hb dL_law_1395 rfl (lv_at hl 4 rfl) ?_
  refine lv_iload hx hb dL_law_1396 (lv_at hl 0 rfl) ?_
  refine lv_iconst (v := 2) hx hb dL_law_1398 (by decide) ?_
  refine lv_iadd hx hb dL_law_1399 ?_
  refine va_sld (i := 0 + 2) hx hb hX hbl hbA hS (by unfold vp_in; decide) dL_law_1400 ?_
  rw [show ((0 : Int32) + 2).toNatClampNeg = 2 from by decide]
  refine lv_aload_n hx hb dL_law_1401 rfl (lv_at hl 4 rfl) ?_
  refine lv_iload hx hb dL_law_1402 (lv_at hl 0 rfl) ?_
  refine lv_iconst (v := 3) hx hb dL_law_1404 (by decide) ?_
  refine lv_iadd hx hb dL_law_1405 ?_
  refine va_sld (i := 0 + 3) hx hb hX hbl hbA hS (by unfold vp_in; decide) dL_law_1406 ?_
  rw [show ((0 : Int32) + 3).toNatClampNeg = 3 from by decide]
  refine lv_aload_n hx hb dL_law_1407 rfl (lv_at hl 1 rfl) ?_
  refine lw_help (As := [.ref s.heap.size, .int (nI N), .int (xs 2), .int (xs 3), .ref (s.heap.size + 181)]) ⟨hx, hb, hml, hown, hts2⟩ (hK_pass l D d s.heap.size (rc_L (s.heap.size + 1)) (rc_L (s.heap.size + 68)) (lw_A1 s.heap.size) (lw_A2 s.heap.size) (lw_B s.heap.size) (s.heap.size + 181) cL (fun _ => 0) lw_wB (fun _ h => lw_AB h) (Or.inr rfl) lw_oA N hN1 hN (xs 2) (xs 3) g3 g4 g5 g6) (vx_cwSW 5 hts2 gL_law_L_pass rfl rfl rfl (by decide +kernel) ⟨Nat.le_of_ble_eq_true rfl, Nat.le_of_ble_eq_true rfl⟩) (lw_house hg) (lw_trial hg) hK hXE lw_BB (lw_wax hg) (lw_out hg) hKL hS rfl hl.1 (Nat.le_of_ble_eq_true rfl) dL_law_1408 ⟨Nat.le_of_ble_eq_true rfl, Nat.le_of_ble_eq_true rfl⟩ rfl (fun H1 locs hO hq hz hS => ?_)
  have hsz : s.heap.size + 182 ≤ H1.size := by rw [← hz0]; exact hz
  have hP := lw_keep (lw_w_m2 hg) (lw_d_m2 (d := d) (cB := cB)) hq
  refine lv_istore (lv' := [(5, .int 0), (4, .int 0), (3, .ref (s.heap.size + 181)), (2, .ref (s.heap.size + 135)), (1, .ref s.heap.size), (0, .ref b)]) hx hb dL_law_1411 hl (by decide) rfl (fun ls hl => ?_)
  refine lv_aload_n hx hb dL_law_1413 rfl (lv_at hl 3 rfl) ?_
  refine lv_aload_n hx hb dL_law_1414 rfl (lv_at hl 5 rfl) ?_
  refine lv_iload hx hb dL_law_1415 (lv_at hl 1 rfl) ?_
  refine lv_iconst (v := 1) hx hb dL_law_1417 (by decide) ?_
  refine lv_iadd hx hb dL_law_1418 ?_
  refine va_sld (i := 0 + 1) hx hb hX hbl hbA hS (by unfold vp_in; decide) dL_law_1419 ?_
  rw [show ((0 : Int32) + 1).toNatClampNeg = 1 from by decide]
  rw [e1]
  refine lv_aload_n hx hb dL_law_1420 rfl (lv_at hl 5 rfl) ?_
  refine lv_iload hx hb dL_law_1421 (lv_at hl 1 rfl) ?_
  refine lv_iconst (v := 2) hx hb dL_law_1423 (by decide) ?_
  refine lv_iadd hx hb dL_law_1424 ?_
  refine va_sld (i := 0 + 2) hx hb hX hbl hbA hS (by unfold vp_in; decide) dL_law_1425 ?_
  rw [show ((0 : Int32) + 2).toNatClampNeg = 2 from by decide]
  refine lv_aload_n hx hb dL_law_1426 rfl (lv_at hl 5 rfl) ?_
  refine lv_iload hx hb dL_law_1427 (lv_at hl 1 rfl) ?_
  refine lv_iconst (v := 3) hx hb dL_law_1429 (by decide) ?_
  refine lv_iadd hx hb dL_law_1430 ?_
  refine va_sld (i := 0 + 3) hx hb hX hbl hbA hS (by unfold vp_in; decide) dL_law_1431 ?_
  rw [show ((0 : Int32) + 3).toNatClampNeg = 3 from by decide]
  refine lw_ref (As := [.int (nI N), .int (xs 2), .int (xs 3)]) (V := [((s.heap.size + 135), .inr (cRm, [.int 0, .ref (s.heap.size + 135 + 1)])), ((s.heap.size + 135 + 1), .inr (cRh, [.ref (s.heap.size + 135 + 1 + 1), .ref (s.heap.size + 135 + 1 + 12), .ref (s.heap.size + 135 + 1 + 23), .ref (s.heap.size + 135 + 1 + 34), .ref (s.heap.size + 135 + 1 + 43), .ref (s.heap.size + 135 + 1 + 44), .int 0, .int 0, .int 0, .int 0, .int 0, .int 5, .int 200, .int 30]))]) (V2 := [((s.heap.size + 135), .inr (cRm, [.int 0, .ref (s.heap.size + 135 + 1)]))]) (B := lw_M s.heap.size H1.size) (q0 := 0) (ci := cRm) (r := (RX6, TX6, 2)) ⟨hx, hb, hml, hown, hts2⟩ (rX6_pass_ok l D d.1 cB H1.size (s.heap.size + 135) (s.heap.size + 135 + 1) (s.heap.size + 135 + 1 + 1) (s.heap.size + 135 + 1 + 12) (s.heap.size + 135 + 1 + 23) (s.heap.size + 135 + 1 + 34) (s.heap.size + 135 + 1 + 43) (s.heap.size + 135 + 1 + 44) 0 N hN (xs 2) (xs 3) (lw_M s.heap.size H1.size) (fun q h => Or.inr h) (lw_lM (lw_d_m2 (d := d) (cB := cB))) (by rw [← e1]; exact sp_in_1 g1 g2) (sp_in_1 g3 g4) (sp_in_1 g5 g6)) (cwV 3 hts2 gL_law_X6_pass rfl rfl rfl (by decide +kernel) ⟨Nat.le_of_ble_eq_true rfl, Nat.le_of_ble_eq_true rfl⟩) hK2 hP (lw_MB hsz) hS rfl rfl rfl rfl hl.1 (Nat.le_of_ble_eq_true rfl) dL_law_1432 ⟨Nat.le_of_ble_eq_true rfl, Nat.le_of_ble_eq_true rfl⟩ rfl (fun r_ H2 locs hp hM2 hq2 hz2 hS => ?_)
  subst hp
  have hO2 := rf_keep1 hO (fun _ => hq2 (s.heap.size + 181) (by omega) (lw_noM hsz))
  refine lv_istore (lv' := [(6, .int 0), (5, .int 0), (4, .int 0), (3, .ref (s.heap.size + 181)), (2, .ref (s.heap.size + 135)), (1, .ref s.heap.size), (0, .ref b)]) hx hb dL_law_1435 hl (by decide) rfl (fun ls hl => ?_)
  refine lv_aload_n hx hb dL_law_1437 rfl (lv_at hl 4 rfl) ?_
  refine rf_callR (As := []) (W0 := [((s.heap.size + 135), .inr (cRm, [.int 0, .ref (s.heap.size + 135 + 1)]))] ++ [((s.heap.size + 181), .inl (cL, 1, .inr (.inl (vp_updL (fun _ => 0) (0 : Int32).toNatClampNeg ((sp_pass rc_s 0 0 (xs 2) (xs 3) N).1).toInt64))))]) (V := [((s.heap.size + 135), .inr (cRm, [.int 0, .ref (s.heap.size + 135 + 1)]))]) (q0 := 0) (ci := cRm) (r := (RX6, TX6, 2)) ⟨hx, hb, hml, hown, hts2⟩ (rX6_thrown l D d.1 cB H2.size (s.heap.size + 135) (s.heap.size + 135 + 1) 0) (cwV 0 hts2 gL_law_X6_thrown rfl rfl rfl (by decide +kernel) ⟨Nat.le_of_ble_eq_true rfl, Nat.le_of_ble_eq_true rfl⟩) hK2 (hM2.app hO2) hM2 hS rfl rfl rfl rfl hl.1 (Nat.le_of_ble_eq_true rfl) dL_law_1438 ⟨Nat.le_of_ble_eq_true rfl, Nat.le_of_ble_eq_true rfl⟩ rfl (fun r_ H3 locs hp hP3 hS => ?_)
  subst hp
  refine lv_iload hx hb dL_law_1441 (lv_at hl 1 rfl) ?_
  refine lv_icmp_eq (tgt := 1448) hx hb dL_law_1443 (by decide) (fun c_1443 => ?_) (fun c_1443 => ?_)
  · refine lv_iload hx hb dL_law_1448 (lv_at hl 1 rfl) ?_
    refine lv_if_ne (tgt := 1465) hx hb dL_law_1450 (by decide) (fun c_1450 => ?_) (fun c_1450 => ?_)
    · exact absurd (by decide) c_1450
    · refine lv_aload_n hx hb dL_law_1453 rfl (lv_at hl 3 rfl) ?_
      refine lv_iconst (v := 0) hx hb dL_law_1454 (by decide) ?_
      refine va_lald hx hb hKL (hP3.sub (ws' := [((s.heap.size + 181), .inl (cL, 1, .inr (.inl (vp_updL (fun _ => 0) (0 : Int32).toNatClampNeg ((sp_pass rc_s 0 0 (xs 2) (xs 3) N).1).toInt64))))]) [1] rfl) 0 0 rfl rfl (by unfold vp_in; decide) dL_law_1455 ?_
      rw [vp_updL_self]
      refine lv_iload hx hb dL_law_1456 (lv_at hl 0 rfl) ?_
      refine lv_i2l hx hb dL_law_1458 rfl ?_
      refine W.lcmp hx hb dL_law_1459 ?_
      rw [show ((sp_pass rc_s 0 0 (xs 2) (xs 3) N).1) = (0 : Int32) from sp_pass0 _ _ _ _, lg_cmp_self]
      refine lv_if_eq (tgt := 1465) hx hb dL_law_1460 (by decide) (fun c_1460 => ?_) (fun c_1460 => ?_)
      · refine lv_goto (tgt := 2108) hx hb dL_law_1465 (by decide) ?_
        exact lw_tail G hS (Nat.le_of_ble_eq_true rfl) (Nat.le_of_ble_eq_true rfl) (lv_sub hl [2, 6] rfl)
      · exact absurd (by decide) c_1460
  · exact absurd (by decide) c_1443
set_option maxHeartbeats 4000000 in
set_option maxRecDepth 100000 in
/-- the law: lw_c23_a -/
theorem lw_c23_a {p : Program} {l : Launch} {e : Env} {s : State} {m : MethodId} {below : List Frame} {meth : Method} {c : Code} {b : Nat} {D : va_G} {d : hs_Dm} {cB cL : ClassId} {xs : Nat → Int32} (G : lw_G p l s m meth c b D d cB cL xs) (g0 : xs 1 < 0 ∨ ¬ xs 1 ≤ 14) {H : Heap} {locs : List Loc} (hg : rg D (lw_X d cB cL s.heap.size) s.heap.size 182 H) (hz0 : H.size = s.heap.size + 182) (hS : va_S (rg_A s.heap.size) s.heap H locs) {ls : Array Slot} (hl : lv_has ls 9 [(4, .int 0), (3, .ref (s.heap.size + 181)), (2, .ref (s.heap.size + 135)), (1, .ref s.heap.size), (0, .ref b)]) : W p l e room_1 s m #[Value.ref b] below meth c H locs 182 1149 (lw_Z below #[Value.ref b] s) (F0 m 1768 ls []) := by
  obtain ⟨hx, hb, hr, hlocks, hml, hown, hts, hl0, hX, hbl, hK, hK2, hKL, hXE⟩ := id G
  have hts2 : ∀ w ∈ wsL_law, w.before #[Value.ref b] s = true := fun w h => hts w (wsL_law_in w h)
  have hbA : ¬ rg_A s.heap.size b := Nat.not_le.mpr hbl
  refine lv_aload_n hx hb dL_law_1768 rfl (lv_at hl 3 rfl) ?_
  refine lv_aload_n hx hb dL_law_1769 rfl (lv_at hl 4 rfl) ?_
  refine lv_iload hx hb dL_law_1770 (lv_at hl 0 rfl) ?_
  refine lv_iconst (v := 1) hx hb dL_law_1772 (by decide) ?_
  refine lv_iadd hx hb dL_law_1773 ?_
  refine va_sld (i := 0 + 1) hx hb hX hbl hbA hS (by unfold vp_in; decide) dL_law_1774 ?_
  rw [show ((0 : Int32) + 1).toNatClampNeg = 1 from by decide]
  refine lv_aload_n hx hb dL_law_1775 rfl (lv_at hl 1 rfl) ?_
  refine lw_help (As := [.ref s.heap.size, .int (xs 1), .ref (s.heap.size + 181)]) ⟨hx, hb, hml, hown, hts2⟩ (hA_many_0 l D d s.heap.size (rc_L (s.heap.size + 1)) (rc_L (s.heap.size + 68)) (lw_A1 s.heap.size) (lw_A2 s.heap.size) (lw_B s.heap.size) (s.heap.size + 181) cL (fun _ => 0) lw_wB (fun _ h => lw_AB h) (Or.inr rfl) lw_oA hl0 (xs 1) g0) (vx_cwSW 3 hts2 gL_law_L_many rfl rfl rfl (by decide +kernel) ⟨Nat.le_of_ble_eq_true rfl, Nat.le_of_ble_eq_true rfl⟩) (lw_house hg) (lw_trial hg) hK hXE lw_BB (lw_wax hg) (lw_out hg) hKL hS rfl hl.1 (Nat.le_of_ble_eq_true rfl) dL_law_1776 ⟨Nat.le_of_ble_eq_true rfl, Nat.le_of_ble_eq_true rfl⟩ rfl (fun H1 locs hO hq hz hS => ?_)
  have hsz : s.heap.size + 182 ≤ H1.size := by rw [← hz0]; exact hz
  have hP := lw_keep (lw_w_m2 hg) (lw_d_m2 (d := d) (cB := cB)) hq
  refine lv_istore (lv' := [(5, .int 1), (4, .int 0), (3, .ref (s.heap.size + 181)), (2, .ref (s.heap.size + 135)), (1, .ref s.heap.size), (0, .ref b)]) hx hb dL_law_1779 hl (by decide) rfl (fun ls hl => ?_)
  refine lv_aload_n hx hb dL_law_1781 rfl (lv_at hl 3 rfl) ?_
  refine lv_aload_n hx hb dL_law_1782 rfl (lv_at hl 5 rfl) ?_
  refine lv_iload hx hb dL_law_1783 (lv_at hl 1 rfl) ?_
  refine lv_iconst (v := 1) hx hb dL_law_1785 (by decide) ?_
  refine lv_iadd hx hb dL_law_1786 ?_
  refine va_sld (i := 0 + 1) hx hb hX hbl hbA hS (by unfold vp_in; decide) dL_law_1787 ?_
  rw [show ((0 : Int32) + 1).toNatClampNeg = 1 from by decide]
  refine lw_ref (As := [.int (xs 1)]) (V := [((s.heap.size + 135), .inr (cRm, [.int 0, .ref (s.heap.size + 135 + 1)])), ((s.heap.size + 135 + 1), .inr (cRh, [.ref (s.heap.size + 135 + 1 + 1), .ref (s.heap.size + 135 + 1 + 12), .ref (s.heap.size + 135 + 1 + 23), .ref (s.heap.size + 135 + 1 + 34), .ref (s.heap.size + 135 + 1 + 43), .ref (s.heap.size + 135 + 1 + 44), .int 0, .int 0, .int 0, .int 0, .int 0, .int 5, .int 200, .int 30]))]) (V2 := [((s.heap.size + 135), .inr (cRm, [.int 1, .ref (s.heap.size + 135 + 1)]))]) (B := lw_M s.heap.size H1.size) (q0 := 0) (ci := cRm) (r := (RX6, TX6, 2)) ⟨hx, hb, hml, hown, hts2⟩ (rX6_many_bad l D d.1 cB H1.size (s.heap.size + 135) (s.heap.size + 135 + 1) (s.heap.size + 135 + 1 + 1) (s.heap.size + 135 + 1 + 12) (s.heap.size + 135 + 1 + 23) (s.heap.size + 135 + 1 + 34) (s.heap.size + 135 + 1 + 43) (s.heap.size + 135 + 1 + 44) 0 (xs 1) (lw_M s.heap.size H1.size) (lw_lM (lw_d_m2 (d := d) (cB := cB))) (sp_in_0 g0)) (cwV 1 hts2 gL_law_X6_many rfl rfl rfl (by decide +kernel) ⟨Nat.le_of_ble_eq_true rfl, Nat.le_of_ble_eq_true rfl⟩) hK2 hP (lw_MB hsz) hS rfl rfl rfl rfl hl.1 (Nat.le_of_ble_eq_true rfl) dL_law_1788 ⟨Nat.le_of_ble_eq_true rfl, Nat.le_of_ble_eq_true rfl⟩ rfl (fun r_ H2 locs hp hM2 hq2 hz2 hS => ?_)
  subst hp
  have hO2 := rf_keep1 hO (fun _ => hq2 (s.heap.size + 181) (by omega) (lw_noM hsz))
  refine lv_istore (lv' := [(6, .int 0), (5, .int 1), (4, .int 0), (3, .ref (s.heap.size + 181)), (2, .ref (s.heap.size + 135)), (1, .ref s.heap.size), (0, .ref b)]) hx hb dL_law_1791 hl (by decide) rfl (fun ls hl => ?_)
  refine lv_aload_n hx hb dL_law_1793 rfl (lv_at hl 4 rfl) ?_
  refine rf_callR (As := []) (W0 := [((s.heap.size + 135), .inr (cRm, [.int 1, .ref (s.heap.size + 135 + 1)]))] ++ [((s.heap.size + 181), .inl (cL, 1, .inr (.inl (fun _ => 0))))]) (V := [((s.heap.size + 135), .inr (cRm, [.int 1, .ref (s.heap.size + 135 + 1)]))]) (q0 := 0) (ci := cRm) (r := (RX6, TX6, 2)) ⟨hx, hb, hml, hown, hts2⟩ (rX6_thrown l D d.1 cB H2.size (s.heap.size + 135) (s.heap.size + 135 + 1) 1) (cwV 0 hts2 gL_law_X6_thrown rfl rfl rfl (by decide +kernel) ⟨Nat.le_of_ble_eq_true rfl, Nat.le_of_ble_eq_true rfl⟩) hK2 (hM2.app hO2) hM2 hS rfl rfl rfl rfl hl.1 (Nat.le_of_ble_eq_true rfl) dL_law_1794 ⟨Nat.le_of_ble_eq_true rfl, Nat.le_of_ble_eq_true rfl⟩ rfl (fun r_ H3 locs hp hP3 hS => ?_)
  subst hp
  refine lv_iload hx hb dL_law_1797 (lv_at hl 1 rfl) ?_
  refine lv_icmp_eq (tgt := 1804) hx hb dL_law_1799 (by decide) (fun c_1799 => ?_) (fun c_1799 => ?_)
  · refine lv_iload hx hb dL_law_1804 (lv_at hl 1 rfl) ?_
    refine lv_if_ne (tgt := 1821) hx hb dL_law_1806 (by decide) (fun c_1806 => ?_) (fun c_1806 => ?_)
    · refine lv_goto (tgt := 2108) hx hb dL_law_1821 (by decide) ?_
      exact lw_tail G hS (Nat.le_of_ble_eq_true rfl) (Nat.le_of_ble_eq_true rfl) (lv_sub hl [2, 6] rfl)
    · exact absurd c_1806 (by decide)
  · exact absurd (by decide) c_1799
set_option maxHeartbeats 4000000 in
set_option maxRecDepth 100000 in
/-- the law: lw_c23_d -/
theorem lw_c23_d {p : Program} {l : Launch} {e : Env} {s : State} {m : MethodId} {below : List Frame} {meth : Method} {c : Code} {b : Nat} {D : va_G} {d : hs_Dm} {cB cL : ClassId} {xs : Nat → Int32} (G : lw_G p l s m meth c b D d cB cL xs) {n : Nat} (hn : n < 15) (e1 : xs 1 = nI n) (g1 : ¬ xs 1 < 0) (g2 : xs 1 ≤ 14) {H : Heap} {locs : List Loc} (hg : rg D (lw_X d cB cL s.heap.size) s.heap.size 182 H) (hz0 : H.size = s.heap.size + 182) (hS : va_S (rg_A s.heap.size) s.heap H locs) {ls : Array Slot} (hl : lv_has ls 9 [(4, .int 0), (3, .ref (s.heap.size + 181)), (2, .ref (s.heap.size + 135)), (1, .ref s.heap.size), (0, .ref b)]) : W p l e room_1 s m #[Value.ref b] below meth c H locs 182 1149 (lw_Z below #[Value.ref b] s) (F0 m 1768 ls []) := by
  obtain ⟨hx, hb, hr, hlocks, hml, hown, hts, hl0, hX, hbl, hK, hK2, hKL, hXE⟩ := id G
  have hts2 : ∀ w ∈ wsL_law, w.before #[Value.ref b] s = true := fun w h => hts w (wsL_law_in w h)
  have hbA : ¬ rg_A s.heap.size b := Nat.not_le.mpr hbl
  refine lv_aload_n hx hb dL_law_1768 rfl (lv_at hl 3 rfl) ?_
  refine lv_aload_n hx hb dL_law_1769 rfl (lv_at hl 4 rfl) ?_
  refine lv_iload hx hb dL_law_1770 (lv_at hl 0 rfl) ?_
  refine lv_iconst (v := 1) hx hb dL_law_1772 (by decide) ?_
  refine lv_iadd hx hb dL_law_1773 ?_
  refine va_sld (i := 0 + 1) hx hb hX hbl hbA hS (by unfold vp_in; decide) dL_law_1774 ?_
  rw [show ((0 : Int32) + 1).toNatClampNeg = 1 from by decide]
  rw [e1]
  refine lv_aload_n hx hb dL_law_1775 rfl (lv_at hl 1 rfl) ?_
  refine lw_help (As := [.ref s.heap.size, .int (nI n), .ref (s.heap.size + 181)]) ⟨hx, hb, hml, hown, hts2⟩ (hK_many l D d s.heap.size (rc_L (s.heap.size + 1)) (rc_L (s.heap.size + 68)) (lw_A1 s.heap.size) (lw_A2 s.heap.size) (lw_B s.heap.size) (s.heap.size + 181) cL (fun _ => 0) lw_wB (fun _ h => lw_AB h) (Or.inr rfl) lw_oA n hn) (vx_cwSW 3 hts2 gL_law_L_many rfl rfl rfl (by decide +kernel) ⟨Nat.le_of_ble_eq_true rfl, Nat.le_of_ble_eq_true rfl⟩) (lw_house hg) (lw_trial hg) hK hXE lw_BB (lw_wax hg) (lw_out hg) hKL hS rfl hl.1 (Nat.le_of_ble_eq_true rfl) dL_law_1776 ⟨Nat.le_of_ble_eq_true rfl, Nat.le_of_ble_eq_true rfl⟩ rfl (fun H1 locs hO hq hz hS => ?_)
  have hsz : s.heap.size + 182 ≤ H1.size := by rw [← hz0]; exact hz
  have hP := lw_keep (lw_w_m2 hg) (lw_d_m2 (d := d) (cB := cB)) hq
  refine lv_istore (lv' := [(5, .int 0), (4, .int 0), (3, .ref (s.heap.size + 181)), (2, .ref (s.heap.size + 135)), (1, .ref s.heap.size), (0, .ref b)]) hx hb dL_law_1779 hl (by decide) rfl (fun ls hl => ?_)
  refine lv_aload_n hx hb dL_law_1781 rfl (lv_at hl 3 rfl) ?_
  refine lv_aload_n hx hb dL_law_1782 rfl (lv_at hl 5 rfl) ?_
  refine lv_iload hx hb dL_law_1783 (lv_at hl 1 rfl) ?_
  refine lv_iconst (v := 1) hx hb dL_law_1785 (by decide) ?_
  refine lv_iadd hx hb dL_law_1786 ?_
  refine va_sld (i := 0 + 1) hx hb hX hbl hbA hS (by unfold vp_in; decide) dL_law_1787 ?_
  rw [show ((0 : Int32) + 1).toNatClampNeg = 1 from by decide]
  rw [e1]
  refine lw_ref (As := [.int (nI n)]) (V := [((s.heap.size + 135), .inr (cRm, [.int 0, .ref (s.heap.size + 135 + 1)])), ((s.heap.size + 135 + 1), .inr (cRh, [.ref (s.heap.size + 135 + 1 + 1), .ref (s.heap.size + 135 + 1 + 12), .ref (s.heap.size + 135 + 1 + 23), .ref (s.heap.size + 135 + 1 + 34), .ref (s.heap.size + 135 + 1 + 43), .ref (s.heap.size + 135 + 1 + 44), .int 0, .int 0, .int 0, .int 0, .int 0, .int 5, .int 200, .int 30]))]) (V2 := [((s.heap.size + 135), .inr (cRm, [.int 0, .ref (s.heap.size + 135 + 1)]))]) (B := lw_M s.heap.size H1.size) (q0 := 0) (ci := cRm) (r := (RX6, TX6, 2)) ⟨hx, hb, hml, hown, hts2⟩ (rX6_many_ok l D d.1 cB H1.size (s.heap.size + 135) (s.heap.size + 135 + 1) (s.heap.size + 135 + 1 + 1) (s.heap.size + 135 + 1 + 12) (s.heap.size + 135 + 1 + 23) (s.heap.size + 135 + 1 + 34) (s.heap.size + 135 + 1 + 43) (s.heap.size + 135 + 1 + 44) 0 n hn (lw_M s.heap.size H1.size) (fun q h => Or.inr h) (lw_lM (lw_d_m2 (d := d) (cB := cB))) (by rw [← e1]; exact sp_in_1 g1 g2)) (cwV 1 hts2 gL_law_X6_many rfl rfl rfl (by decide +kernel) ⟨Nat.le_of_ble_eq_true rfl, Nat.le_of_ble_eq_true rfl⟩) hK2 hP (lw_MB hsz) hS rfl rfl rfl rfl hl.1 (Nat.le_of_ble_eq_true rfl) dL_law_1788 ⟨Nat.le_of_ble_eq_true rfl, Nat.le_of_ble_eq_true rfl⟩ rfl (fun r_ H2 locs hp hM2 hq2 hz2 hS => ?_)
  subst hp
  have hO2 := rf_keep1 hO (fun _ => hq2 (s.heap.size + 181) (by omega) (lw_noM hsz))
  refine lv_istore (lv' := [(6, .int (rf_all n)), (5, .int 0), (4, .int 0), (3, .ref (s.heap.size + 181)), (2, .ref (s.heap.size + 135)), (1, .ref s.heap.size), (0, .ref b)]) hx hb dL_law_1791 hl (by decide) rfl (fun ls hl => ?_)
  refine lv_aload_n hx hb dL_law_1793 rfl (lv_at hl 4 rfl) ?_
  refine rf_callR (As := []) (W0 := [((s.heap.size + 135), .inr (cRm, [.int 0, .ref (s.heap.size + 135 + 1)]))] ++ [((s.heap.size + 181), .inl (cL, 1, .inr (.inl (vp_updL (fun _ => 0) (0 : Int32).toNatClampNeg (sp_many rc_s 0 0 n).toInt64))))]) (V := [((s.heap.size + 135), .inr (cRm, [.int 0, .ref (s.heap.size + 135 + 1)]))]) (q0 := 0) (ci := cRm) (r := (RX6, TX6, 2)) ⟨hx, hb, hml, hown, hts2⟩ (rX6_thrown l D d.1 cB H2.size (s.heap.size + 135) (s.heap.size + 135 + 1) 0) (cwV 0 hts2 gL_law_X6_thrown rfl rfl rfl (by decide +kernel) ⟨Nat.le_of_ble_eq_true rfl, Nat.le_of_ble_eq_true rfl⟩) hK2 (hM2.app hO2) hM2 hS rfl rfl rfl rfl hl.1 (Nat.le_of_ble_eq_true rfl) dL_law_1794 ⟨Nat.le_of_ble_eq_true rfl, Nat.le_of_ble_eq_true rfl⟩ rfl (fun r_ H3 locs hp hP3 hS => ?_)
  subst hp
  refine lv_iload hx hb dL_law_1797 (lv_at hl 1 rfl) ?_
  refine lv_icmp_eq (tgt := 1804) hx hb dL_law_1799 (by decide) (fun c_1799 => ?_) (fun c_1799 => ?_)
  · refine lv_iload hx hb dL_law_1804 (lv_at hl 1 rfl) ?_
    refine lv_if_ne (tgt := 1821) hx hb dL_law_1806 (by decide) (fun c_1806 => ?_) (fun c_1806 => ?_)
    · exact absurd (by decide) c_1806
    · refine lv_aload_n hx hb dL_law_1809 rfl (lv_at hl 3 rfl) ?_
      refine lv_iconst (v := 0) hx hb dL_law_1810 (by decide) ?_
      refine va_lald hx hb hKL (hP3.sub (ws' := [((s.heap.size + 181), .inl (cL, 1, .inr (.inl (vp_updL (fun _ => 0) (0 : Int32).toNatClampNeg (sp_many rc_s 0 0 n).toInt64))))]) [1] rfl) 0 0 rfl rfl (by unfold vp_in; decide) dL_law_1811 ?_
      rw [vp_updL_self]
      refine lv_iload hx hb dL_law_1812 (lv_at hl 0 rfl) ?_
      refine lv_i2l hx hb dL_law_1814 rfl ?_
      refine W.lcmp hx hb dL_law_1815 ?_
      rw [show (sp_many rc_s 0 0 n) = (rf_all n : Int32) from rf_many_eq n hn, lg_cmp_self]
      refine lv_if_eq (tgt := 1821) hx hb dL_law_1816 (by decide) (fun c_1816 => ?_) (fun c_1816 => ?_)
      · refine lv_goto (tgt := 2108) hx hb dL_law_1821 (by decide) ?_
        exact lw_tail G hS (Nat.le_of_ble_eq_true rfl) (Nat.le_of_ble_eq_true rfl) (lv_sub hl [2, 6] rfl)
      · exact absurd (by decide) c_1816
  · exact absurd (by decide) c_1799
set_option maxHeartbeats 4000000 in
set_option maxRecDepth 100000 in
/-- the law: lw_c24 -/
theorem lw_c24 {p : Program} {l : Launch} {e : Env} {s : State} {m : MethodId} {below : List Frame} {meth : Method} {c : Code} {b : Nat} {D : va_G} {d : hs_Dm} {cB cL : ClassId} {xs : Nat → Int32} (G : lw_G p l s m meth c b D d cB cL xs)  {H : Heap} {locs : List Loc} (hg : rg D (lw_X d cB cL s.heap.size) s.heap.size 182 H) (hz0 : H.size = s.heap.size + 182) (hS : va_S (rg_A s.heap.size) s.heap H locs) {ls : Array Slot} (hl : lv_has ls 9 [(4, .int 0), (3, .ref (s.heap.size + 181)), (2, .ref (s.heap.size + 135)), (1, .ref s.heap.size), (0, .ref b)]) : W p l e room_1 s m #[Value.ref b] below meth c H locs 182 1149 (lw_Z below #[Value.ref b] s) (F0 m 1824 ls []) := by
  obtain ⟨hx, hb, hr, hlocks, hml, hown, hts, hl0, hX, hbl, hK, hK2, hKL, hXE⟩ := id G
  have hts2 : ∀ w ∈ wsL_law, w.before #[Value.ref b] s = true := fun w h => hts w (wsL_law_in w h)
  have hbA : ¬ rg_A s.heap.size b := Nat.not_le.mpr hbl
  refine lv_aload_n hx hb dL_law_1824 rfl (lv_at hl 3 rfl) ?_
  refine lw_clsd (As := []) ⟨hx, hb, hml, hown, hts2⟩ (kX4_meanLikeness_0 l D d (rc_L (s.heap.size + 1)) rc_s (lw_A1 s.heap.size) s.heap.size (rc_L (s.heap.size + 68)) (fun z => lw_wB (lw_AB z)) 0 0 0 rc_s_ok rfl) (cwV 0 hts2 gL_law_X4_meanLikeness rfl rfl rfl (by decide +kernel) ⟨Nat.le_of_ble_eq_true rfl, Nat.le_of_ble_eq_true rfl⟩) hK hXE (lw_house hg) (fun q z => lw_BB q (lw_AB z)) (lw_wax hg) (va_P1 (lw_wax hg)) hS rfl hl.1 (Nat.le_of_ble_eq_true rfl) dL_law_1825 ⟨Nat.le_of_ble_eq_true rfl, Nat.le_of_ble_eq_true rfl⟩ rfl (fun r_ τ_ H1 locs hp hq hz hS => ?_)
  obtain ⟨rfl, -⟩ := hp
  have hsz : s.heap.size + 182 ≤ H1.size := by rw [← hz0]; exact hz
  have hP := lw_keep (lw_w_m2 hg) (lw_d_m2 (d := d) (cB := cB)) (fun q h1 h2 => hq q h1 (fun z => h2 (lw_AB z)))
  refine lv_dstore (lv' := [(5, .double FP.dconst0), (4, .int 0), (3, .ref (s.heap.size + 181)), (2, .ref (s.heap.size + 135)), (1, .ref s.heap.size), (0, .ref b)]) hx hb dL_law_1828 hl (by decide) rfl (fun ls hl => ?_)
  refine lv_aload_n hx hb dL_law_1830 rfl (lv_at hl 3 rfl) ?_
  refine lw_refd (As := []) (V := [((s.heap.size + 135), .inr (cRm, [.int 0, .ref (s.heap.size + 135 + 1)])), ((s.heap.size + 135 + 1), .inr (cRh, [.ref (s.heap.size + 135 + 1 + 1), .ref (s.heap.size + 135 + 1 + 12), .ref (s.heap.size + 135 + 1 + 23), .ref (s.heap.size + 135 + 1 + 34), .ref (s.heap.size + 135 + 1 + 43), .ref (s.heap.size + 135 + 1 + 44), .int 0, .int 0, .int 0, .int 0, .int 0, .int 5, .int 200, .int 30]))]) (V2 := [((s.heap.size + 135), .inr (cRm, [.int 0, .ref (s.heap.size + 135 + 1)]))]) (B := lw_M s.heap.size H1.size) (q0 := 0) (ci := cRm) (r := (RX6, TX6, 2)) ⟨hx, hb, hml, hown, hts2⟩ (rX6_meanLikeness l D d.1 cB H1.size (s.heap.size + 135) (s.heap.size + 135 + 1) (s.heap.size + 135 + 1 + 1) (s.heap.size + 135 + 1 + 12) (s.heap.size + 135 + 1 + 23) (s.heap.size + 135 + 1 + 34) (s.heap.size + 135 + 1 + 43) (s.heap.size + 135 + 1 + 44) 0 (lw_M s.heap.size H1.size) (lw_lM (lw_d_m2 (d := d) (cB := cB)))) (cwV 0 hts2 gL_law_X6_meanLikeness rfl rfl rfl (by decide +kernel) ⟨Nat.le_of_ble_eq_true rfl, Nat.le_of_ble_eq_true rfl⟩) hK2 hP (lw_MB hsz) hS rfl rfl rfl rfl hl.1 (Nat.le_of_ble_eq_true rfl) dL_law_1831 ⟨Nat.le_of_ble_eq_true rfl, Nat.le_of_ble_eq_true rfl⟩ rfl (fun r_ H2 locs hp hS => ?_)
  subst hp
  refine lv_dstore (lv' := [(7, .double FP.dconst0), (5, .double FP.dconst0), (4, .int 0), (3, .ref (s.heap.size + 181)), (2, .ref (s.heap.size + 135)), (1, .ref s.heap.size), (0, .ref b)]) hx hb dL_law_1834 hl (by decide) rfl (fun ls hl => ?_)
  refine lv_dload hx hb dL_law_1836 (lv_at hl 1 rfl) ?_
  refine lv_dload hx hb dL_law_1838 (lv_at hl 0 rfl) ?_
  refine lv_dcmp hx hb dL_law_1840 ?_
  rw [show Op.cmpValue (FP.dcmp FP.dconst0 FP.dconst0) CmpOp.l = 0 from by decide +kernel]
  refine lv_if_eq (tgt := 1862) hx hb dL_law_1841 (by decide) (fun c_1841 => ?_) (fun c_1841 => ?_)
  · refine lv_goto (tgt := 2108) hx hb dL_law_1862 (by decide) ?_
    exact lw_tail G hS (Nat.le_of_ble_eq_true rfl) (Nat.le_of_ble_eq_true rfl) (lv_sub hl [2, 6] rfl)
  · exact absurd (by decide) c_1841
set_option maxHeartbeats 4000000 in
set_option maxRecDepth 100000 in
/-- the law: lw_c28 -/
theorem lw_c28 {p : Program} {l : Launch} {e : Env} {s : State} {m : MethodId} {below : List Frame} {meth : Method} {c : Code} {b : Nat} {D : va_G} {d : hs_Dm} {cB cL : ClassId} {xs : Nat → Int32} (G : lw_G p l s m meth c b D d cB cL xs)  {H : Heap} {locs : List Loc} (hg : rg D (lw_X d cB cL s.heap.size) s.heap.size 182 H) (hz0 : H.size = s.heap.size + 182) (hS : va_S (rg_A s.heap.size) s.heap H locs) {ls : Array Slot} (hl : lv_has ls 9 [(4, .int 0), (3, .ref (s.heap.size + 181)), (2, .ref (s.heap.size + 135)), (1, .ref s.heap.size), (0, .ref b)]) : W p l e room_1 s m #[Value.ref b] below meth c H locs 182 1149 (lw_Z below #[Value.ref b] s) (F0 m 2081 ls []) := by
  obtain ⟨hx, hb, hr, hlocks, hml, hown, hts, hl0, hX, hbl, hK, hK2, hKL, hXE⟩ := id G
  have hts2 : ∀ w ∈ wsL_law, w.before #[Value.ref b] s = true := fun w h => hts w (wsL_law_in w h)
  have hbA : ¬ rg_A s.heap.size b := Nat.not_le.mpr hbl
  refine lv_aload_n hx hb dL_law_2081 rfl (lv_at hl 3 rfl) ?_
  refine lw_clsi (As := []) ⟨hx, hb, hml, hown, hts2⟩ (kX4_bestNext l D d (rc_L (s.heap.size + 1)) rc_s (lw_A1 s.heap.size) s.heap.size (rc_L (s.heap.size + 68)) (fun z => lw_wB (lw_AB z)) 0 0 0 rc_s_ok) (cwV 0 hts2 gL_law_X4_bestNext rfl rfl rfl (by decide +kernel) ⟨Nat.le_of_ble_eq_true rfl, Nat.le_of_ble_eq_true rfl⟩) hK hXE (lw_house hg) (fun q z => lw_BB q (lw_AB z)) (lw_wax hg) (va_P1 (lw_wax hg)) hS rfl hl.1 (Nat.le_of_ble_eq_true rfl) dL_law_2082 ⟨Nat.le_of_ble_eq_true rfl, Nat.le_of_ble_eq_true rfl⟩ rfl (fun r_ τ_ H1 locs hp hq hz hS => ?_)
  obtain ⟨rfl, -⟩ := hp
  have hsz : s.heap.size + 182 ≤ H1.size := by rw [← hz0]; exact hz
  have hP := lw_keep (lw_w_m2 hg) (lw_d_m2 (d := d) (cB := cB)) (fun q h1 h2 => hq q h1 (fun z => h2 (lw_AB z)))
  rw [show (sp_best rc_s 0 0).1 = -1 from rfl]
  refine lv_aload_n hx hb dL_law_2085 rfl (lv_at hl 2 rfl) ?_
  refine lw_ref (As := []) (V := [((s.heap.size + 135), .inr (cRm, [.int 0, .ref (s.heap.size + 135 + 1)])), ((s.heap.size + 135 + 1), .inr (cRh, [.ref (s.heap.size + 135 + 1 + 1), .ref (s.heap.size + 135 + 1 + 12), .ref (s.heap.size + 135 + 1 + 23), .ref (s.heap.size + 135 + 1 + 34), .ref (s.heap.size + 135 + 1 + 43), .ref (s.heap.size + 135 + 1 + 44), .int 0, .int 0, .int 0, .int 0, .int 0, .int 5, .int 200, .int 30]))]) (V2 := [((s.heap.size + 135), .inr (cRm, [.int 0, .ref (s.heap.size + 135 + 1)]))]) (B := lw_M s.heap.size H1.size) (q0 := 0) (ci := cRm) (r := (RX6, TX6, 2)) ⟨hx, hb, hml, hown, hts2⟩ (rX6_bestNext l D d.1 cB H1.size (s.heap.size + 135) (s.heap.size + 135 + 1) (s.heap.size + 135 + 1 + 1) (s.heap.size + 135 + 1 + 12) (s.heap.size + 135 + 1 + 23) (s.heap.size + 135 + 1 + 34) (s.heap.size + 135 + 1 + 43) (s.heap.size + 135 + 1 + 44) 0 (lw_M s.heap.size H1.size) (lw_lM (lw_d_m2 (d := d) (cB := cB)))) (cwV 0 hts2 gL_law_X6_bestNext rfl rfl rfl (by decide +kernel) ⟨Nat.le_of_ble_eq_true rfl, Nat.le_of_ble_eq_true rfl⟩) hK2 hP (lw_MB hsz) hS rfl rfl rfl rfl hl.1 (Nat.le_of_ble_eq_true rfl) dL_law_2086 ⟨Nat.le_of_ble_eq_true rfl, Nat.le_of_ble_eq_true rfl⟩ rfl (fun r_ H2 locs hp hM2 hq2 hz2 hS => ?_)
  subst hp
  refine lv_icmp_eq (tgt := 2108) hx hb dL_law_2089 (by decide) (fun c_2089 => ?_) (fun c_2089 => ?_)
  · exact lw_tail G hS (Nat.le_of_ble_eq_true rfl) (Nat.le_of_ble_eq_true rfl) (lv_sub hl [0, 4] rfl)
  · exact absurd (by decide) c_2089
set_option maxHeartbeats 4000000 in
set_option maxRecDepth 100000 in
/-- the law: lw_c29 -/
theorem lw_c29 {p : Program} {l : Launch} {e : Env} {s : State} {m : MethodId} {below : List Frame} {meth : Method} {c : Code} {b : Nat} {D : va_G} {d : hs_Dm} {cB cL : ClassId} {xs : Nat → Int32} (G : lw_G p l s m meth c b D d cB cL xs)  {H : Heap} {locs : List Loc} (hg : rg D (lw_X d cB cL s.heap.size) s.heap.size 182 H) (hz0 : H.size = s.heap.size + 182) (hS : va_S (rg_A s.heap.size) s.heap H locs) {ls : Array Slot} (hl : lv_has ls 9 [(4, .int 0), (3, .ref (s.heap.size + 181)), (2, .ref (s.heap.size + 135)), (1, .ref s.heap.size), (0, .ref b)]) : W p l e room_1 s m #[Value.ref b] below meth c H locs 182 1149 (lw_Z below #[Value.ref b] s) (F0 m 2094 ls []) := by
  obtain ⟨hx, hb, hr, hlocks, hml, hown, hts, hl0, hX, hbl, hK, hK2, hKL, hXE⟩ := id G
  have hts2 : ∀ w ∈ wsL_law, w.before #[Value.ref b] s = true := fun w h => hts w (wsL_law_in w h)
  have hbA : ¬ rg_A s.heap.size b := Nat.not_le.mpr hbl
  refine lv_aload_n hx hb dL_law_2094 rfl (lv_at hl 3 rfl) ?_
  refine lw_clsl (As := []) ⟨hx, hb, hml, hown, hts2⟩ (kX4_digest l D d (rc_L (s.heap.size + 1)) rc_s (lw_A1 s.heap.size) s.heap.size (rc_L (s.heap.size + 68)) (lw_A2 s.heap.size) lw_dis (fun z => lw_wB (lw_TB z)) 0 0 0 rc_s_ok rc_s ⟨0, 0, 0, rc_s_ok, Nat.le_refl _⟩ (fun f hf => absurd hf (Nat.not_lt_zero _)) (fun q _ => Or.inl rfl)) (cwV 0 hts2 gL_law_X4_digest rfl rfl rfl (by decide +kernel) ⟨Nat.le_of_ble_eq_true rfl, Nat.le_of_ble_eq_true rfl⟩) hK hXE (lw_house hg) (lw_trial hg) (fun q z => lw_BB q (lw_TB z)) (lw_wax hg) (va_P1 (lw_wax hg)) hS rfl hl.1 (Nat.le_of_ble_eq_true rfl) dL_law_2095 ⟨Nat.le_of_ble_eq_true rfl, Nat.le_of_ble_eq_true rfl⟩ rfl (fun r_ τ_ H1 locs hp hq hz hS => ?_)
  obtain ⟨rfl, -⟩ := hp
  have hsz : s.heap.size + 182 ≤ H1.size := by rw [← hz0]; exact hz
  have hP := lw_keep (lw_w_m2 hg) (lw_d_m2 (d := d) (cB := cB)) (fun q h1 h2 => hq q h1 (fun z => h2 (lw_TB z)))
  refine lv_aload_n hx hb dL_law_2098 rfl (lv_at hl 2 rfl) ?_
  refine lw_refl (As := []) (V := [((s.heap.size + 135), .inr (cRm, [.int 0, .ref (s.heap.size + 135 + 1)])), ((s.heap.size + 135 + 1), .inr (cRh, [.ref (s.heap.size + 135 + 1 + 1), .ref (s.heap.size + 135 + 1 + 12), .ref (s.heap.size + 135 + 1 + 23), .ref (s.heap.size + 135 + 1 + 34), .ref (s.heap.size + 135 + 1 + 43), .ref (s.heap.size + 135 + 1 + 44), .int 0, .int 0, .int 0, .int 0, .int 0, .int 5, .int 200, .int 30]))]) (V2 := [((s.heap.size + 135), .inr (cRm, [.int 0, .ref (s.heap.size + 135 + 1)]))]) (B := lw_M s.heap.size H1.size) (q0 := 0) (ci := cRm) (r := (RX6, TX6, 2)) ⟨hx, hb, hml, hown, hts2⟩ (rX6_digest l D d.1 cB H1.size (s.heap.size + 135) (s.heap.size + 135 + 1) (s.heap.size + 135 + 1 + 1) (s.heap.size + 135 + 1 + 12) (s.heap.size + 135 + 1 + 23) (s.heap.size + 135 + 1 + 34) (s.heap.size + 135 + 1 + 43) (s.heap.size + 135 + 1 + 44) 0 (lw_M s.heap.size H1.size) (fun q h => Or.inr h) (lw_lM (lw_d_m2 (d := d) (cB := cB)))) (cwV 0 hts2 gL_law_X6_digest rfl rfl rfl (by decide +kernel) ⟨Nat.le_of_ble_eq_true rfl, Nat.le_of_ble_eq_true rfl⟩) hK2 hP (lw_MB hsz) hS rfl rfl rfl rfl hl.1 (Nat.le_of_ble_eq_true rfl) dL_law_2099 ⟨Nat.le_of_ble_eq_true rfl, Nat.le_of_ble_eq_true rfl⟩ rfl (fun r_ H2 locs hp hS => ?_)
  subst hp
  refine W.lcmp hx hb dL_law_2102 ?_
  rw [rf_dig_eq, lg_cmp_self]
  refine lv_if_eq (tgt := 2108) hx hb dL_law_2103 (by decide) (fun c_2103 => ?_) (fun c_2103 => ?_)
  · exact lw_tail G hS (Nat.le_of_ble_eq_true rfl) (Nat.le_of_ble_eq_true rfl) (lv_sub hl [0, 4] rfl)
  · exact absurd (by decide) c_2103
theorem lw_and_bv (x : BitVec 32) : (x &&& 31#32).toNat < 32 := by
  rw [BitVec.toNat_and]
  exact Nat.lt_succ_of_le Nat.and_le_right
theorem lw_and_ti (x : Int32) : (x &&& 31).toInt = ((x.toBitVec &&& 31#32).toNat : Int) := by
  have h := lw_and_bv x.toBitVec
  show (x &&& 31).toBitVec.toInt = _
  rw [Int32.toBitVec_and]
  show (x.toBitVec &&& 31#32).toInt = _
  rw [BitVec.toInt_eq_toNat_of_lt (by omega)]
theorem lw_and_lt (x : Int32) : (x &&& 31).toInt < 32 := by
  rw [lw_and_ti]
  have h := lw_and_bv x.toBitVec
  omega
theorem lw_and_nn (x : Int32) : 0 ≤ (x &&& 31).toInt := by
  rw [lw_and_ti]
  omega
theorem lw_days {x : Int32} (h1 : ¬ x < 1) (h2 : x ≤ 40) : ∃ N : Nat, 1 ≤ N ∧ N ≤ 40 ∧ x = nI N := by
  obtain ⟨N, hN, e⟩ := nI_of2 (M := 40) (n := 40) (by decide) (fun z => h1 (by rw [Int32.lt_iff_toInt_lt] at z ⊢; rw [show (0 : Int32).toInt = 0 from by decide] at z; rw [show (1 : Int32).toInt = 1 from by decide]; omega)) h2
  refine ⟨N, ?_, hN, e⟩
  rcases Nat.eq_zero_or_pos N with z | z
  · subst z
    rw [e] at h1
    exact absurd (by decide) h1
  · exact z
theorem lw_and (x : Int32) : ∃ n : Nat, n < 32 ∧ x &&& 31 = nI n := by
  obtain ⟨n, hn, e⟩ := nI_of2 (x := x &&& 31) (M := 31) (n := 31) (by decide) (fun z => by
    rw [Int32.lt_iff_toInt_lt, show (0 : Int32).toInt = 0 from by decide] at z
    have h := lw_and_nn x
    omega) (by
    rw [Int32.le_iff_toInt_le, show (31 : Int32).toInt = 31 from by decide]
    have h := lw_and_lt x
    omega)
  exact ⟨n, by omega, e⟩
set_option maxHeartbeats 4000000 in
set_option maxRecDepth 100000 in
/-- the law: which call -/
theorem lw_disp {p : Program} {l : Launch} {e : Env} {s : State} {m : MethodId} {below : List Frame} {meth : Method} {c : Code} {b : Nat} {D : va_G} {d : hs_Dm} {cB cL : ClassId} {xs : Nat → Int32} (G : lw_G p l s m meth c b D d cB cL xs) {H : Heap} {locs : List Loc} (hg : rg D (lw_X d cB cL s.heap.size) s.heap.size 182 H) (hz0 : H.size = s.heap.size + 182) (hS : va_S (rg_A s.heap.size) s.heap H locs) {ls : Array Slot} (hl : lv_has ls 9 [(4, .int 0), (3, .ref (s.heap.size + 181)), (2, .ref (s.heap.size + 135)), (1, .ref s.heap.size), (0, .ref b)]) : ∀ n : Nat, n < 32 → W p l e room_1 s m #[Value.ref b] below meth c H locs 182 1149 (lw_Z below #[Value.ref b] s) (F0 m 39 ls [.int (nI n)]) := by
  obtain ⟨hx, hb, hr, hlocks, hml, hown, hts, hl0, hX, hbl, hK, hK2, hKL, hXE⟩ := id G
  intro n hn
  match n, hn with
  | 0, _ =>
    refine lv_tableIn (off := 133) (tgt := 172) hx hb dL_law_39 (by decide +kernel) (by decide +kernel) (by decide +kernel) (by decide) ?_
    by_cases g1 : xs 1 < 0
    · exact lw_c0_a G (Or.inl g1) hg hz0 hS hl
    by_cases g2 : xs 1 ≤ 999
    rotate_left
    · exact lw_c0_a G (Or.inr g2) hg hz0 hS hl
    by_cases g3 : xs 2 < 0
    · exact lw_c0_b G g1 g2 (Or.inl g3) hg hz0 hS hl
    by_cases g4 : xs 2 ≤ 999
    rotate_left
    · exact lw_c0_b G g1 g2 (Or.inr g4) hg hz0 hS hl
    by_cases g5 : xs 3 < 0
    · exact lw_c0_c G g1 g2 g3 g4 (Or.inl g5) hg hz0 hS hl
    by_cases g6 : xs 3 ≤ 999
    rotate_left
    · exact lw_c0_c G g1 g2 g3 g4 (Or.inr g6) hg hz0 hS hl
    exact lw_c0_d G g1 g2 g3 g4 g5 g6 hg hz0 hS hl
  | 1, _ =>
    refine lv_tableIn (off := 213) (tgt := 252) hx hb dL_law_39 (by decide +kernel) (by decide +kernel) (by decide +kernel) (by decide) ?_
    exact lw_c1 G hg hz0 hS hl
  | 2, _ =>
    refine lv_tableIn (off := 293) (tgt := 332) hx hb dL_law_39 (by decide +kernel) (by decide +kernel) (by decide +kernel) (by decide) ?_
    exact lw_c2 G hg hz0 hS hl
  | 3, _ =>
    refine lv_tableIn (off := 361) (tgt := 400) hx hb dL_law_39 (by decide +kernel) (by decide +kernel) (by decide +kernel) (by decide) ?_
    exact lw_c3 G hg hz0 hS hl
  | 4, _ =>
    refine lv_tableIn (off := 445) (tgt := 484) hx hb dL_law_39 (by decide +kernel) (by decide +kernel) (by decide +kernel) (by decide) ?_
    exact lw_c4 G hg hz0 hS hl
  | 5, _ =>
    refine lv_tableIn (off := 537) (tgt := 576) hx hb dL_law_39 (by decide +kernel) (by decide +kernel) (by decide +kernel) (by decide) ?_
    exact lw_c5 G hg hz0 hS hl
  | 6, _ =>
    refine lv_tableIn (off := 593) (tgt := 632) hx hb dL_law_39 (by decide +kernel) (by decide +kernel) (by decide +kernel) (by decide) ?_
    exact lw_c6 G hg hz0 hS hl
  | 7, _ =>
    refine lv_tableIn (off := 649) (tgt := 688) hx hb dL_law_39 (by decide +kernel) (by decide +kernel) (by decide +kernel) (by decide) ?_
    exact lw_c7 G hg hz0 hS hl
  | 8, _ =>
    refine lv_tableIn (off := 717) (tgt := 756) hx hb dL_law_39 (by decide +kernel) (by decide +kernel) (by decide +kernel) (by decide) ?_
    exact lw_c8 G hg hz0 hS hl
  | 9, _ =>
    refine lv_tableIn (off := 785) (tgt := 824) hx hb dL_law_39 (by decide +kernel) (by decide +kernel) (by decide +kernel) (by decide) ?_
    exact lw_c9 G hg hz0 hS hl
  | 10, _ =>
    refine lv_tableIn (off := 841) (tgt := 880) hx hb dL_law_39 (by decide +kernel) (by decide +kernel) (by decide +kernel) (by decide) ?_
    exact lw_c10 G hg hz0 hS hl
  | 11, _ =>
    refine lv_tableIn (off := 897) (tgt := 936) hx hb dL_law_39 (by decide +kernel) (by decide +kernel) (by decide +kernel) (by decide) ?_
    exact lw_c11 G hg hz0 hS hl
  | 12, _ =>
    refine lv_tableIn (off := 977) (tgt := 1016) hx hb dL_law_39 (by decide +kernel) (by decide +kernel) (by decide +kernel) (by decide) ?_
    by_cases g1 : xs 1 < 0
    · exact lw_c12_a G (Or.inl g1) hg hz0 hS hl
    by_cases g2 : xs 1 ≤ 9
    rotate_left
    · exact lw_c12_a G (Or.inr g2) hg hz0 hS hl
    by_cases g3 : xs 2 < 1
    · exact lw_c12_b G g1 g2 (Or.inl g3) hg hz0 hS hl
    by_cases g4 : xs 2 ≤ 4
    rotate_left
    · exact lw_c12_b G g1 g2 (Or.inr g4) hg hz0 hS hl
    exact lw_c12_d G g1 g2 g3 g4 hg hz0 hS hl
  | 13, _ =>
    refine lv_tableIn (off := 1045) (tgt := 1084) hx hb dL_law_39 (by decide +kernel) (by decide +kernel) (by decide +kernel) (by decide) ?_
    exact lw_c13 G hg hz0 hS hl
  | 14, _ =>
    refine lv_tableIn (off := 1113) (tgt := 1152) hx hb dL_law_39 (by decide +kernel) (by decide +kernel) (by decide +kernel) (by decide) ?_
    exact lw_c14 G hg hz0 hS hl
  | 15, _ =>
    refine lv_tableIn (off := 1181) (tgt := 1220) hx hb dL_law_39 (by decide +kernel) (by decide +kernel) (by decide +kernel) (by decide) ?_
    exact lw_c15 G hg hz0 hS hl
  | 16, _ =>
    refine lv_tableIn (off := 1237) (tgt := 1276) hx hb dL_law_39 (by decide +kernel) (by decide +kernel) (by decide +kernel) (by decide) ?_
    exact lw_c16 G hg hz0 hS hl
  | 17, _ =>
    refine lv_tableIn (off := 1293) (tgt := 1332) hx hb dL_law_39 (by decide +kernel) (by decide +kernel) (by decide +kernel) (by decide) ?_
    by_cases g1 : xs 1 < 0
    · exact lw_c17_a G (Or.inl g1) hg hz0 hS hl
    by_cases g2 : xs 1 ≤ 20
    · exact lw_c17_d G g1 g2 hg hz0 hS hl
    · exact lw_c17_a G (Or.inr g2) hg hz0 hS hl
  | 18, _ =>
    refine lv_tableIn (off := 1349) (tgt := 1388) hx hb dL_law_39 (by decide +kernel) (by decide +kernel) (by decide +kernel) (by decide) ?_
    by_cases g1 : xs 1 < 1
    · exact lw_c18_a G (Or.inl g1) hg hz0 hS hl
    by_cases g2 : xs 1 ≤ 40
    rotate_left
    · exact lw_c18_a G (Or.inr g2) hg hz0 hS hl
    by_cases g3 : xs 2 < 0
    · exact lw_c18_b G g1 g2 (Or.inl g3) hg hz0 hS hl
    by_cases g4 : xs 2 ≤ 2000
    rotate_left
    · exact lw_c18_b G g1 g2 (Or.inr g4) hg hz0 hS hl
    by_cases g5 : xs 3 < 0
    · exact lw_c18_c G g1 g2 g3 g4 (Or.inl g5) hg hz0 hS hl
    by_cases g6 : xs 3 ≤ 40
    rotate_left
    · exact lw_c18_c G g1 g2 g3 g4 (Or.inr g6) hg hz0 hS hl
    obtain ⟨N, hN1, hN, e1⟩ := lw_days g1 g2
    exact lw_c18_d G hN1 hN e1 g1 g2 g3 g4 g5 g6 hg hz0 hS hl
  | 19, _ =>
    refine lv_tableIn (off := 1429) (tgt := 1468) hx hb dL_law_39 (by decide +kernel) (by decide +kernel) (by decide +kernel) (by decide) ?_
    exact lw_c19 G hg hz0 hS hl
  | 20, _ =>
    refine lv_tableIn (off := 1497) (tgt := 1536) hx hb dL_law_39 (by decide +kernel) (by decide +kernel) (by decide +kernel) (by decide) ?_
    exact lw_c20 G hg hz0 hS hl
  | 21, _ =>
    refine lv_tableIn (off := 1593) (tgt := 1632) hx hb dL_law_39 (by decide +kernel) (by decide +kernel) (by decide +kernel) (by decide) ?_
    exact lw_c21 G hg hz0 hS hl
  | 22, _ =>
    refine lv_tableIn (off := 1661) (tgt := 1700) hx hb dL_law_39 (by decide +kernel) (by decide +kernel) (by decide +kernel) (by decide) ?_
    exact lw_c22 G hg hz0 hS hl
  | 23, _ =>
    refine lv_tableIn (off := 1729) (tgt := 1768) hx hb dL_law_39 (by decide +kernel) (by decide +kernel) (by decide +kernel) (by decide) ?_
    by_cases g1 : xs 1 < 0
    · exact lw_c23_a G (Or.inl g1) hg hz0 hS hl
    by_cases g2 : xs 1 ≤ 14
    · obtain ⟨n, hn, e1⟩ := nI_of2 (M := 14) (n := 14) (by decide) g1 g2
      exact lw_c23_d G (show n < 15 by omega) e1 g1 g2 hg hz0 hS hl
    · exact lw_c23_a G (Or.inr g2) hg hz0 hS hl
  | 24, _ =>
    refine lv_tableIn (off := 1785) (tgt := 1824) hx hb dL_law_39 (by decide +kernel) (by decide +kernel) (by decide +kernel) (by decide) ?_
    exact lw_c24 G hg hz0 hS hl
  | 25, _ =>
    refine lv_tableIn (off := 1826) (tgt := 1865) hx hb dL_law_39 (by decide +kernel) (by decide +kernel) (by decide +kernel) (by decide) ?_
    exact lw_c25 G hg hz0 hS hl
  | 26, _ =>
    refine lv_tableIn (off := 1906) (tgt := 1945) hx hb dL_law_39 (by decide +kernel) (by decide +kernel) (by decide +kernel) (by decide) ?_
    exact lw_c26 G hg hz0 hS hl
  | 27, _ =>
    refine lv_tableIn (off := 1962) (tgt := 2001) hx hb dL_law_39 (by decide +kernel) (by decide +kernel) (by decide +kernel) (by decide) ?_
    exact lw_c27 G hg hz0 hS hl
  | 28, _ =>
    refine lv_tableIn (off := 2042) (tgt := 2081) hx hb dL_law_39 (by decide +kernel) (by decide +kernel) (by decide +kernel) (by decide) ?_
    exact lw_c28 G hg hz0 hS hl
  | 29, _ =>
    refine lv_tableIn (off := 2055) (tgt := 2094) hx hb dL_law_39 (by decide +kernel) (by decide +kernel) (by decide +kernel) (by decide) ?_
    exact lw_c29 G hg hz0 hS hl
  | 30, _ =>
    refine lv_tableOut (tgt := 2108) hx hb dL_law_39 (by decide +kernel) (by decide) ?_
    exact lw_tail G hS (Nat.le_of_ble_eq_true rfl) (Nat.le_of_ble_eq_true rfl) (lv_sub hl [0, 4] rfl)
  | 31, _ =>
    refine lv_tableOut (tgt := 2108) hx hb dL_law_39 (by decide +kernel) (by decide) ?_
    exact lw_tail G hS (Nat.le_of_ble_eq_true rfl) (Nat.le_of_ble_eq_true rfl) (lv_sub hl [0, 4] rfl)
  | n + 32, h => exact absurd h (by omega)
set_option maxHeartbeats 8000000 in
set_option maxRecDepth 100000 in
/-- THE LAW, from its entry -/
theorem whole_start {p : Program} {e : Env} {s : State} {m : MethodId} {below : List Frame} {meth : Method} {c : Code} (l : Launch) (hflags : l.flags = flags0) {b L : Nat} {xs : Nat → Int32} (hL : L ≤ 5) (C0 : lw_At p s m meth c b L xs) : W p l e room_1 s m #[Value.ref b] below meth c s.heap [] 0 0 (lw_Z below #[Value.ref b] s) (entryFrame m ([Value.ref b] : List Value).toArray 9) := by
  obtain ⟨hx, hb, hr, hml, hown, hts, hX, hbl, hlocks, hgv⟩ := id C0
  have hb : c.code = cL_law := hb
  have hown : s.vm.findClass RL = some m.cls := hown
  have hbA : ¬ rg_A s.heap.size b := Nat.not_le.mpr hbl
  have hts2 : ∀ w ∈ wsL_law, w.before #[Value.ref b] s = true := fun w h => hts w (wsL_law_in w h)
  have hl0 : l.stackTraces = false := by
    show (!l.flags.contains noTraceFlag) = false
    rw [hflags]
    decide +kernel
  obtain ⟨D, d, cB, cL, hK, hK2, hKB, hKL, hXE, hAO, hAA, hNw⟩ := st_world hts hgv
  have hS : va_S (rg_A s.heap.size) s.heap s.heap [] := va_S.rf
  have hl := lv_entry ([.ref b]) (n := 9) (Nat.le_of_ble_eq_true rfl)
  rw [lg_entry_eq]
  generalize (lg_sl ([.ref b]) ++ List.replicate (9 - (lg_sl ([.ref b])).length) Slot.unset).toArray = ls at hl ⊢
  have hl : lv_has ls 9 [(0, .ref b)] := hl
  have hg : rg D (rc_1 (.inr (cWx, [.null, .null]))) s.heap.size 0 s.heap := fun j hj => absurd hj (Nat.not_lt_zero _)
  have hz : s.heap.size = s.heap.size + 0 := rfl
  refine rg_new (ci := cWx) (fs := [.null, .null]) (C := RX4) (T := TX4) (N := 2) (mm := 0) hx hb hts2 inlX4 tyX4 tyX4_ok hown (hts (.classLink RL 8 RX4) (by decide +kernel)) (hts (.instantiable RX4 2) (by decide +kernel)) (hts (.initialized RX4) (by decide +kernel)) hK hg hz hS rfl (fun j hj => by rcases (show j = 0 ∨ j = 1 by omega) with rfl | rfl <;> rfl) (Nat.le_of_ble_eq_true rfl) (Nat.le_of_ble_eq_true rfl) dL_law_0 (fun H hg hz hS _ => ?_)
  refine lv_dup hx hb dL_law_3 rfl ?_
  refine rg_callIE (As := []) (C0 := rc_1 (.inr (cWx, [.null, .null]))) (C2 := rc_X d s.heap.size) (mm := 0) ⟨hx, hb, hml, hown, hts2⟩ (kX4_init l D d s.heap.size) (cwI 0 hts2 gL_law_X4_init rfl rfl rfl (hts (.initialized RX4) (by decide +kernel)) (hts (.methodLink RL 102 yX4_init) (by decide +kernel)) (hts (.instanceMethod yX4_init) (by decide +kernel)) rfl (by decide +kernel) ⟨Nat.le_of_ble_eq_true rfl, Nat.le_of_ble_eq_true rfl⟩) hK hXE.1 hAO hg rfl hz hS rfl hl.1 (Nat.le_of_ble_eq_true rfl) dL_law_4 ⟨Nat.le_of_ble_eq_true rfl, Nat.le_of_ble_eq_true rfl⟩ rfl (fun H locs hg hz hS => ?_)
  have hz : H.size = s.heap.size + 135 := by omega
  have hg : rg D (rc_X d s.heap.size) s.heap.size 135 H := fun j hj => by
    have h := hg j (by omega)
    simp only [Nat.not_lt_zero, if_false, Nat.sub_zero] at h
    exact h
  refine lv_astore_n (lv' := [(1, .ref s.heap.size), (0, .ref b)]) hx hb dL_law_7 rfl hl (by decide) rfl (fun ls hl => ?_)
  refine rg_new (ci := cRm) (fs := [.int 0, .null]) (C := RX6) (T := TX6) (N := 2) (mm := 135) hx hb hts2 inlX6 tyX6 tyX6_ok hown (hts (.classLink RL 103 RX6) (by decide +kernel)) (hts (.instantiable RX6 2) (by decide +kernel)) (hts (.initialized RX6) (by decide +kernel)) hK hg hz hS rfl (fun j hj => by rcases (show j = 0 ∨ j = 1 by omega) with rfl | rfl <;> rfl) (Nat.le_of_ble_eq_true rfl) (Nat.le_of_ble_eq_true rfl) dL_law_8 (fun H hg hz hS _ => ?_)
  refine lv_dup hx hb dL_law_11 rfl ?_
  refine rf_callI (As := []) (C0 := rc_1 (.inr (cRm, [.int 0, .null]))) (C2 := rf_X d cB (s.heap.size + 135)) (mm := 135) ⟨hx, hb, hml, hown, hts2⟩ (kX6_init l D d cB (s.heap.size + 135)) (cwI 0 hts2 gL_law_X6_init rfl rfl rfl (hts (.initialized RX6) (by decide +kernel)) (hts (.methodLink RL 105 yX6_init) (by decide +kernel)) (hts (.instanceMethod yX6_init) (by decide +kernel)) rfl (by decide +kernel) ⟨Nat.le_of_ble_eq_true rfl, Nat.le_of_ble_eq_true rfl⟩) hK hKB hAA hNw hg rfl hz hS rfl hl.1 (Nat.le_of_ble_eq_true rfl) dL_law_12 ⟨Nat.le_of_ble_eq_true rfl, Nat.le_of_ble_eq_true rfl⟩ rfl (fun H locs hg hz hS => ?_)
  have hz : H.size = s.heap.size + 181 := by omega
  refine lv_astore_n (lv' := [(2, .ref (s.heap.size + 135)), (1, .ref s.heap.size), (0, .ref b)]) hx hb dL_law_15 rfl hl (by decide) rfl (fun ls hl => ?_)
  refine lv_iconst (v := 1) hx hb dL_law_16 (by decide) ?_
  refine rg_newl (mm := 181) hx hb (hts (.arrayClass .long) (by decide +kernel)) hKL hg hz hS (Nat.le_of_ble_eq_true rfl) (Nat.le_of_ble_eq_true rfl) dL_law_17 (fun H hg hz hS => ?_)
  have hg : rg D (lw_X d cB cL s.heap.size) s.heap.size 182 H := hg.congr (fun j hj => by
    unfold lw_X
    by_cases h : j = 181
    · subst h
      rw [rc_up1, if_neg (by omega), if_neg (by omega)]
    · rw [rc_upn _ _ _ _ h]
      by_cases h2 : j < 135
      · rw [if_pos h2]
        simp only [if_pos h2]
        rw [rc_upn _ _ _ _ (by omega)]
      · rw [if_neg h2, if_pos (by omega)]
        simp only [if_neg h2])
  have hz : H.size = s.heap.size + 182 := by omega
  refine lv_astore_n (lv' := [(3, .ref (s.heap.size + 181)), (2, .ref (s.heap.size + 135)), (1, .ref s.heap.size), (0, .ref b)]) hx hb dL_law_19 rfl hl (by decide) rfl (fun ls hl => ?_)
  refine lv_iconst (v := 0) hx hb dL_law_20 (by decide) ?_
  refine lv_istore (lv' := [(4, .int 0), (3, .ref (s.heap.size + 181)), (2, .ref (s.heap.size + 135)), (1, .ref s.heap.size), (0, .ref b)]) hx hb dL_law_21 hl (by decide) rfl (fun ls hl => ?_)
  refine W.widen (k := 182) (n := 1149) (Nat.le_of_ble_eq_true rfl) (Nat.le_of_ble_eq_true rfl) ?_
  refine lv_iload hx hb dL_law_23 (lv_at hl 0 rfl) ?_
  refine lv_aload_n hx hb dL_law_25 rfl (lv_at hl 4 rfl) ?_
  refine va_slen hx hb hX hbl hbA hS dL_law_26 ?_
  refine lv_iconst (v := 5) hx hb dL_law_27 (by decide) ?_
  refine lv_isub hx hb dL_law_28 ?_
  refine lv_icmp_gt (tgt := 2114) hx hb dL_law_29 (by decide) (fun c_29 => ?_) (fun c_29 => ?_)
  · refine lv_iconst (v := 1) hx hb dL_law_2114 (by decide) ?_
    refine va_forget (fun q hq => hS.2.2 q hq) ?_
    refine W.widen (k := 634243) (n := 7199508) (Nat.le_of_ble_eq_true rfl) (Nat.le_of_ble_eq_true rfl) ?_
    exact lw_ret (Drawn.sameBut.refl s.drawn lw_cs) hx hb hr hlocks dL_law_2115
  · have hL5 : L = 5 := by
      rcases (show L = 0 ∨ L = 1 ∨ L = 2 ∨ L = 3 ∨ L = 4 ∨ L = 5 by omega) with h | h | h | h | h | h
      · subst h; exact absurd (by decide) c_29
      · subst h; exact absurd (by decide) c_29
      · subst h; exact absurd (by decide) c_29
      · subst h; exact absurd (by decide) c_29
      · subst h; exact absurd (by decide) c_29
      · exact h
    subst hL5
    have G : lw_G p l s m meth c b D d cB cL xs := ⟨hx, hb, hr, hlocks, hml, hown, hts, hl0, hX, hbl, hK, hK2, hKL, hXE⟩
    refine lv_aload_n hx hb dL_law_32 rfl (lv_at hl 4 rfl) ?_
    refine lv_iload hx hb dL_law_33 (lv_at hl 0 rfl) ?_
    refine va_sld (i := 0) hx hb hX hbl hbA hS (by unfold vp_in; decide) dL_law_35 ?_
    refine lv_bipush (v := 31) hx hb dL_law_36 (by decide) ?_
    refine lv_iand hx hb dL_law_38 ?_
    obtain ⟨n, hn, en⟩ := lw_and (xs (0 : Int32).toNatClampNeg)
    rw [en]
    exact lw_disp G hg hz hS hl n hn
