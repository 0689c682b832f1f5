/-! THE REFERENCE ITSELF: new rows of numbers beside its object and its house -/
def mm_nw (L : hs_Lo) (m0 v : Nat) : Prop := mh_nw L v ∧ v ≠ m0
def mm_own (L : hs_Lo) (m0 : Nat) : Nat → Prop := fun q => q = m0 ∨ mh_own L q
theorem mm_nw.own {L : hs_Lo} {m0 v : Nat} (h : mm_nw L m0 v) : ¬ mm_own L m0 v := fun z => z.elim h.2 h.1.own
theorem mm_W.own {D : va_G} {d : hs_Dm} {cB : ClassId} {L : hs_Lo} {m0 : Nat} {th : Int32} {ρ : hs_St} {A : Nat → Prop} {H : Heap} (h : mm_W D d cB L m0 th ρ A H) : mm_W D d cB L m0 th ρ (mm_own L m0) H := ⟨h.1, ⟨h.2.1.1, fun k i hx => Or.inr ⟨k, i, hx, rfl⟩, h.2.1.2.2⟩, Or.inl rfl, h.2.2.2⟩
theorem mm_W.own_sub {D : va_G} {d : hs_Dm} {cB : ClassId} {L : hs_Lo} {m0 : Nat} {th : Int32} {ρ : hs_St} {A : Nat → Prop} {H : Heap} (h : mm_W D d cB L m0 th ρ A H) : ∀ q, mm_own L m0 q → A q := fun q z => z.elim (fun e => by rw [e]; exact h.2.2.1) (fun ⟨k, i, hx, e⟩ => by rw [e]; exact h.2.1.2.1 k i hx)
theorem mm_W.all {D : va_G} {d : hs_Dm} {cB : ClassId} {L : hs_Lo} {m0 : Nat} {th : Int32} {ρ : hs_St} {A : Nat → Prop} {H H1 : Heap} (h : mm_W D d cB L m0 th ρ A H) (hq : ∀ q : Nat, q < H.size → H1[q]? = H[q]?) : mm_W D d cB L m0 th ρ A H1 := ⟨h.1.kept (hq _ h.1.lt), h.2.1.all hq, h.2.2⟩
theorem mm_W.off {D : va_G} {d : hs_Dm} {cB : ClassId} {L : hs_Lo} {m0 : Nat} {th : Int32} {ρ : hs_St} {A : Nat → Prop} {H H1 : Heap} (h : mm_W D d cB L m0 th ρ A H) {v : Nat} (hv : mm_nw L m0 v) (hq : ∀ q : Nat, q ≠ v → H1[q]? = H[q]?) : mm_W D d cB L m0 th ρ A H1 := ⟨h.1.kept (hq _ hv.2.symm), h.2.1.off hv.1 hq, h.2.2⟩
theorem mm_W.nw {D : va_G} {d : hs_Dm} {cB : ClassId} {L : hs_Lo} {m0 : Nat} {th : Int32} {ρ : hs_St} {A : Nat → Prop} {H : Heap} (h : mm_W D d cB L m0 th ρ A H) {v : Nat} (hv : H.size ≤ v) : mm_nw L m0 v := ⟨h.2.1.nw hv, fun e => by have := h.1.lt; have hv2 := hv; rw [e] at hv2; exact absurd this (Nat.not_lt.mpr hv2)⟩
abbrev mm_Ml (l : Launch) (y : MethodName) (ws : List Cond) (rm : Room) (D : va_G) (d : hs_Dm) (cB : ClassId) (L : hs_Lo) (m0 : Nat) (th : Int32) (ρ : hs_St) (A : Nat → Prop) (sz : Nat) (av : List Value) (post : Int64 → mm_X → Prop) (mc ms : Nat) : Prop := Met l y ws rm (va_Pc av (mm_C D d cB L m0 th ρ A sz)) (va_Ql post (fun (X : mm_X) t => mm_W D d cB L m0 X.1 X.2 A t.heap) A) mc ms A
abbrev mm_Md (l : Launch) (y : MethodName) (ws : List Cond) (rm : Room) (D : va_G) (d : hs_Dm) (cB : ClassId) (L : hs_Lo) (m0 : Nat) (th : Int32) (ρ : hs_St) (A : Nat → Prop) (sz : Nat) (av : List Value) (post : UInt64 → mm_X → Prop) (mc ms : Nat) : Prop := Met l y ws rm (va_Pc av (mm_C D d cB L m0 th ρ A sz)) (va_Qd post (fun (X : mm_X) t => mm_W D d cB L m0 X.1 X.2 A t.heap) A) mc ms A
section MMN
variable {p : Program} {l : Launch} {e : Env} {R : Room} {s : State} {m : MethodId} {args : Array Value} {below : List Frame} {meth : Method} {c0 : Code} {H : Heap} {locs : List Loc} {cells slots : Nat} {Q : State → Prop}
variable {cc : ByteArray} {pc : Nat} {ls : Array Slot} {rest : List Value} {D : va_G} {d : hs_Dm} {cB : ClassId} {L : hs_Lo} {m0 : Nat} {th : Int32} {A : Nat → Prop} {ρ : hs_St} {H0 : Heap}
variable {y : MethodName} {bytes : ByteArray} {maxL nL na index mc ms : Nat} {ret : Option FieldType} {ws : List Cond} {rm : Room} {Ts : List Cond} {own : String} {As st : List Value}
theorem mm_newa (hexec : p.tables.exec = Jvm.exec) (hb : c0.code = cc) (harr : (Cond.arrayClass .int).before args s = true) (hK : va_K D vwCl (hs_ty d) s) (hAz : ∀ q, H0.size ≤ q → A q) (hM : mm_W D d cB L m0 th ρ A H) (hS : va_S A H0 H locs)
    {i : Int32} {N' : Nat} (hn : ¬ i < 0) (hN : i.toNatClampNeg = N') (hbytes : N' * 4 ≤ 536870912) (hcells : cells + 1 ≤ R.cells) (hslots : slots + N' ≤ R.slots) (hdg : decode cc pc = .ok (.newarray .int, 2))
    (kk : ∀ (H1 : Heap) (v : Nat), mm_W D d cB L m0 th ρ A H1 → mm_nw L m0 v → A v → va_at D vwCl (v, .inl (d.1, N', .inl (fun _ => 0))) H1 → H1.size = H.size + 1 → (∀ q : Nat, q < H.size → H1[q]? = H[q]?) → H.size ≤ v → va_S A H0 H1 locs → W p l e R s m args below meth c0 H1 locs (cells + 1) (slots + N') Q (F0 m (pc + 2) ls (.ref v :: rest))) : W p l e R s m args below meth c0 H locs cells slots Q (F0 m pc ls (.int i :: rest)) := by
  refine va_newaK hexec hb (atype := .int) harr (g := F0 m pc ls (.int i :: rest)) rfl hdg rfl hn hN hbytes hcells hslots rfl fun H1 cA e1 z1 o1 hA hf => ?_
  have hcA : cA = d.1 := Option.some.inj (hf.symm.trans (rg_iarr hK))
  subst hcA
  have oq : ∀ q : Nat, q < H.size → H1[q]? = H[q]? := fun q hq => o1 q hq
  exact kk H1 H.size (hM.all oq) (hM.nw (Nat.le_refl _)) (hAz _ hS.1) (by show H1[H.size]? = some (vp_cell _ _); rw [vp_cell_i]; exact e1) (by omega) oq (Nat.le_refl _) (rg_S hS (by omega) oq)
theorem mm_niast (hexec : p.tables.exec = Jvm.exec) (hb : c0.code = cc) (hK : va_K D vwCl (hs_ty d) s) (hM : mm_W D d cB L m0 th ρ A H) (hS : va_S A H0 H locs) {v N' : Nat} {f : Nat → Int32} (hv : va_at D vwCl (v, .inl (d.1, N', .inl f)) H) (nv : mm_nw L m0 v) (hA : A v) {i x : Int32} (hin : vp_in i N') (hdg : decode cc pc = .ok (.iastore, 1))
    (kk : ∀ (H1 : Heap) (locs1 : List Loc), mm_W D d cB L m0 th ρ A H1 → va_at D vwCl (v, .inl (d.1, N', .inl (upd f i.toNatClampNeg x))) H1 → H1.size = H.size → (∀ q : Nat, q ≠ v → H1[q]? = H[q]?) → va_S A H0 H1 locs1 → W p l e R s m args below meth c0 H1 locs1 cells slots Q (F0 m (pc + 1) ls rest)) : W p l e R s m args below meth c0 H locs cells slots Q (F0 m pc ls (.int x :: .int i :: .ref v :: rest)) := by
  refine W.iast hexec hb hv ((hK.2 0 _ rfl).1 N' (fun j => .int (f j))) (fun q => by cases q) (by show ¬ (i < 0 ∨ (arrV _ _ _).slots.size ≤ _); rw [arrV_size]; exact hin) rfl rfl hdg fun H1 e z oq => ?_
  refine kk H1 _ (hM.off nv oq) ?_ z oq (hS.put z oq hA)
  show H1[v]? = some (vp_cell _ _)
  rw [e]
  rw [vp_cell_i, vp_cell_i, arrV_store]
  congr 2
  funext z
  by_cases hq : z = i.toNatClampNeg
  · subst hq
    simp [updV, upd]
  · simp [updV, upd, hq]
theorem mm_nalen (hexec : p.tables.exec = Jvm.exec) (hb : c0.code = cc) (hK : va_K D vwCl (hs_ty d) s) {v N' : Nat} {f : Nat → Int32} (hv : va_at D vwCl (v, .inl (d.1, N', .inl f)) H) {x : Int32} (hx : Int32.ofNat N' = x) (hdg : decode cc pc = .ok (.arraylength, 1))
    (kk : W p l e R s m args below meth c0 H locs cells slots Q (F0 m (pc + 1) ls (.int x :: rest))) : W p l e R s m args below meth c0 H locs cells slots Q (F0 m pc ls (.ref v :: rest)) :=
  va_alen hexec hb hK (mm_P hv) 0 0 rfl rfl hx hdg kk
theorem mm_D2 {A : Nat → Prop} {a b : Nat} {x y : va_E} (h : a ≠ b) (ha : A a) (hb : A b) : va_D A [(a, x), (b, y)] := by
  refine ⟨fun i j p q hi hj e => ?_, fun k q hk => ?_⟩
  · rcases i with _ | _ | i <;> rcases j with _ | _ | j <;> first | rfl | (simp at hi; done) | (simp at hj; done) | skip
    · simp at hi hj; subst hi hj; exact absurd e h
    · simp at hi hj; subst hi hj; exact absurd e.symm h
  · rcases k with _ | _ | k
    · cases hk; exact ha
    · cases hk; exact hb
    · simp at hk
theorem mm_P2 {D : va_G} {a b : Nat × va_E} {H : Heap} (ha : va_at D vwCl a H) (hb : va_at D vwCl b H) : va_P D vwCl [a, b] H := fun k q hk => by
  rcases k with _ | _ | k
  · cases hk; exact ha
  · cases hk; exact hb
  · simp at hk
/-- one row of numbers, the first N of it copied to the front of another -/
theorem mm_copyi (hexec : p.tables.exec = Jvm.exec) (hb : c0.code = cc) (hml : c0.maxLocals = ls.size) {own : String} {index : Nat} (hown : s.vm.findClass own = some m.cls) (hlink : (Cond.methodLink own index arraycopyName).before args s = true) (hnat : (Cond.native arraycopyName).before args s = true) (hstat : (Cond.static arraycopyName).before args s = true) (hini : (Cond.initialized "java/lang/System").before args s = true)
    (hK : va_K D vwCl (hs_ty d) s) {a0 a n0 n1 N : Nat} {f g : Nat → Int32} (ha0 : va_at D vwCl (a0, .inl (d.1, n0, .inl f)) H) (ha1 : va_at D vwCl (a, .inl (d.1, n1, .inl g)) H) (h31 : N < 2 ^ 31) (h4 : N ≤ n0) (h5 : N ≤ n1) {x : Int32} (hxN : x = nI N)
    (hframes : 1 ≤ R.frames) (hlocals : (rest.map fun v => v.category).sum + (nativeFrameWords "java/lang/System" "arraycopy" 5 + 11) ≤ R.locals) (hdg : decode cc pc = .ok (.invokestatic index, 3))
    (kk : ∀ (H1 : Heap) (L1 : List Loc), va_at D vwCl (a, .inl (d.1, n1, .inl (va_cpy f g 0 0 N))) H1 → H1.size = H.size → (∀ q : Nat, q ≠ a → H1[q]? = H[q]?) → (∀ x ∈ L1, x.base = a) → W p l e R s m args below meth c0 H1 (locs ++ L1) cells slots Q (F0 m (pc + 3) ls rest)) : W p l e R s m args below meth c0 H locs cells slots Q (F0 m pc ls (.int x :: .int 0 :: .ref a :: .int 0 :: .ref a0 :: rest)) := by
  subst hxN
  intro T hT X
  have hc0 : H[a0]? = some (vp_cell d.1 (n0, .inl f)) := ha0
  have hc1 : H[a]? = some (vp_cell d.1 (n1, .inl g)) := ha1
  have hn : (nI N).toNatClampNeg = N := nI_clamp h31
  have hz : (0 : Int32).toInt = 0 := rfl
  have hz0 : (0 : Int32).toNatClampNeg = 0 := rfl
  obtain ⟨-, k0, hk0, cm0, hkk0⟩ := (hK.2 0 _ rfl).1 n0 (fun j => .int (f j))
  obtain ⟨-, k1, hk1, cm1, hkk1⟩ := (hK.2 0 _ rfl).1 n1 (fun j => .int (g j))
  obtain ⟨vm', X', step⟩ := X.arraycopy hexec hown hlink hnat hstat hini (src := a0) (dst := a) (cs := vp_cell d.1 (n0, .inl f)) (cd := vp_cell d.1 (n1, .inl g)) (srcPos := 0) (destPos := 0) (n := nI N) (by rw [hT]; exact hc0) (by rw [hT]; exact hc1)
    (fun _ h => by cases h) (fun _ h => by cases h) (fun h => by cases h) (fun h => by cases h) hk0 hk1 hkk0 hkk1 rfl (by decide) (by decide) (nI_pos h31)
    (by rw [hz, nI_toInt h31]; show ¬ _ > ((arrV d.1 n0 (fun j => .int (f j))).slots.size : Int); rw [arrV_size]; omega)
    (by rw [hz, nI_toInt h31]; show ¬ _ > ((arrV d.1 n1 (fun j => .int (g j))).slots.size : Int); rw [arrV_size]; omega)
    (fun vm₁ _ i hi => by
      rw [hn] at hi
      rw [hz0]
      have e : (vp_cell d.1 (n0, .inl f)).slots.getD (0 + i) .null = .int (f i) := by
        show (arrV d.1 n0 (fun j => .int (f j))).slots.getD _ _ = _
        rw [Array.getD_eq_getD_getElem?, Nat.zero_add, arrV_read _ _ (by omega)]
        rfl
      rw [e]
      exact ⟨rfl, trivial⟩)
    (g := F0 m pc ls (.int (nI N) :: .int 0 :: .ref a :: .int 0 :: .ref a0 :: rest)) rfl (by rw [hml]) (rest := rest) rfl (by rw [hb]; exact hdg) hframes (by show 2 * 0 + _ + _ ≤ _; omega)
  have e1 : copied (vp_cell d.1 (n0, .inl f)) (vp_cell d.1 (n1, .inl g)) 0 0 (nI N) = vp_cell d.1 (n1, .inl (va_cpy f g 0 0 N)) := by
    have h4' : (0 : Int32).toNatClampNeg + (nI N).toNatClampNeg ≤ n0 := by rw [hz0, hn]; omega
    have := va_copied (fun z => .int z) d.1 d.1 (n1 := n1) (dp := (0 : Int32).toNatClampNeg) f g h4'
    rw [hz0, hn] at this
    rw [vp_cell_i, vp_cell_i, vp_cell_i]
    unfold copied
    rw [hz0, hn]
    exact this
  rw [e1] at X' step
  have hl : a < H.size := (Array.getElem?_eq_some_iff.mp hc1).1
  generalize hG : vp_cell d.1 (n1, .inl (va_cpy f g 0 0 N)) = G at X' step
  have hheap : ((T.setVm vm').setCell a G).heap = H.setIfInBounds a G := by rw [← hT]; rfl
  obtain ⟨t, a1, b1⟩ := kk (H.setIfInBounds a G) _ (show (H.setIfInBounds a G)[a]? = some _ by rw [hG]; simp [Array.getElem?_setIfInBounds, hl]) (by simp) (fun q hq => by simp [Array.getElem?_setIfInBounds, Ne.symm hq]) (fun x hx => by
    obtain ⟨z, -, hz⟩ := List.mem_map.mp hx
    rw [← hz]) _ hheap X'
  exact ⟨t, step t a1, b1⟩
theorem mm_Sapp {A : Nat → Prop} {H0 H H1 : Heap} {locs L1 : List Loc} {a : Nat} (h : va_S A H0 H locs) (z : H1.size = H.size) (oq : ∀ q : Nat, q ≠ a → H1[q]? = H[q]?) (hL : ∀ x ∈ L1, x.base = a) (ha : A a) : va_S A H0 H1 (locs ++ L1) := by
  refine ⟨by rw [z]; exact h.1, fun q h1 h2 => ?_, fun q hq => ?_⟩
  · rw [oq q (fun e => h2 (by rw [e]; exact ha))]
    exact h.2.1 q h1 h2
  · rcases List.mem_append.mp hq with h1 | h1
    · exact h.2.2 q h1
    · rw [hL q h1]
      exact ha
/-- a new row into one of the house's -/
theorem mm_copyin (hexec : p.tables.exec = Jvm.exec) (hb : c0.code = cc) (hml : c0.maxLocals = ls.size) {own : String} {index : Nat} (hown : s.vm.findClass own = some m.cls) (hlink : (Cond.methodLink own index arraycopyName).before args s = true) (hnat : (Cond.native arraycopyName).before args s = true) (hstat : (Cond.static arraycopyName).before args s = true) (hini : (Cond.initialized "java/lang/System").before args s = true)
    (hK : va_K D vwCl (hs_ty d) s) (hM : mm_W D d cB L m0 th ρ A H) (hS : va_S A H0 H locs) {v n0 N : Nat} {f : Nat → Int32} (hv : va_at D vwCl (v, .inl (d.1, n0, .inl f)) H) (nv : mm_nw L m0 v) {k q : Nat} (hk5 : 5 ≤ k) (hix : mh_ix k q) (h31 : N < 2 ^ 31) (h4 : N ≤ n0) (h5 : N ≤ mh_w k) {x : Int32} (hxN : x = nI N)
    (hframes : 1 ≤ R.frames) (hlocals : (rest.map fun v => v.category).sum + (nativeFrameWords "java/lang/System" "arraycopy" 5 + 11) ≤ R.locals) (hdg : decode cc pc = .ok (.invokestatic index, 3))
    (kk : ∀ (H1 : Heap) (locs1 : List Loc), mm_W D d cB L m0 th (hs_row ρ k q (va_cpy f (ρ k q) 0 0 N)) A H1 → va_at D vwCl (v, .inl (d.1, n0, .inl f)) H1 → H1.size = H.size → va_S A H0 H1 locs1 → W p l e R s m args below meth c0 H1 locs1 cells slots Q (F0 m (pc + 3) ls rest)) : W p l e R s m args below meth c0 H locs cells slots Q (F0 m pc ls (.int x :: .int 0 :: .ref (L k q) :: .int 0 :: .ref v :: rest)) := by
  have hc : va_at D vwCl (L k q, .inl (d.1, mh_w k, .inl (ρ k q))) H := by
    have h := hM.2.1.1 k q hix
    rw [mh_ctR _ hk5] at h
    exact h
  refine mm_copyi hexec hb hml hown hlink hnat hstat hini hK hv hc h31 h4 h5 hxN hframes hlocals hdg fun H1 L1 hB z oq hL => ?_
  have hW := hM.2.1
  refine kk H1 _ ⟨hM.1.kept (oq _ (fun e => hM.2.2.2 k q hix e.symm)), hW.putG hix ?_ (fun q9 _ h2 => oq q9 h2) (fun k' i' _ hn9 j' => if_neg hn9), hM.2.2⟩ (hv.kept (oq _ (fun e => Nat.lt_irrefl _ (by have := nv.1 k q hix; rw [← e] at this; exact this)))) z (mm_Sapp hS z oq hL (hW.2.1 k q hix))
  rw [mh_ctR _ hk5]
  have e9 : hs_row ρ k q (va_cpy f (ρ k q) 0 0 N) k q = va_cpy f (ρ k q) 0 0 N := funext (fun z => if_pos ⟨rfl, rfl⟩)
  rw [e9]
  exact hB
/-- one of the house's rows into a new one -/
theorem mm_copyout (hexec : p.tables.exec = Jvm.exec) (hb : c0.code = cc) (hml : c0.maxLocals = ls.size) {own : String} {index : Nat} (hown : s.vm.findClass own = some m.cls) (hlink : (Cond.methodLink own index arraycopyName).before args s = true) (hnat : (Cond.native arraycopyName).before args s = true) (hstat : (Cond.static arraycopyName).before args s = true) (hini : (Cond.initialized "java/lang/System").before args s = true)
    (hK : va_K D vwCl (hs_ty d) s) (hM : mm_W D d cB L m0 th ρ A H) (hS : va_S A H0 H locs) {v n0 N : Nat} {f : Nat → Int32} (hv : va_at D vwCl (v, .inl (d.1, n0, .inl f)) H) (nv : mm_nw L m0 v) (hA : A v) {k q : Nat} (hk5 : 5 ≤ k) (hix : mh_ix k q) (h31 : N < 2 ^ 31) (h4 : N ≤ mh_w k) (h5 : N ≤ n0) {x : Int32} (hxN : x = nI N)
    (hframes : 1 ≤ R.frames) (hlocals : (rest.map fun v => v.category).sum + (nativeFrameWords "java/lang/System" "arraycopy" 5 + 11) ≤ R.locals) (hdg : decode cc pc = .ok (.invokestatic index, 3))
    (kk : ∀ (H1 : Heap) (locs1 : List Loc), mm_W D d cB L m0 th ρ A H1 → va_at D vwCl (v, .inl (d.1, n0, .inl (va_cpy (ρ k q) f 0 0 N))) H1 → H1.size = H.size → va_S A H0 H1 locs1 → W p l e R s m args below meth c0 H1 locs1 cells slots Q (F0 m (pc + 3) ls rest)) : W p l e R s m args below meth c0 H locs cells slots Q (F0 m pc ls (.int x :: .int 0 :: .ref v :: .int 0 :: .ref (L k q) :: rest)) := by
  have hc : va_at D vwCl (L k q, .inl (d.1, mh_w k, .inl (ρ k q))) H := by
    have h := hM.2.1.1 k q hix
    rw [mh_ctR _ hk5] at h
    exact h
  refine mm_copyi hexec hb hml hown hlink hnat hstat hini hK hc hv h31 h4 h5 hxN hframes hlocals hdg fun H1 L1 hB z oq hL => ?_
  exact kk H1 _ (hM.off nv oq) hB z (mm_Sapp hS z oq hL hA)
/-- a month on a new row -/
theorem mm_mon {v j : Nat} {f : Nat → Int32} (S : CallFix p m c0 cc nL s args Ts own) (hj : j < 3) (cw : CallB R s args own index yX5_month bytes maxL none wsX5_month ({ frames := 2, cells := 0, slots := 0, locals := 60 } : Room) 0 0 na ∧ (Cond.static yX5_month).before args s = true) (hKK : mh_K D d cB s) (hM : mm_W D d cB L m0 th ρ A H) (hS : va_S A s.heap H locs) (hv : va_at D vwCl (v, .inl (d.1, 9, .inl f)) H) (nv : mm_nw L m0 v) (hA : A v) (hn : 2 = na) (hsize : ls.size = nL) (hrest : (rest.map fun v => v.category).sum ≤ 8) (hdg : decode cc pc = .ok (.invokestatic index, 3)) (hf : cells + 0 ≤ R.cells ∧ slots + 0 ≤ R.slots) (hst : st = .int (nI j) :: .ref v :: rest)
    (kk : ∀ (H1 : Heap) (locs1 : List Loc), mm_W D d cB L m0 th ρ A H1 → va_at D vwCl (v, .inl (d.1, 9, .inl (mp_month f j))) H1 → H.size ≤ H1.size → va_S A s.heap H1 locs1 → W p l e R s m args below meth c0 H1 locs1 cells slots Q (F0 m (pc + 3) ls rest)) : W p l e R s m args below meth c0 H locs cells slots Q (F0 m pc ls st) := by
  subst hst
  refine va_callv (va_runS (As := [.ref v, .int (nI j)]) S (kX5_month l D d v f j hj) cw ⟨mo_blind, fun U hU hW2 => ⟨rfl, by rw [hU]; exact hv, va_K.moved hW2.alike hKK.1, va_Nw.warmM hW2 hKK.2.2.2.1⟩⟩ rfl hn hsize rfl (lv_room hrest) hdg hf) hS (fun q _ h => by rw [h]; exact hA) (fun q h => by rw [h]; exact hA) (fun u t H1 locs1 ht _ _ hB hz hq hS1 => ?_)
  have hB : va_at D vwCl (v, .inl (d.1, 9, .inl (mp_month f j))) t.heap := hB
  rw [ht] at hB
  exact kk H1 locs1 ⟨hM.1.kept (hq _ hM.1.lt nv.2.symm), hM.2.1.kept (fun q h1 ⟨k, i, hx, e⟩ => hq q h1 (fun e2 => by have := nv.1 k i hx; rw [← e, e2] at this; exact Nat.lt_irrefl _ this)), hM.2.2⟩ hB hz hS1
/-- what a step needs, asked by the reference itself -/
theorem mm_needs {rm : Room} {ws : List Cond} {y : MethodName} {j : Nat} (S : CallFix p m c0 cc nL s args Ts own) (hC : Met l y ws rm (va_Pc [.int (nI j)] (nd_C D d H.size)) (va_Qi (fun r (_ : Unit) => r = mp_needs j) (fun _ _ => True) (fun q => H.size ≤ q)) 1 7 (fun q => H.size ≤ q)) (cw : CallB R s args own index y bytes maxL ret ws rm 1 7 na ∧ (Cond.static y).before args s = true) (hK : va_K D vwCl (hs_ty d) s) (hAz : ∀ q, s.heap.size ≤ q → A q) (hM : mm_W D d cB L m0 th ρ A H) (hS : va_S A s.heap H locs) (hn : 1 = na) (hsize : ls.size = nL) (hrest : (rest.map fun v => v.category).sum ≤ 8) (hdg : decode cc pc = .ok (.invokestatic index, 3)) (hf : cells + 1 ≤ R.cells ∧ slots + 7 ≤ R.slots) (hst : st = .int (nI j) :: rest)
    (kk : ∀ (H1 : Heap) (locs1 : List Loc), mm_W D d cB L m0 th ρ A H1 → H.size ≤ H1.size → (∀ q : Nat, q < H.size → H1[q]? = H[q]?) → va_S A s.heap H1 locs1 → W p l e R s m args below meth c0 H1 locs1 (cells + 1) (slots + 7) Q (F0 m (pc + 3) ls (.int (mp_needs j) :: rest))) : W p l e R s m args below meth c0 H locs cells slots Q (F0 m pc ls st) := by
  subst hst
  have hA9 : ∀ q, H.size ≤ q → A q := fun q h => hAz q (Nat.le_trans hS.1 h)
  refine va_calli (va_runS (As := [.int (nI j)]) S hC cw ⟨nd_blind, fun U hU hW2 => ⟨rfl, by rw [hU], va_K.moved hW2.alike hK⟩⟩ rfl hn hsize rfl (lv_room hrest) hdg hf) hS (fun q _ h => hA9 q h) (fun q h => hA9 q h) (fun r u t H1 locs1 ht _ hp _ hz hq hS1 => ?_)
  subst hp
  have oq : ∀ q : Nat, q < H.size → H1[q]? = H[q]? := fun q h => hq q h (Nat.not_le.mpr h)
  exact kk H1 locs1 (hM.all oq) hz oq hS1
/-- the reference calls itself; its own cells alone are touched -/
theorem mm_callo {post : Int32 → mm_X → Prop} (S : CallFix p m c0 cc nL s args Ts own) (hC : mm_Mi l y ws rm D d cB L m0 th ρ (mm_own L m0) H.size (.ref m0 :: As) post mc ms) (cw : CallW R s args own RX6 index y bytes maxL ret ws rm mc ms na) (hKK : mh_K D d cB s) (hM : mm_W D d cB L m0 th ρ A H) (hS : va_S A s.heap H locs) (hn : As.length = na) (hsize : ls.size = nL) (hrest : (rest.map fun v => v.category).sum ≤ 8) (hdg : decode cc pc = .ok (.invokevirtual index, 3)) (hf : cells + mc ≤ R.cells ∧ slots + ms ≤ R.slots) (hst : st = As.reverse ++ .ref m0 :: rest)
    (kk : ∀ (r : Int32) (X : mm_X) (H1 : Heap) (locs1 : List Loc), post r X → mm_W D d cB L m0 X.1 X.2 A H1 → H.size ≤ H1.size → (∀ q : Nat, q < H.size → ¬ mm_own L m0 q → H1[q]? = H[q]?) → va_S A s.heap H1 locs1 → W p l e R s m args below meth c0 H1 locs1 (cells + mc) (slots + ms) Q (F0 m (pc + 3) ls (.int r :: rest))) : W p l e R s m args below meth c0 H locs cells slots Q (F0 m pc ls st) := by
  subst hst
  exact va_calli (va_runV S hC cw ⟨mm_blind, va_recv hKK.1 (mm_P hM.1) (q0 := 0) (show vwCl[cMm]? = some (RX6, TX6, 2) from rfl) rfl, fun U hU hW9 => ⟨rfl, by rw [hU], by rw [hU]; exact hM.own, hKK.on hW9⟩⟩ rfl hn hsize rfl (lv_room hrest) hdg hf) hS (fun q _ h => hM.own_sub q h) (fun q h => hM.own_sub q h) (fun r X t H1 locs1 ht _ hp hB1 hz hq hS1 => by
    have hB1 : mm_W D d cB L m0 X.1 X.2 (mm_own L m0) t.heap := hB1
    rw [ht] at hB1
    exact kk r X H1 locs1 hp ⟨hB1.1, ⟨hB1.2.1.1, hM.2.1.2.1, hB1.2.1.2.2⟩, hM.2.2.1, hB1.2.2.2⟩ hz hq hS1)
/-- its own cells and new ones -/
def mh_ownN (L : hs_Lo) (sz : Nat) : Nat → Prop := fun q => mh_own L q ∨ sz ≤ q
theorem mh_W.ownN {cI : ClassId} (h : mh_W D cI cB L ρ A H) (sz : Nat) : mh_W D cI cB L ρ (mh_ownN L sz) H := ⟨h.1, fun k i hx => Or.inl ⟨k, i, hx, rfl⟩, h.2.2⟩
theorem mh_ownN_A (L : hs_Lo) (sz : Nat) : mh_A (mh_ownN L sz) sz := fun q h => Or.inr h
/-- the house calls itself; its own cells and new ones alone are touched -/
theorem mh_calln {post : Int32 → hs_St → Prop} (S : CallFix p m c0 cc nL s args Ts own) (hC : mh_Mi l y ws rm D d cB L ρ (mh_ownN L H.size) H.size (.ref (L 0 0) :: As) post mc ms) (cw : CallW R s args own RX5 index y bytes maxL ret ws rm mc ms na) (hKK : mh_K D d cB s) (hAz : ∀ q, s.heap.size ≤ q → A q) (hW : mh_W D d.1 cB L ρ A H) (hS : va_S A s.heap H locs) (hn : As.length = na) (hsize : ls.size = nL) (hrest : (rest.map fun v => v.category).sum ≤ 8) (hdg : decode cc pc = .ok (.invokevirtual index, 3)) (hf : cells + mc ≤ R.cells ∧ slots + ms ≤ R.slots) (hst : st = As.reverse ++ .ref (L 0 0) :: rest)
    (kk : ∀ (r : Int32) (τ : hs_St) (H1 : Heap) (locs1 : List Loc), post r τ → mh_W D d.1 cB L τ A H1 → H.size ≤ H1.size → (∀ q : Nat, q < H.size → ¬ mh_own L q → H1[q]? = H[q]?) → va_S A s.heap H1 locs1 → W p l e R s m args below meth c0 H1 locs1 (cells + mc) (slots + ms) Q (F0 m (pc + 3) ls (.int r :: rest))) : W p l e R s m args below meth c0 H locs cells slots Q (F0 m pc ls st) := by
  subst hst
  have hOA : ∀ q, mh_ownN L H.size q → A q := fun q z => z.elim (fun ⟨k, i, hx, e⟩ => by rw [e]; exact hW.2.1 k i hx) (fun h => hAz q (Nat.le_trans hS.1 h))
  exact va_calli (va_runV S hC cw ⟨mh_blind, va_recv hKK.1 (mh_pO hW) (q0 := 0) (show vwCl[cMh]? = some (RX5, TX5, 14) from rfl) rfl, fun U hU hW9 => ⟨rfl, by rw [hU], by rw [hU]; exact hW.ownN _, hKK.on hW9⟩⟩ rfl hn hsize rfl (lv_room hrest) hdg hf) hS (fun q _ h => hOA q h) (fun q h => hOA q h) (fun r τ t H1 locs1 ht _ hp hB1 hz hq hS1 => by
    have hB1 : mh_W D d.1 cB L τ (mh_ownN L H.size) t.heap := hB1
    rw [ht] at hB1
    exact kk r τ H1 locs1 hp ⟨hB1.1, hW.2.1, hB1.2.2⟩ hz (fun q h1 h2 => hq q h1 (fun z => z.elim h2 (Nat.not_le.mpr h1))) hS1)
end MMN
