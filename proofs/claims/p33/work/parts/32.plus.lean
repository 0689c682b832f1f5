/-! PLUS: rows of rows of numbers: a new one, a copy, a store; the method -/
theorem tl_nm : (FieldType.array .int).toString = "[I" := by decide +kernel
theorem tl_nm2 : "[" ++ FieldType.int.toString = "[I" := by decide +kernel
theorem tl_asg (vm : Vm) (c : ClassId) : vm.assignable c c = true := by
  show vm.assignableAux (255 + 1) c c = true
  rw [Vm.assignableAux]
  simp only [beq_self_eq_true, Bool.true_or]
theorem tl_comp {s : State} {D : va_G} {d : hs_Dm} {cB : ClassId} (hK : va_K D vwCl (hs_ty d) s) (hKB : va_K D vwCl [(d.1, .int), (cB, .array .int)] s) (hAO : tl_AO s) : ∃ kA kI : Class, s.vm.classes[cB]? = some kA ∧ kA.kind = .array d.1 (.array .int) ∧ s.vm.classes[d.1]? = some kI := by
  obtain ⟨comp, cA, kA, h1, -, h3, h4, h5⟩ := arrayOverA_spec (args := #[]) (first := s) (o := none) (s := s) (idx := []) (t := .int) hAO
  have e1 : s.vm.findClass "[I" = some d.1 := by rw [← tl_nm2]; exact rg_iarr hK
  have e2 : comp = d.1 := Option.some.inj (h1.symm.trans (by rw [tl_nm]; exact e1))
  have e3 : cA = cB := Option.some.inj (h5.symm.trans (hKB.2 1 _ rfl).2)
  subst e2; subst e3
  obtain ⟨kI, hkI, -⟩ := Vm.findClass_spec e1
  exact ⟨kA, kI, h3, h4, hkI⟩
section TLP
variable {p : Program} {l : Launch} {e : Env} {R : Room} {s : State} {m : MethodId} {args : Array Value} {below : List Frame} {meth : Method} {c0 : Code} {H : Heap} {locs : List Loc} {cells slots : Nat} {Q : State → Prop}
variable {cc : ByteArray} {pc : Nat} {ls : Array Slot} {rest : List Value} {D : va_G} {d : hs_Dm} {cB : ClassId} {A : Nat → Prop} {H0 : Heap}
theorem tl_newA (hexec : p.tables.exec = Jvm.exec) (hb : c0.code = cc) {own : String} {index : Nat} (hown : s.vm.findClass own = some m.cls) (hclink : (Cond.classLink own index "[I").before args s = true) (hAO : tl_AO s) (hKB : va_K D vwCl [(d.1, .int), (cB, .array .int)] s)
    {i : Int32} {N' : Nat} (hn : ¬ i < 0) (hN : i.toNatClampNeg = N') (hbytes : N' * 4 ≤ 536870912) (hcells : cells + 1 ≤ R.cells) (hslots : slots + N' ≤ R.slots) (hdg : decode cc pc = .ok (.anewarray index, 3))
    (kk : ∀ (H1 : Heap), va_at D vwCl (H.size, .inl (cB, N', .inr (.inr (.inr (.inr (fun _ => none)))))) H1 → H1.size = H.size + 1 → (∀ q : Nat, q < H.size → H1[q]? = H[q]?) → W p l e R s m args below meth c0 H1 locs (cells + 1) (slots + N') Q (F0 m (pc + 3) ls (.ref H.size :: rest))) : W p l e R s m args below meth c0 H locs cells slots Q (F0 m pc ls (.int i :: rest)) := by
  subst hN
  refine W.anewA (t := .int) hexec hb hown (by rw [tl_nm]; exact hclink) (show (Cond.arrayOver (.array .int)).before args s = true from hAO) rfl hdg rfl hn hbytes hcells hslots fun cA kA comp f1 f2 f3 f4 => ?_
  generalize hH1 : H.push ({ cls := cA, slots := Array.replicate i.toNatClampNeg .null, vm := .none } : Cell) = H1
  have z1 : H1.size = H.size + 1 := by rw [← hH1, Array.size_push]
  have e1 : H1[H.size]? = some (arrV cA i.toNatClampNeg (fun _ => .null)) := by rw [← hH1, Array.getElem?_push_size, ← arrV_new]
  have o1 : ∀ q : Nat, q < H.size → H1[q]? = H[q]? := fun q hq => by rw [← hH1, Array.getElem?_push, if_neg (Nat.ne_of_lt hq)]
  have hcA : cA = cB := Option.some.inj (f1.symm.trans (hKB.2 1 _ rfl).2)
  subst hcA
  exact kk H1 (by show H1[H.size]? = some (vp_cell _ _); rw [vp_cell_q]; exact e1) z1 o1
theorem tl_astA (hexec : p.tables.exec = Jvm.exec) (hb : c0.code = cc) (hK : va_K D vwCl (hs_ty d) s) (hKB : va_K D vwCl [(d.1, .int), (cB, .array .int)] s) (hAO : tl_AO s) {a n v : Nat} {f : Nat → Option Nat} {x : vp_A} (ha : va_at D vwCl (a, .inl (cB, n, .inr (.inr (.inr (.inr f))))) H) {k : Nat} {g : Nat → Int32} (hv : va_at D vwCl (v, .inl (d.1, k, .inl g)) H) {i : Int32} (hin : vp_in i n) (hdg : decode cc pc = .ok (.aastore, 1))
    (kk : ∀ (H1 : Heap), va_at D vwCl (a, .inl (cB, n, .inr (.inr (.inr (.inr (va_up f i.toNatClampNeg (some v))))))) H1 → H1.size = H.size → (∀ q : Nat, q ≠ a → H1[q]? = H[q]?) → W p l e R s m args below meth c0 H1 (locs ++ [⟨a, i.toNatClampNeg⟩]) cells slots Q (F0 m (pc + 1) ls rest)) : W p l e R s m args below meth c0 H locs cells slots Q (F0 m pc ls (.ref v :: .int i :: .ref a :: rest)) := by
  have hlt : i.toNatClampNeg < n := Nat.not_le.mp fun q => hin (Or.inr q)
  have h0 : ¬ i < 0 := fun q => hin (Or.inl q)
  obtain ⟨kA, kI, k1, k2, k3⟩ := tl_comp hK hKB hAO
  refine W.aast hexec hb ha (fun q h => by cases h) (fun h => by cases h) k1 k2 rfl k3 ⟨h0, by show _ < (arrV _ _ _).slots.size; rw [arrV_size]; exact hlt⟩ hv (fun q h => by cases h) k3 (tl_asg s.vm d.1) rfl rfl hdg fun H1 e z oq => ?_
  refine kk H1 ?_ z oq
  show H1[a]? = some (vp_cell _ _)
  rw [e]
  rw [vp_cell_q, vp_cell_q, arrV_store]
  congr 2
  funext q
  by_cases hq : q = i.toNatClampNeg
  · subst hq
    simp [updV, va_up, va_rf]
  · simp [updV, va_up, hq]
/-- the whole of one, copied to the front of another -/
theorem tl_copyA (hexec : p.tables.exec = Jvm.exec) (hb : c0.code = cc) (hml : c0.maxLocals = ls.size) {own : String} {index : Nat} (hown : s.vm.findClass own = some m.cls) (hlink : (Cond.methodLink own index arraycopyName).before args s = true) (hnat : (Cond.native arraycopyName).before args s = true) (hstat : (Cond.static arraycopyName).before args s = true) (hini : (Cond.initialized "java/lang/System").before args s = true)
    (hK : va_K D vwCl (hs_ty d) s) (hKB : va_K D vwCl [(d.1, .int), (cB, .array .int)] s) (hAO : tl_AO s) {a0 a n0 n1 : Nat} {f g : Nat → Option Nat} (ha0 : va_at D vwCl (a0, .inl (cB, n0, .inr (.inr (.inr (.inr f))))) H) (ha1 : va_at D vwCl (a, .inl (cB, n1, .inr (.inr (.inr (.inr g))))) H) (h31 : n0 < 2 ^ 31) (h5 : n0 ≤ n1) (hel : ∀ i : Nat, i < n0 → ∀ y : Nat, f i = some y → ∃ (k : Nat) (g' : Nat → Int32), va_at D vwCl (y, .inl (d.1, k, .inl g')) H)
    (hframes : 1 ≤ R.frames) (hlocals : (rest.map fun v => v.category).sum + (nativeFrameWords "java/lang/System" "arraycopy" 5 + 11) ≤ R.locals) (hdg : decode cc pc = .ok (.invokestatic index, 3))
    (kk : ∀ (H1 : Heap) (L1 : List Loc), va_at D vwCl (a, .inl (cB, n1, .inr (.inr (.inr (.inr (va_cpy f g 0 0 n0)))))) H1 → H1.size = H.size → (∀ q : Nat, q ≠ a → H1[q]? = H[q]?) → (∀ x ∈ L1, x.base = a) → W p l e R s m args below meth c0 H1 (locs ++ L1) cells slots Q (F0 m (pc + 3) ls rest)) : W p l e R s m args below meth c0 H locs cells slots Q (F0 m pc ls (.int (nI n0) :: .int 0 :: .ref a :: .int 0 :: .ref a0 :: rest)) := by
  intro T hT X
  obtain ⟨kA, kI, k1, k2, k3⟩ := tl_comp hK hKB hAO
  have hc0 : H[a0]? = some (vp_cell cB (n0, .inr (.inr (.inr (.inr f))))) := ha0
  have hc1 : H[a]? = some (vp_cell cB (n1, .inr (.inr (.inr (.inr g))))) := ha1
  have hn : (nI n0).toNatClampNeg = n0 := nI_clamp h31
  have hz : (0 : Int32).toInt = 0 := rfl
  obtain ⟨vm', X', step⟩ := X.arraycopy hexec hown hlink hnat hstat hini (src := a0) (dst := a) (cs := vp_cell cB (n0, .inr (.inr (.inr (.inr f))))) (cd := vp_cell cB (n1, .inr (.inr (.inr (.inr g))))) (srcPos := 0) (destPos := 0) (n := nI n0) (by rw [hT]; exact hc0) (by rw [hT]; exact hc1)
    (fun _ h => by cases h) (fun _ h => by cases h) (fun h => by cases h) (fun h => by cases h) k1 k1 k2 k2 rfl (by decide) (by decide) (nI_pos h31)
    (by rw [hz, nI_toInt h31]; show ¬ _ > ((arrV cB n0 (fun j => va_rf (f j))).slots.size : Int); rw [arrV_size]; omega)
    (by rw [hz, nI_toInt h31]; show ¬ _ > ((arrV cB n1 (fun j => va_rf (g j))).slots.size : Int); rw [arrV_size]; omega)
    (fun vm₁ hal i hi => by
      have hz0 : (0 : Int32).toNatClampNeg = 0 := rfl
      rw [hn] at hi
      rw [hz0]
      have e : (vp_cell cB (n0, .inr (.inr (.inr (.inr f))))).slots.getD (0 + i) .null = va_rf (f i) := by
        show (arrV cB n0 (fun j => va_rf (f j))).slots.getD _ _ = _
        rw [Array.getD_eq_getD_getElem?, Nat.zero_add, arrV_read _ _ hi]
        rfl
      rw [e]
      cases hy : f i with
      | none => exact ⟨rfl, trivial⟩
      | some y =>
        obtain ⟨k, g', hy2⟩ := hel i hi y hy
        obtain ⟨kI', hkI', -⟩ := hal.2.2 _ _ k3
        exact ⟨rfl, _, (show T.heap[y]? = some (vp_cell d.1 (k, .inl g')) by rw [hT]; exact hy2), (fun q h => by cases h), ⟨kI', hkI'⟩, ⟨kI', hkI'⟩, tl_asg vm₁ d.1⟩)
    (g := F0 m pc ls (.int (nI n0) :: .int 0 :: .ref a :: .int 0 :: .ref a0 :: rest)) rfl (by rw [hml]) (rest := rest) rfl (by rw [hb]; exact hdg) hframes (by show 2 * 0 + _ + _ ≤ _; omega)
  have e1 : copied (vp_cell cB (n0, .inr (.inr (.inr (.inr f))))) (vp_cell cB (n1, .inr (.inr (.inr (.inr g))))) 0 0 (nI n0) = vp_cell cB (n1, .inr (.inr (.inr (.inr (va_cpy f g 0 0 n0))))) := by
    rw [vp_cell_q, vp_cell_q, vp_cell_q]
    have hz0 : (0 : Int32).toNatClampNeg = 0 := rfl
    have h4 : (0 : Int32).toNatClampNeg + (nI n0).toNatClampNeg ≤ n0 := by rw [hz0, hn]; omega
    have := va_copied (fun z => va_rf z) cB cB (n1 := n1) (dp := (0 : Int32).toNatClampNeg) f g h4
    rw [hz0, hn] at this
    unfold copied
    rw [hz0, hn]
    exact this
  rw [e1] at X' step
  have hl : a < H.size := (Array.getElem?_eq_some_iff.mp hc1).1
  generalize hG : vp_cell cB (n1, .inr (.inr (.inr (.inr (va_cpy f g 0 0 n0))))) = G at X' step
  have hheap : ((T.setVm vm').setCell a G).heap = H.setIfInBounds a G := by rw [← hT]; rfl
  obtain ⟨t, a1, b1⟩ := kk (H.setIfInBounds a G) _ (show (H.setIfInBounds a G)[a]? = some _ by rw [hG]; simp [Array.getElem?_setIfInBounds, hl]) (by simp) (fun q hq => by simp [Array.getElem?_setIfInBounds, Ne.symm hq]) (fun x hx => by
    obtain ⟨z, -, hz⟩ := List.mem_map.mp hx
    rw [← hz]) _ hheap X'
  exact ⟨t, step t a1, b1⟩
end TLP
def tl_Pp (D : va_G) (d : hs_Dm) (cB : ClassId) (a v k : Nat) (f : Nat → Nat) (wd : Nat) (g : Nat → Int32) (sz : Nat) (U : State) : Prop := U.heap.size = sz ∧ va_at D vwCl (a, .inl (cB, k, .inr (.inr (.inr (.inr (fun j => some (f j))))))) U.heap ∧ va_at D vwCl (v, .inl (d.1, wd, .inl g)) U.heap ∧ (∀ j, j < k → ∃ (k' : Nat) (g' : Nat → Int32), va_at D vwCl (f j, .inl (d.1, k', .inl g')) U.heap) ∧ va_K D vwCl (hs_ty d) U ∧ va_K D vwCl [(d.1, .int), (cB, .array .int)] U ∧ tl_AO U
theorem tl_Pp_blind {D : va_G} {d : hs_Dm} {cB : ClassId} {a v k : Nat} {f : Nat → Nat} {wd : Nat} {g : Nat → Int32} {sz : Nat} {av : List Value} : FrameBlind (va_Pc av (tl_Pp D d cB a v k f wd g sz)) := fun a U g mk q => by
  obtain ⟨q0, q1, q2, q3, q4, q5, q6, q7⟩ := q
  exact ⟨q0, q1, q2, q3, q4, va_K.moved (u := U) (U := U.calling g mk a) (Vm.Alike.refl U.vm) q5, va_K.moved (u := U) (U := U.calling g mk a) (Vm.Alike.refl U.vm) q6, over_moved (u := U) (E := U.calling g mk a) (Vm.Alike.refl U.vm) q7⟩
set_option maxHeartbeats 4000000 in
set_option maxRecDepth 100000 in
/-- plus -/
theorem kX5_plus (l : Launch) (D : va_G) (d : hs_Dm) (cB : ClassId) (a v k : Nat) (f : Nat → Nat) (wd : Nat) (g : Nat → Int32) (sz : Nat) (hk : k ≤ 7) : Met l yX5_plus wsX5_plus ({ frames := 1, cells := 1, slots := 8, locals := 40 }) (va_Pc [.ref a, .ref v] (tl_Pp D d cB a v k f wd g sz)) (va_Qr (fun (_ : Unit) => True) (fun _ q t => sz ≤ q ∧ va_at D vwCl (q, .inl (cB, k + 1, .inr (.inr (.inr (.inr (fun j => some (if j = k then v else f j))))))) t.heap) (fun q => sz ≤ q)) 1 8 (fun q => sz ≤ q) := by
  refine Met.ofW (cc := cX5_plus) (maxL := 3) (ret := some (.array (.array .int))) (by decide) rfl ?_
  intro p e s m args below meth c s₁ B hml hv
  obtain ⟨rfl, hsz, ha, hv, hrows, hK, hKB, hAO⟩ := hv
  have hx := B.exec
  have hb := B.bytes
  have hr := B.returns
  have hts := atoms_spec (ws := wsX5_plus) B.pre
  have hown : s.vm.findClass RX5 = some m.cls := findClass_of_methodNamed B.named
  have hlocks := B.notSynchronized
  have hS : va_S (fun q => sz ≤ q) s.heap s.heap [] := va_S.rf
  have hl := lv_entry ([.ref a, .ref v]) (n := 3) (Nat.le_of_ble_eq_true rfl)
  rw [lg_entry_eq]
  generalize (lg_sl ([.ref a, .ref v]) ++ List.replicate (3 - (lg_sl ([.ref a, .ref v])).length) Slot.unset).toArray = ls at hl ⊢
  have hl : lv_has ls 3 [(0, .ref a), (1, .ref v)] := hl
  have hP : va_P D vwCl [(a, .inl (cB, k, .inr (.inr (.inr (.inr (fun j => some (f j)))))))] s.heap := fun x q hq => by cases x with | zero => cases hq; exact ha | succ x => simp at hq
  refine lv_aload_n hx hb dX5_plus_0 rfl (lv_at hl 0 rfl) ?_
  refine va_alen hx hb hKB hP 0 1 (v := nI k) rfl rfl rfl dX5_plus_1 ?_
  refine lv_iconst (v := 1) hx hb dX5_plus_2 (by decide) ?_
  refine lv_iadd hx hb dX5_plus_3 ?_
  rw [nI_1]
  have hcl : (nI (k + 1)).toNatClampNeg = k + 1 := nI_clamp (by omega)
  refine tl_newA (D := D) (cB := cB) hx hb hown (hts (.classLink RX5 16 "[I") (by decide +kernel)) hAO hKB (nI_pos (by omega)) hcl (by omega) (Nat.le_of_ble_eq_true rfl) (by show 0 + (k + 1) ≤ 8; omega) dX5_plus_4 (fun H1 e1 z1 o1 => ?_)
  have ha1 : va_at D vwCl (a, .inl (cB, k, .inr (.inr (.inr (.inr (fun j => some (f j))))))) H1 := ha.kept (o1 a ha.lt)
  have hv1 : va_at D vwCl (v, .inl (d.1, wd, .inl g)) H1 := hv.kept (o1 v hv.lt)
  have hS1 : va_S (fun q => sz ≤ q) s.heap H1 [] := rg_S hS (by omega) o1
  have hP1 : va_P D vwCl [(a, .inl (cB, k, .inr (.inr (.inr (.inr (fun j => some (f j)))))))] H1 := fun x q hq => by cases x with | zero => cases hq; exact ha1 | succ x => simp at hq
  have hA0 : sz ≤ s.heap.size := by omega
  generalize hq0 : s.heap.size = q0 at e1 z1 o1 hA0 ⊢
  have hne : a ≠ q0 := by
    intro z
    have := ha.lt
    rw [hq0, ← z] at this
    exact Nat.lt_irrefl _ this
  have hnv : v ≠ q0 := by
    intro z
    have := hv.lt
    rw [hq0, ← z] at this
    exact Nat.lt_irrefl _ this
  refine lv_astore_n (lv' := [(2, .ref q0), (0, .ref a), (1, .ref v)]) hx hb dX5_plus_7 rfl hl (by decide) rfl (fun ls hl => ?_)
  refine lv_aload_n hx hb dX5_plus_8 rfl (lv_at hl 1 rfl) ?_
  refine lv_iconst (v := 0) hx hb dX5_plus_9 (by decide) ?_
  refine lv_aload_n hx hb dX5_plus_10 rfl (lv_at hl 0 rfl) ?_
  refine lv_iconst (v := 0) hx hb dX5_plus_11 (by decide) ?_
  refine lv_aload_n hx hb dX5_plus_12 rfl (lv_at hl 1 rfl) ?_
  refine va_alen hx hb hKB hP1 0 1 (v := nI k) rfl rfl rfl dX5_plus_13 ?_
  refine tl_copyA (D := D) (d := d) (cB := cB) hx hb (by rw [hml]; exact hl.1.symm) hown (hts (.methodLink RX5 66 arraycopyName) (by decide +kernel)) (hts (.native arraycopyName) (by decide +kernel)) (hts (.static arraycopyName) (by decide +kernel)) (hts (.initialized "java/lang/System") (by decide +kernel)) hK hKB hAO ha1 e1 (by omega) (by omega) (fun i hi y hy => ?_) (Nat.le_of_ble_eq_true rfl) (Nat.le_of_ble_eq_true rfl) dX5_plus_14 (fun H2 L2 e2 z2 o2 b2 => ?_)
  · cases hy
    obtain ⟨k', g', h'⟩ := hrows i hi
    exact ⟨k', g', h'.kept (o1 _ (by rw [← hq0]; exact h'.lt))⟩
  have ha2 : va_at D vwCl (a, .inl (cB, k, .inr (.inr (.inr (.inr (fun j => some (f j))))))) H2 := ha1.kept (o2 a hne)
  have hv2 : va_at D vwCl (v, .inl (d.1, wd, .inl g)) H2 := hv1.kept (o2 v hnv)
  have hP2 : va_P D vwCl [(a, .inl (cB, k, .inr (.inr (.inr (.inr (fun j => some (f j)))))))] H2 := fun x q hq => by cases x with | zero => cases hq; exact ha2 | succ x => simp at hq
  have hS2 : va_S (fun q => sz ≤ q) s.heap H2 ([] ++ L2) := ⟨by have := hS1.1; omega, fun q h1 h2 => by rw [o2 q (fun z => h2 (by show sz ≤ q; omega))]; exact hS1.2.1 q h1 h2, fun x hx => by
    rcases List.mem_append.mp hx with z | z
    · cases z
    · show sz ≤ x.base
      rw [b2 x z]
      exact hA0⟩
  refine lv_aload_n hx hb dX5_plus_17 rfl (lv_at hl 0 rfl) ?_
  refine lv_aload_n hx hb dX5_plus_18 rfl (lv_at hl 1 rfl) ?_
  refine va_alen hx hb hKB hP2 0 1 (v := nI k) rfl rfl rfl dX5_plus_19 ?_
  refine lv_aload_n hx hb dX5_plus_20 rfl (lv_at hl 2 rfl) ?_
  refine tl_astA (D := D) (d := d) (x := (0, .inl (fun _ => 0))) hx hb hK hKB hAO e2 hv2 (vp_in_nI (by omega) (by omega)) dX5_plus_21 (fun H3 e3 z3 o3 => ?_)
  have hS3 := hS2.put (k := (nI k).toNatClampNeg) z3 o3 hA0
  have hfin : va_at D vwCl (q0, .inl (cB, k + 1, .inr (.inr (.inr (.inr (fun j => some (if j = k then v else f j))))))) H3 := by
    have h9 : H3[q0]? = some (vp_cell cB (k + 1, .inr (.inr (.inr (.inr (va_up (va_cpy (fun j => some (f j)) (fun _ => none) 0 0 k) (nI k).toNatClampNeg (some v))))))) := e3
    show H3[q0]? = some (vp_cell cB (k + 1, .inr (.inr (.inr (.inr (fun j => some (if j = k then v else f j)))))))
    rw [h9, nI_clamp (by omega), vp_cell_q, vp_cell_q]
    congr 1
    unfold arrV
    congr 1
    apply congrArg
    funext j
    have hj := j.isLt
    show va_rf (if j.val = k then some v else if 0 ≤ j.val ∧ j.val < 0 + k then some (f (0 + (j.val - 0))) else none) = va_rf (some (if j.val = k then v else f j.val))
    by_cases ej : j.val = k
    · rw [if_pos ej, if_pos ej]
    · rw [if_neg ej, if_neg ej, if_pos ⟨Nat.zero_le _, by omega⟩]
      simp
  refine lv_aload_n hx hb dX5_plus_22 rfl (lv_at hl 0 rfl) ?_
  refine W.widen (k := 1) (n := 8) (by decide) (by omega) ?_
  exact W.aret hx hb hr (Or.inr ⟨_, rfl⟩) (Or.inr ⟨_, rfl⟩) (fun t ht _ => ⟨⟨(), q0, rfl, trivial, hA0, by rw [ht]; exact hfin⟩, hS3.F ht⟩) hS3.2.2 dX5_plus_23
section TLQ
variable {p : Program} {l : Launch} {e : Env} {R : Room} {s : State} {m : MethodId} {args : Array Value} {below : List Frame} {meth : Method} {c0 : Code} {H : Heap} {locs : List Loc} {cells slots : Nat} {Q : State → Prop}
variable {cc : ByteArray} {pc : Nat} {ls : Array Slot} {rest : List Value} {D : va_G} {d : hs_Dm} {a0 w b : Nat} {cB : ClassId} {Lh L2 L : hs_Lo} {Ah A : Nat → Prop} {N : Nat} {xs : Nat → Int32} {n : Nat → Nat} {c σ : hs_St}
variable {bytes : ByteArray} {maxL nL na index : Nat} {ret : Option FieldType} {Ts : List Cond} {own : String} {st : List Value}
/-- a call of plus on one of Told's own -/
theorem tl_callp {k v : Nat} {g : Nat → Int32} (S : CallFix p m c0 cc nL s args Ts own) (cw : CallB R s args own index yX5_plus bytes maxL ret wsX5_plus ({ frames := 1, cells := 1, slots := 8, locals := 40 }) 1 8 na ∧ (Cond.static yX5_plus).before args s = true) (hk7 : n k ≤ 7) (h1 : 1 ≤ k) (h2 : k ≤ 7) (hKK : tl_K D d w b cB Lh L2 A N xs s s.heap) (hH : tl_H w b Ah A s.heap.size) (hB : tl_B D d a0 w b cB Lh Ah A L n c σ H) (hv : va_at D vwCl (v, .inl (d.1, tl_wd (10 + k), .inl g)) H) (hS : va_S A s.heap H locs) (hn : 2 = na) (hsize : ls.size = nL) (hrest : (rest.map fun v => v.category).sum ≤ 8) (hdg : decode cc pc = .ok (.invokestatic index, 3)) (hf : cells + 1 ≤ R.cells ∧ slots + 8 ≤ R.slots) (hst : st = .ref v :: .ref (L k 0) :: rest)
    (kk : ∀ (q : Nat) (H1 : Heap) (locs1 : List Loc), H.size ≤ q → va_at D vwCl (q, .inl (cB, n k + 1, .inr (.inr (.inr (.inr (fun j => some (if j = n k then v else L (10 + k) j))))))) H1 → va_at D vwCl (v, .inl (d.1, tl_wd (10 + k), .inl g)) H1 → tl_B D d a0 w b cB Lh Ah A L n c σ H1 → H.size ≤ H1.size → va_S A s.heap H1 locs1 → W p l e R s m args below meth c0 H1 locs1 (cells + 1) (slots + 8) Q (F0 m (pc + 3) ls (.ref q :: rest))) : W p l e R s m args below meth c0 H locs cells slots Q (F0 m pc ls st) := by
  subst hst
  have hM := kX5_plus l D d cB (L k 0) v (n k) (L (10 + k)) (tl_wd (10 + k)) g H.size hk7
  have hAz : ∀ q, H.size ≤ q → A q := fun q z => hH.1 q (Nat.le_trans hS.1 z)
  refine va_callr (va_runS S hM cw ⟨tl_Pp_blind, fun U hU hW2 => ⟨rfl, by rw [hU], by rw [hU]; exact tl_pQ hB h1 h2 0 _ rfl, by rw [hU]; exact hv, fun j hj => ⟨_, _, by rw [hU]; exact tl_pR hB h1 h2 hj 0 _ rfl⟩, va_K.moved hW2.alike hKK.1, va_K.moved hW2.alike hKK.2.1, over_moved hW2.alike hKK.2.2.1⟩⟩ rfl hn hsize rfl (lv_room hrest) hdg hf) hS (fun q _ z => hAz q z) hAz (fun u q t H1 locs1 ht _ _ hq hz hkq hS1 => ?_)
  obtain ⟨hq1, hq2⟩ := hq
  rw [ht] at hq2
  have o1 : ∀ x : Nat, x < H.size → H1[x]? = H[x]? := fun x hx => hkq x hx (by show ¬ H.size ≤ x; omega)
  exact kk q H1 locs1 hq1 hq2 (hv.kept (o1 v hv.lt)) (hB.all hz o1) hz hS1
end TLQ
