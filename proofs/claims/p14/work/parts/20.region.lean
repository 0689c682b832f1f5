/-! NEW HOUSES: a region of cells that grows, offset by offset -/
def rg (D : va_G) (C : Nat → va_E) (b m : Nat) (H : Heap) : Prop := ∀ j, j < m → va_at D vwCl (b + j, C j) H
theorem rg.one {D : va_G} {C : Nat → va_E} {b m : Nat} {H : Heap} (h : rg D C b m H) {o : Nat} (ho : o < m) : va_P D vwCl [(b + o, C o)] H := by
  intro n q hq
  cases n with
  | zero => cases hq; exact h o ho
  | succ n => simp at hq
theorem rg.put {D : va_G} {C : Nat → va_E} {b m o : Nat} {e : va_E} {H H1 : Heap} (h : rg D C b m H) (he : va_at D vwCl (b + o, e) H1) (oq : ∀ q : Nat, q ≠ b + o → H1[q]? = H[q]?) : rg D (va_up C o e) b m H1 := by
  intro j hj
  by_cases x : j = o
  · subst x
    simp only [va_up, if_true]
    exact he
  · simp only [va_up, if_neg x]
    exact (h j hj).kept (oq _ (by show b + j ≠ b + o; omega))
theorem rg.push {D : va_G} {C : Nat → va_E} {b m : Nat} {e : va_E} {H H1 : Heap} (h : rg D C b m H) (hz : H.size = b + m) (he : va_at D vwCl (b + m, e) H1) (oq : ∀ q : Nat, q < H.size → H1[q]? = H[q]?) : rg D (va_up C m e) b (m + 1) H1 := by
  intro j hj
  by_cases x : j = m
  · subst x
    simp only [va_up, if_true]
    exact he
  · simp only [va_up, if_neg x]
    exact (h j (by omega)).kept (oq _ (by show b + j < H.size; omega))
theorem rg.congr {D : va_G} {C C2 : Nat → va_E} {b m : Nat} {H : Heap} (h : rg D C b m H) (hc : ∀ j, j < m → C2 j = C j) : rg D C2 b m H := fun j hj => by rw [hc j hj]; exact h j hj
theorem rg.sub {D : va_G} {C : Nat → va_E} {b m m2 : Nat} {H : Heap} (h : rg D C b m H) (hm : m2 ≤ m) : rg D C b m2 H := fun j hj => h j (Nat.lt_of_lt_of_le hj hm)
theorem rg.kept {D : va_G} {C : Nat → va_E} {b m : Nat} {H H1 : Heap} (h : rg D C b m H) (oq : ∀ q : Nat, q < H.size → q < b + m → H1[q]? = H[q]?) : rg D C b m H1 := fun j hj => (h j hj).kept (oq _ (h j hj).lt (by show b + j < b + m; omega))
theorem rg.join {D : va_G} {C C2 : Nat → va_E} {b m k : Nat} {H : Heap} (h : rg D C b m H) (h2 : rg D C2 (b + m) k H) : rg D (fun j => if j < m then C j else C2 (j - m)) b (m + k) H := by
  intro j hj
  by_cases x : j < m
  · simp only [if_pos x]
    exact h j x
  · simp only [if_neg x]
    have := h2 (j - m) (by omega)
    rw [show b + m + (j - m) = b + j by omega] at this
    exact this
abbrev rg_A (b : Nat) : Nat → Prop := fun q => b ≤ q
def rg_C (D : va_G) (d : hs_Dm) (C : Nat → va_E) (b m : Nat) (U : State) : Prop := U.heap.size = b + m ∧ rg D C b m U.heap ∧ va_K D vwCl (hs_ty d) U
theorem rg_blind {D : va_G} {d : hs_Dm} {C : Nat → va_E} {b m : Nat} {av : List Value} : FrameBlind (va_Pc av (rg_C D d C b m)) := fun a U g mk q => by
  obtain ⟨q0, q1, q2, q3⟩ := q
  exact ⟨q0, q1, q2, va_K.moved (u := U) (U := U.calling g mk a) (Vm.Alike.refl U.vm) q3⟩
abbrev rg_M (l : Launch) (y : MethodName) (ws : List Cond) (rm : Room) (D : va_G) (d : hs_Dm) (C C2 : Nat → va_E) (b m m2 : Nat) (av : List Value) (mc ms : Nat) : Prop := Met l y ws rm (va_Pc av (rg_C D d C b m)) (va_Qv (fun _ : Unit => True) (fun _ t => rg_C D d C2 b m2 t) (rg_A b)) mc ms (rg_A b)
theorem rg_iarr {s : State} {D : va_G} {d : hs_Dm} (hK : va_K D vwCl (hs_ty d) s) : s.vm.findClass ("[" ++ (FieldType.int).toString) = some d.1 := (hK.2 0 _ rfl).2
section RGR
variable {p : Program} {l : Launch} {e : Env} {R : Room} {s : State} {m : MethodId} {args : Array Value} {below : List Frame} {meth : Method} {c : Code} {H : Heap} {locs : List Loc} {cells slots : Nat} {Q : State → Prop}
variable {cc : ByteArray} {pc : Nat} {ls : Array Slot} {rest : List Value} {D : va_G} {d : hs_Dm} {Cn : Nat → va_E} {b mm : Nat}
theorem rg_S {A : Nat → Prop} {H0 H1 : Heap} (hS : va_S A H0 H locs) (hz : H.size ≤ H1.size) (oq : ∀ q : Nat, q < H.size → H1[q]? = H[q]?) : va_S A H0 H1 locs := ⟨Nat.le_trans hS.1 hz, fun x h1 h2 => (oq x (Nat.lt_of_lt_of_le h1 hS.1)).trans (hS.2.1 x h1 h2), hS.2.2⟩
theorem rg_new (hexec : p.tables.exec = Jvm.exec) (hb : c.code = cc) {own C : String} {T : u_T} {N ci index : Nat} {Ts : List Cond} (hts : ∀ w ∈ Ts, w.before args s = true) (hin : ∀ w ∈ u_ws C T N, w ∈ Ts) (ty : Nat → FieldType) (hty : ∀ k, k < N → parseFieldDescriptor (T k).2.2.1 = some (ty k)) (hown : s.vm.findClass own = some m.cls) (hcl : (Cond.classLink own index C).before args s = true) (hinst : (Cond.instantiable C N).before args s = true) (hini : (Cond.initialized C).before args s = true)
    (hK : va_K D vwCl (hs_ty d) s) (hg : rg D Cn b mm H) (hz : H.size = b + mm) (hS : va_S (rg_A b) s.heap H locs) (hc : vwCl[ci]? = some (C, T, N)) {fs : List Value} (hfs : ∀ j, j < N → defaultValue (ty j) = vp_V fs j) (hcells : cells + 1 ≤ R.cells) (hslots : slots + N ≤ R.slots) (hdg : decode cc pc = .ok (.new index, 3))
    (kk : ∀ (H1 : Heap), rg D (va_up Cn mm (.inr (ci, fs))) b (mm + 1) H1 → H1.size = b + (mm + 1) → va_S (rg_A b) s.heap H1 locs → (∀ q : Nat, q < H.size → H1[q]? = H[q]?) →
      W p l e R s m args below meth c H1 locs (cells + 1) (slots + N) Q (F0 m (pc + 3) ls (.ref (b + mm) :: rest))) : W p l e R s m args below meth c H locs cells slots Q (F0 m pc ls rest) := by
  have hKn := hK.1 ci _ hc
  refine W.newcK hexec hb hown hcl hinst hini rfl hdg hcells hslots hKn.2.1 rfl fun H1 kC hkC e1 z1 o1 => ?_
  rw [hz] at e1
  have he : va_at D vwCl (b + mm, .inr (ci, fs)) H1 := ⟨_, hc, (u_born ty hts hin hKn hkC e1 hty).to hfs⟩
  have := kk H1 (hg.push hz he o1) (by omega) (rg_S hS (by omega) o1) o1
  rw [← hz] at this
  exact this
theorem rg_newa (hexec : p.tables.exec = Jvm.exec) (hb : c.code = cc) (harr : (Cond.arrayClass .int).before args s = true) (hK : va_K D vwCl (hs_ty d) s) (hg : rg D Cn b mm H) (hz : H.size = b + mm) (hS : va_S (rg_A b) s.heap H locs)
    {n : Int32} {N' : Nat} (hn : ¬ n < 0) (hN : n.toNatClampNeg = N') (hbytes : N' * 4 ≤ 536870912) (hcells : cells + 1 ≤ R.cells) (hslots : slots + N' ≤ R.slots) (hdg : decode cc pc = .ok (.newarray .int, 2))
    (kk : ∀ (H1 : Heap), rg D (va_up Cn mm (.inl (d.1, N', .inl (fun _ => 0)))) b (mm + 1) H1 → H1.size = b + (mm + 1) → va_S (rg_A b) s.heap H1 locs → W p l e R s m args below meth c H1 locs (cells + 1) (slots + N') Q (F0 m (pc + 2) ls (.ref (b + mm) :: rest))) : W p l e R s m args below meth c H locs cells slots Q (F0 m pc ls (.int n :: rest)) := by
  refine va_newaK hexec hb (atype := .int) harr (g := F0 m pc ls (.int n :: rest)) rfl hdg rfl hn hN hbytes hcells hslots hz fun H1 cA e1 z1 o1 hA hf => ?_
  have hcA : cA = d.1 := Option.some.inj (hf.symm.trans (rg_iarr hK))
  subst hcA
  have oq : ∀ q : Nat, q < H.size → H1[q]? = H[q]? := fun q hq => o1 q (by omega)
  exact kk H1 (hg.push hz (by show H1[b + mm]? = some (vp_cell _ _); rw [vp_cell_i]; exact e1) oq) (by omega) (rg_S hS (by omega) oq)
theorem rg_newq (hexec : p.tables.exec = Jvm.exec) (hb : c.code = cc) {own C : String} {index : Nat} (hown : s.vm.findClass own = some m.cls) (hclink : (Cond.classLink own index C).before args s = true) (hover : va_AO C s) (hK : va_K D vwCl (hs_ty d) s) (hg : rg D Cn b mm H) (hz : H.size = b + mm) (hS : va_S (rg_A b) s.heap H locs) (t0 : Nat) {cT : ClassId} (ht : (hs_ty d)[t0]? = some (cT, .object C))
    {n : Int32} {N' : Nat} (hn : ¬ n < 0) (hN : n.toNatClampNeg = N') (hbytes : N' * 4 ≤ 536870912) (hcells : cells + 1 ≤ R.cells) (hslots : slots + N' ≤ R.slots) (hdg : decode cc pc = .ok (.anewarray index, 3))
    (kk : ∀ (H1 : Heap), rg D (va_up Cn mm (.inl (cT, N', .inr (.inr (.inr (.inr (fun _ => none))))))) b (mm + 1) H1 → H1.size = b + (mm + 1) → va_S (rg_A b) s.heap H1 locs → W p l e R s m args below meth c H1 locs (cells + 1) (slots + N') Q (F0 m (pc + 3) ls (.ref (b + mm) :: rest))) : W p l e R s m args below meth c H locs cells slots Q (F0 m pc ls (.int n :: rest)) := by
  subst hN
  refine W.anew hexec hb hown hclink (va_AO.use hover) rfl hdg rfl hn hbytes hcells hslots fun cA kA comp f1 f2 f3 f4 => ?_
  generalize hH1 : H.push ({ cls := cA, slots := Array.replicate n.toNatClampNeg .null, vm := .none } : Cell) = H1
  have z1 : H1.size = H.size + 1 := by rw [← hH1, Array.size_push]
  have e1 : H1[H.size]? = some (arrV cA n.toNatClampNeg (fun _ => .null)) := by rw [← hH1, Array.getElem?_push_size, ← arrV_new]
  have o1 : ∀ q : Nat, q < H.size → H1[q]? = H[q]? := fun q hq => by rw [← hH1, Array.getElem?_push, if_neg (Nat.ne_of_lt hq)]
  obtain ⟨kA2, comp2, k1, k2, k3, k4⟩ := (hK.2 t0 _ ht).2
  have hcA : cA = cT := Option.some.inj (f1.symm.trans k4)
  subst hcA
  rw [hz] at e1
  have := kk H1 (hg.push hz (by show H1[b + mm]? = some (vp_cell _ _); rw [vp_cell_q]; exact e1) o1) (by omega) (rg_S hS (by omega) o1)
  rw [← hz] at this
  exact this
theorem rg_put (hexec : p.tables.exec = Jvm.exec) (hb : c.code = cc) {own ref C : String} {T : u_T} {N ci index : Nat} {Ts : List Cond} (hts : ∀ w ∈ Ts, w.before args s = true) (hin : ∀ w ∈ u_ws C T N, w ∈ Ts) (ty0 : Nat → FieldType) (hty : ∀ k, k < N → parseFieldDescriptor (T k).2.2.1 = some (ty0 k)) (hnm : ∀ a, a < N → ∀ b, b < N → a ≠ b → (T a).2.1 ≠ (T b).2.1) (hown : s.vm.findClass own = some m.cls) (hK : va_K D vwCl (hs_ty d) s) (hg : rg D Cn b mm H) (hz : H.size = b + mm) (hS0 : va_S (rg_A b) s.heap H locs) (o : Nat) (ho : o < mm) {fs : List Value} (he : Cn o = .inr (ci, fs)) (hc : vwCl[ci]? = some (C, T, N)) (j : Nat) (hj : j < N) (hlink : (Cond.fieldLink own index ref (T j).2.1 (T j).2.2.1).before args s = true) (hsame : ∀ x, s.fieldFound? (T j).1 (T j).2.1 (T j).2.2.1 = some x → s.fieldFound? ref (T j).2.1 (T j).2.2.1 = some x) (hfin : (T j).2.2.2 = false) {ty : FieldType} {v : Value} (hd : parseFieldDescriptor (T j).2.2.1 = some ty) (hn : narrow ty v = v) (hfit : fits ty v = true) (hl : j < fs.length)
    (hdg : decode cc pc = .ok (.putfield index, 3)) (kk : ∀ (H1 : Heap) (locs1 : List Loc), rg D (va_up Cn o (.inr (ci, fs.set j v))) b mm H1 → H1.size = b + mm → va_S (rg_A b) s.heap H1 locs1 → W p l e R s m args below meth c H1 locs1 cells slots Q (F0 m (pc + 3) ls rest)) : W p l e R s m args below meth c H locs cells slots Q (F0 m pc ls (v :: .ref (b + o) :: rest)) := by
  have hap := va_apart (own := own) hts hin ty0 hty hnm hK hc
  have hP := hg o ho
  rw [he] at hP
  obtain ⟨r, h1, cell, q1, q2, q3, q4⟩ := hP
  have hr : r = (C, T, N) := Option.some.inj (h1.symm.trans hc)
  subst hr
  obtain ⟨hS, hfc, kC, hkC, hkind⟩ := hK.1 ci _ hc
  obtain ⟨cf, kf, fi, f, hi, hsl⟩ := hS j hj
  have hlay := hts _ (hin _ (u_in_lay hj))
  unfold u_lay at hlay
  rw [if_neg (by rw [hfin]; decide)] at hlay
  have hst := (u_facts hfc hkC (u_lays hts hin hj) hi).1
  have h6 := u_store hfc hkC hkind hlay hi hd hn hfit
  refine W.putK hexec hb (f := f) ⟨hown, hlink, ⟨_, _, _, hsame _ hi⟩, hst⟩ (by rw [q2]; exact h6) q1 q3 (by rw [hsl]; exact k2_hasslot (q4 j hj)) rfl rfl hdg fun H' e1 e2 e3 => ?_
  rw [hsl] at e1 ⊢
  exact kk H' _ (hg.put ⟨_, hc, t_OB.to (V := updV (vp_V fs) j v) ⟨_, e1, q2, q3, t_set q4 hap hj v⟩ (fun n _ => vp_updV_set hl v n)⟩ e3) (by omega) (hS0.put e2 e3 (Nat.le_add_right _ _))
theorem rg_putF (hexec : p.tables.exec = Jvm.exec) (hb : c.code = cc) {own ref C : String} {T : u_T} {N ci index : Nat} {Ts : List Cond} (hts : ∀ w ∈ Ts, w.before args s = true) (hin : ∀ w ∈ u_ws C T N, w ∈ Ts) (ty0 : Nat → FieldType) (hty : ∀ k, k < N → parseFieldDescriptor (T k).2.2.1 = some (ty0 k)) (hnm : ∀ a, a < N → ∀ b, b < N → a ≠ b → (T a).2.1 ≠ (T b).2.1) (hown : s.vm.findClass own = some m.cls) (hK : va_K D vwCl (hs_ty d) s) (hg : rg D Cn b mm H) (hz : H.size = b + mm) (hS0 : va_S (rg_A b) s.heap H locs) (o : Nat) (ho : o < mm) {fs : List Value} (he : Cn o = .inr (ci, fs)) (hc : vwCl[ci]? = some (C, T, N)) (j : Nat) (hj : j < N) (hlink : (Cond.fieldLink own index ref (T j).2.1 (T j).2.2.1).before args s = true) (hsame : ∀ x, s.fieldFound? (T j).1 (T j).2.1 (T j).2.2.1 = some x → s.fieldFound? ref (T j).2.1 (T j).2.2.1 = some x) (hfin : (T j).2.2.2 = true) (hin2 : meth.name = "<init>") (hdecl : (T j).1 = own) {ty : FieldType} {v : Value} (hd : parseFieldDescriptor (T j).2.2.1 = some ty) (hn : narrow ty v = v) (hfit : fits ty v = true) (hl : j < fs.length)
    (hdg : decode cc pc = .ok (.putfield index, 3)) (kk : ∀ (H1 : Heap) (locs1 : List Loc), rg D (va_up Cn o (.inr (ci, fs.set j v))) b mm H1 → H1.size = b + mm → va_S (rg_A b) s.heap H1 locs1 → W p l e R s m args below meth c H1 locs1 cells slots Q (F0 m (pc + 3) ls rest)) : W p l e R s m args below meth c H locs cells slots Q (F0 m pc ls (v :: .ref (b + o) :: rest)) := by
  have hap := va_apart (own := own) hts hin ty0 hty hnm hK hc
  have hP := hg o ho
  rw [he] at hP
  obtain ⟨r, h1, cell, q1, q2, q3, q4⟩ := hP
  have hr : r = (C, T, N) := Option.some.inj (h1.symm.trans hc)
  subst hr
  obtain ⟨hS, hfc, kC, hkC, hkind⟩ := hK.1 ci _ hc
  obtain ⟨cf, kf, fi, f, hi, hsl⟩ := hS j hj
  have hlay := hts _ (hin _ (u_in_lay hj))
  unfold u_lay at hlay
  rw [if_pos hfin] at hlay
  have hst := (u_facts hfc hkC (u_lays hts hin hj) hi).1
  have hcf : m.cls = cf := by
    obtain ⟨_, _, c', _, _, _, -, -, hf', -, -, -, hown2, -⟩ := Cond.laysFinal_spec hlay
    have e1 : c' = cf := by have := hi.symm.trans hf'; simp at this; exact this.1.symm
    rw [hdecl] at hown2
    rw [← e1]; exact Option.some.inj (hown.symm.trans hown2)
  have h6 := u_fits hfc hkC hkind (Or.inr hlay) hi hd hn hfit
  refine W.putFinK hexec hb hown hlink (hsame _ hi) hst hcf hin2 (by rw [q2]; exact h6) q1 q3 (by rw [hsl]; exact k2_hasslot (q4 j hj)) rfl rfl hdg fun H' e1 e2 e3 => ?_
  rw [hsl] at e1 ⊢
  exact kk H' _ (hg.put ⟨_, hc, t_OB.to (V := updV (vp_V fs) j v) ⟨_, e1, q2, q3, t_set q4 hap hj v⟩ (fun n _ => vp_updV_set hl v n)⟩ e3) (by omega) (hS0.put e2 e3 (Nat.le_add_right _ _))
theorem rg_iast (hexec : p.tables.exec = Jvm.exec) (hb : c.code = cc) (hK : va_K D vwCl (hs_ty d) s) (hg : rg D Cn b mm H) (hz : H.size = b + mm) (hS : va_S (rg_A b) s.heap H locs) (o : Nat) (ho : o < mm) {n : Nat} {f : Nat → Int32} (he : Cn o = .inl (d.1, n, .inl f)) {i x : Int32} (hin : vp_in i n) (hdg : decode cc pc = .ok (.iastore, 1))
    (kk : ∀ (H1 : Heap) (locs1 : List Loc), rg D (va_up Cn o (.inl (d.1, n, .inl (upd f i.toNatClampNeg x)))) b mm H1 → H1.size = b + mm → va_S (rg_A b) s.heap H1 locs1 → W p l e R s m args below meth c H1 locs1 cells slots Q (F0 m (pc + 1) ls rest)) : W p l e R s m args below meth c H locs cells slots Q (F0 m pc ls (.int x :: .int i :: .ref (b + o) :: rest)) := by
  have hP : va_at D vwCl (b + o, .inl (d.1, n, .inl f)) H := by rw [← he]; exact hg o ho
  refine W.iast hexec hb hP ((hK.2 0 _ rfl).1 n (fun j => .int (f j))) (fun q => by cases q) (by show ¬ (i < 0 ∨ (arrV _ _ _).slots.size ≤ _); rw [arrV_size]; exact hin) rfl rfl hdg fun H1 e z oq => ?_
  refine kk H1 _ (hg.put ?_ oq) (by omega) (hS.put z oq (Nat.le_add_right _ _))
  show H1[b + o]? = some (vp_cell _ _)
  rw [e]
  rw [vp_cell_i, vp_cell_i, arrV_store]
  congr 2
  funext z
  by_cases hq : z = i.toNatClampNeg
  · subst hq
    simp [updV, upd]
  · simp [updV, upd, hq]
theorem rg_astq (hexec : p.tables.exec = Jvm.exec) (hb : c.code = cc) (hK : va_K D vwCl (hs_ty d) s) (hg : rg D Cn b mm H) (hz : H.size = b + mm) (hS : va_S (rg_A b) s.heap H locs) (o v t0 ci : Nat) (ho : o < mm) (hv9 : v < mm) {cA : ClassId} {r : vw_C} {n : Nat} {vs : List Value} {f : Nat → Option Nat} (he : Cn o = .inl (cA, n, .inr (.inr (.inr (.inr f))))) (ht : (hs_ty d)[t0]? = some (cA, .object r.1)) (hv : Cn v = .inr (ci, vs)) (hc : vwCl[ci]? = some r) {i : Int32} (hin : vp_in i n) (hdg : decode cc pc = .ok (.aastore, 1))
    (kk : ∀ (H1 : Heap) (locs1 : List Loc), rg D (va_up Cn o (.inl (cA, n, .inr (.inr (.inr (.inr (va_up f i.toNatClampNeg (some (b + v))))))))) b mm H1 → H1.size = b + mm → va_S (rg_A b) s.heap H1 locs1 → W p l e R s m args below meth c H1 locs1 cells slots Q (F0 m (pc + 1) ls rest)) : W p l e R s m args below meth c H locs cells slots Q (F0 m pc ls (.ref (b + v) :: .int i :: .ref (b + o) :: rest)) := by
  have hlt : i.toNatClampNeg < n := Nat.not_le.mp fun q => hin (Or.inr q)
  have h0 : ¬ i < 0 := fun q => hin (Or.inl q)
  have hPo : va_at D vwCl (b + o, .inl (cA, n, .inr (.inr (.inr (.inr f))))) H := by rw [← he]; exact hg o ho
  have hPv := hg v hv9
  rw [hv] at hPv
  obtain ⟨r', hr', cellV, g1, g2, g3, -⟩ := hPv
  have hcls := (hK.1 ci r hc).2
  obtain ⟨kA, comp, k1, k2, k3, -⟩ := (hK.2 t0 _ ht).2
  have hcomp : comp = D.1 ci := Option.some.inj (k3.symm.trans hcls.1)
  subst hcomp
  obtain ⟨kC, hkC, -⟩ := hcls.2
  refine W.aast hexec hb hPo (fun q h => by cases h) (fun h => by cases h) k1 k2 rfl hkC ⟨h0, by show _ < (arrV _ _ _).slots.size; rw [arrV_size]; exact hlt⟩ g1 (fun q h => by rw [g3] at h; cases h) (by rw [g2]; exact hkC) (by rw [g2]; exact va_assign hcls) rfl rfl hdg fun H1 e z oq => ?_
  refine kk H1 _ (hg.put ?_ oq) (by omega) (hS.put z oq (Nat.le_add_right _ _))
  show H1[b + o]? = some (vp_cell _ _)
  rw [e]
  rw [vp_cell_q, vp_cell_q, arrV_store]
  congr 2
  funext q
  by_cases hq : q = i.toNatClampNeg
  · subst hq
    simp [updV, va_up, va_rf]
  · simp [updV, va_up, hq]
/-- a constructor's call on the cell that lies last: its region comes behind the rest, which stays -/
theorem rg_callI {y : MethodName} {bytes : ByteArray} {maxL nL n index mc ms k : Nat} {ws : List Cond} {rm : Room} {Ts : List Cond} {own : String} {As st : List Value} {C0 C2 : Nat → va_E} (S : CallFix p m c cc nL s args Ts own) (hM : rg_M l y ws rm D d C0 C2 (b + mm) 1 k (.ref (b + mm) :: As) mc ms) (cw : CallB R s args own index y bytes maxL none ws rm mc ms n ∧ y.name = "<init>" ∧ (Cond.instanceMethod y).before args s = true) (hK : va_K D vwCl (hs_ty d) s) (hg : rg D Cn b (mm + 1) H) (h0 : C0 0 = Cn mm) (hz : H.size = b + (mm + 1)) (hS : va_S (rg_A b) s.heap H locs) (hn : As.length = n) (hsize : ls.size = nL) (hrest : (rest.map fun v => v.category).sum ≤ 8) (hdg : decode cc pc = .ok (.invokespecial index, 3)) (hf : cells + mc ≤ R.cells ∧ slots + ms ≤ R.slots) (hst : st = As.reverse ++ .ref (b + mm) :: rest)
    (kk : ∀ (H1 : Heap) (locs1 : List Loc), rg D (fun j => if j < mm then Cn j else C2 (j - mm)) b (mm + k) H1 → H1.size = b + (mm + k) → va_S (rg_A b) s.heap H1 locs1 → W p l e R s m args below meth c H1 locs1 (cells + mc) (slots + ms) Q (F0 m (pc + 3) ls rest)) : W p l e R s m args below meth c H locs cells slots Q (F0 m pc ls st) := by
  subst hst
  have hlast : rg D C0 (b + mm) 1 H := fun j hj => by
    have e : j = 0 := by omega
    subst e
    rw [h0]
    exact hg mm (by omega)
  refine va_callv (va_runI S hM cw ⟨rg_blind, fun U hU hW2 => ⟨rfl, by rw [hU]; omega, by rw [hU]; exact hlast, va_K.moved hW2.alike hK⟩⟩ rfl hn hsize rfl (lv_room hrest) hdg hf) hS (fun q _ h => Nat.le_trans (Nat.le_add_right b mm) h) (fun q h => Nat.le_trans (Nat.le_add_right b mm) h) (fun u t H1 locs1 ht _ _ hB hzz hq hS1 => ?_)
  obtain ⟨b1, b2, -⟩ := hB
  rw [ht] at b1 b2
  exact kk H1 locs1 (rg.join ((hg.sub (Nat.le_succ mm)).kept (fun q h1 h2 => hq q h1 (by show ¬ b + mm ≤ q; omega))) b2) (by omega) hS1
end RGR
