/-! THE WORLD OF ONE HOUSE: its 67 objects by (kind, number). Kinds: 0 the house, 1 2 3 its rows of persons, figures, rooms, 4 a person, 5 6 7 8 a person's fame, trend, low, high, 9 a figure, 10 a room. The state: kind, number, slot. A figure's head and body stand as the person's number. -/
abbrev cFi : Nat := 0
abbrev cHo : Nat := 1
abbrev cPe : Nat := 2
abbrev cRo : Nat := 3
abbrev hs_St : Type := Nat → Nat → Nat → Int32
abbrev hs_Lo : Type := Nat → Nat → Nat
abbrev hs_Dm : Type := ClassId × ClassId × ClassId × ClassId × Nat
def hs_sg (σ : hs_St) (k i j : Nat) (v : Int32) : hs_St := fun a b c => if a = k ∧ b = i ∧ c = j then v else σ a b c
def hs_ix (k i : Nat) : Prop := (k < 4 ∧ i = 0) ∨ (4 ≤ k ∧ k < 9 ∧ i < 10) ∨ (k = 9 ∧ i < 8) ∨ (k = 10 ∧ i < 5)
theorem hs_ix0 : hs_ix 0 0 := Or.inl ⟨by decide, rfl⟩
theorem hs_ix1 : hs_ix 1 0 := Or.inl ⟨by decide, rfl⟩
theorem hs_ix2 : hs_ix 2 0 := Or.inl ⟨by decide, rfl⟩
theorem hs_ix3 : hs_ix 3 0 := Or.inl ⟨by decide, rfl⟩
theorem hs_ix4 {i : Nat} (h : i < 10) : hs_ix 4 i := Or.inr (Or.inl ⟨by decide, by decide, h⟩)
theorem hs_ix5 {i : Nat} (h : i < 10) : hs_ix 5 i := Or.inr (Or.inl ⟨by decide, by decide, h⟩)
theorem hs_ix6 {i : Nat} (h : i < 10) : hs_ix 6 i := Or.inr (Or.inl ⟨by decide, by decide, h⟩)
theorem hs_ix7 {i : Nat} (h : i < 10) : hs_ix 7 i := Or.inr (Or.inl ⟨by decide, by decide, h⟩)
theorem hs_ix8 {i : Nat} (h : i < 10) : hs_ix 8 i := Or.inr (Or.inl ⟨by decide, by decide, h⟩)
theorem hs_ix9 {i : Nat} (h : i < 8) : hs_ix 9 i := Or.inr (Or.inr (Or.inl ⟨rfl, h⟩))
theorem hs_ix10 {i : Nat} (h : i < 5) : hs_ix 10 i := Or.inr (Or.inr (Or.inr ⟨rfl, h⟩))
def hs_ct (d : hs_Dm) (L : hs_Lo) (σ : hs_St) (k i : Nat) : va_E := match k with
  | 0 => .inr (cHo, [.ref (L 1 0), .ref (L 2 0), .ref (L 3 0), .int (σ 0 0 3), .int (σ 0 0 4), .int (σ 0 0 5), .int (σ 0 0 6), .int (σ 0 0 7), .int (σ 0 0 8), .int (σ 0 0 9), .int (σ 0 0 10)])
  | 1 => .inl (d.2.1, 10, .inr (.inr (.inr (.inr (fun j => some (L 4 j))))))
  | 2 => .inl (d.2.2.1, 8, .inr (.inr (.inr (.inr (fun j => some (L 9 j))))))
  | 3 => .inl (d.2.2.2.1, 5, .inr (.inr (.inr (.inr (fun j => some (L 10 j))))))
  | 4 => .inr (cPe, [.int (nI i), .ref (L 5 i), .ref (L 6 i), .ref (L 7 i), .ref (L 8 i), .int (σ 4 i 5), .int (σ 4 i 6), .int (σ 4 i 7)])
  | 5 => .inl (d.1, 3, .inl (σ 5 i))
  | 6 => .inl (d.1, 3, .inl (σ 6 i))
  | 7 => .inl (d.1, 6, .inl (σ 7 i))
  | 8 => .inl (d.1, 6, .inl (σ 8 i))
  | 9 => .inr (cFi, [.ref (L 4 (σ 9 i 0).toNatClampNeg), .ref (L 4 (σ 9 i 1).toNatClampNeg), .int (σ 9 i 2), .int (σ 9 i 3), .int (σ 9 i 4), .int (σ 9 i 5), .int (σ 9 i 6), .int (σ 9 i 7), .int (σ 9 i 8), .int (σ 9 i 9), .int (σ 9 i 10)])
  | _ => .inr (cRo, [.int (σ 10 i 0), .int (σ 10 i 1)])
theorem hs_ct_congr {d : hs_Dm} {L : hs_Lo} {σ τ : hs_St} {k i : Nat} (hx : hs_ix k i) (h : ∀ c, τ k i c = σ k i c) : hs_ct d L τ k i = hs_ct d L σ k i := by
  have hf : τ k i = σ k i := funext h
  match k, hx, hf with
  | 0, hx, hf =>
    have hi : i = 0 := by unfold hs_ix at hx; omega
    subst hi
    simp only [hs_ct, hf]
  | 1, _, _ => rfl
  | 2, _, _ => rfl
  | 3, _, _ => rfl
  | 4, _, hf => simp only [hs_ct, hf]
  | 5, _, hf => simp only [hs_ct, hf]
  | 6, _, hf => simp only [hs_ct, hf]
  | 7, _, hf => simp only [hs_ct, hf]
  | 8, _, hf => simp only [hs_ct, hf]
  | 9, _, hf => simp only [hs_ct, hf]
  | 10, _, hf => simp only [hs_ct, hf]
  | k + 11, hx, _ => unfold hs_ix at hx; omega
def hs_W (D : va_G) (d : hs_Dm) (L : hs_Lo) (σ : hs_St) (A : Nat → Prop) (H : Heap) : Prop := (∀ k i, hs_ix k i → va_at D vwCl (L k i, hs_ct d L σ k i) H) ∧ (∀ k i, hs_ix k i → A (L k i)) ∧ (∀ k i k' i', hs_ix k i → hs_ix k' i' → L k i = L k' i' → k = k' ∧ i = i')
theorem hs_W.one {D : va_G} {d : hs_Dm} {L : hs_Lo} {σ : hs_St} {A : Nat → Prop} {H : Heap} (h : hs_W D d L σ A H) {k i : Nat} (hx : hs_ix k i) : va_P D vwCl [(L k i, hs_ct d L σ k i)] H := by
  intro n q hq
  cases n with
  | zero => cases hq; exact h.1 k i hx
  | succ n => simp at hq
theorem hs_W.put {D : va_G} {d : hs_Dm} {L : hs_Lo} {σ τ : hs_St} {A : Nat → Prop} {H H1 : Heap} (h : hs_W D d L σ A H) {k i : Nat} (hx : hs_ix k i) (he : va_at D vwCl (L k i, hs_ct d L τ k i) H1) (oq : ∀ q : Nat, q ≠ L k i → H1[q]? = H[q]?) (hs : ∀ k' i', ¬ (k' = k ∧ i' = i) → ∀ c, τ k' i' c = σ k' i' c) : hs_W D d L τ A H1 := by
  refine ⟨fun k' i' hx' => ?_, h.2.1, h.2.2⟩
  by_cases e : k' = k ∧ i' = i
  · obtain ⟨rfl, rfl⟩ := e
    exact he
  · rw [hs_ct_congr hx' (hs k' i' e)]
    exact (h.1 k' i' hx').kept (oq _ (fun z => e (h.2.2 _ _ _ _ hx' hx z)))
theorem hs_W.kept {D : va_G} {d : hs_Dm} {L : hs_Lo} {σ : hs_St} {A : Nat → Prop} {H H1 : Heap} (h : hs_W D d L σ A H) (hq : ∀ q : Nat, q < H.size → A q → H1[q]? = H[q]?) : hs_W D d L σ A H1 := ⟨fun k i hx => (h.1 k i hx).kept (hq _ (h.1 k i hx).lt (h.2.1 k i hx)), h.2.1, h.2.2⟩
theorem hs_off (σ : hs_St) (k i j : Nat) (v : Int32) : ∀ k' i', ¬ (k' = k ∧ i' = i) → ∀ c, hs_sg σ k i j v k' i' c = σ k' i' c := by
  intro k' i' h c
  unfold hs_sg
  rw [if_neg (fun q => h ⟨q.1, q.2.1⟩)]
abbrev hs_ty (d : hs_Dm) : List (ClassId × FieldType) := [(d.1, .int), (d.2.1, .object "Waxrow$Person"), (d.2.2.1, .object "Waxrow$Figure"), (d.2.2.2.1, .object "Waxrow$Room")]
def hs_B (D : va_G) (d : hs_Dm) (L : hs_Lo) (σ : hs_St) (A : Nat → Prop) (U : State) : Prop := hs_W D d L σ A U.heap ∧ va_K D vwCl (hs_ty d) U
/-- what each step of a figure needs -/
def hs_wk : Nat → Int32 := fun j => match j with
  | 0 => 4
  | 1 => 10
  | 2 => 3
  | 3 => 2
  | 4 => 12
  | _ => 5
/-- what stays all along: links between the nested ones, the constant row of work -/
def hs_E (tw : Nat) (A : Nat → Prop) (U : State) : Prop := va_Nw (.methodLinkNest RX1 87 yX4_checkIndex RX4) U ∧ va_Nw (.methodLinkNest RX1 35 yX3_init RX4) U ∧ va_Nw (.fieldLinkNest RX0 46 "Waxrow" "WORK_OF_STEP" "[I" "Waxrow") U ∧ va_Z "Waxrow" "WORK_OF_STEP" "[I" (.ref tw) A U U.heap ∧ va_T .int tw 6 (fun j => .int (hs_wk j)) A U U.heap
theorem hs_E.on {tw : Nat} {A : Nat → Prop} {s U : State} {H : Heap} {locs : List Loc} (h : hs_E tw A s) (hW : s.WarmedH U.vm) (hU : U.heap = H) (hS : va_S A s.heap H locs) : hs_E tw A U := by
  obtain ⟨h1, h2, h3, h4, h5⟩ := h
  refine ⟨va_Nw.warmM hW h1, va_Nw.warmM hW h2, va_Nw.warmF hW h3, ?_, ?_⟩
  · rw [hU]
    exact (va_Z.moved hW.alike h4).kept (fun a g1 g2 => hS.2.1 a g1 g2)
  · rw [hU]
    exact (va_T.moved hW.alike h5).kept (fun a g1 g2 => hS.2.1 a g1 g2)
def hs_C (D : va_G) (d : hs_Dm) (L : hs_Lo) (σ : hs_St) (A : Nat → Prop) (U : State) : Prop := hs_B D d L σ A U ∧ hs_E d.2.2.2.2 A U
theorem hs_blind {D : va_G} {d : hs_Dm} {L : hs_Lo} {σ : hs_St} {A : Nat → Prop} {av : List Value} : FrameBlind (va_Pc av (hs_C D d L σ A)) := fun a U g mk q => by
  obtain ⟨q0, ⟨qW, qK⟩, q1, q2, q3, q4, q5⟩ := q
  exact ⟨q0, ⟨qW, va_K.moved (u := U) (U := U.calling g mk a) (Vm.Alike.refl U.vm) qK⟩, va_Nw.same (u := U) (U := U.calling g mk a) rfl rfl q1, va_Nw.same (u := U) (U := U.calling g mk a) rfl rfl q2, va_Nw.same (u := U) (U := U.calling g mk a) rfl rfl q3, va_Z.moved (u := U) (U := U.calling g mk a) (Vm.Alike.refl U.vm) q4, va_T.moved (u := U) (U := U.calling g mk a) (Vm.Alike.refl U.vm) q5⟩
/-- contracts over a house: an int (or boolean) answer, none, an object of the house -/
abbrev hs_Mi (l : Launch) (y : MethodName) (ws : List Cond) (rm : Room) (D : va_G) (d : hs_Dm) (L : hs_Lo) (σ : hs_St) (A : Nat → Prop) (av : List Value) (post : Int32 → hs_St → Prop) : Prop := Met l y ws rm (va_Pc av (hs_C D d L σ A)) (va_Qi post (fun τ t => hs_B D d L τ A t) A) 0 0 A
abbrev hs_Mv (l : Launch) (y : MethodName) (ws : List Cond) (rm : Room) (D : va_G) (d : hs_Dm) (L : hs_Lo) (σ : hs_St) (A : Nat → Prop) (av : List Value) (post : hs_St → Prop) : Prop := Met l y ws rm (va_Pc av (hs_C D d L σ A)) (va_Qv post (fun τ t => hs_B D d L τ A t) A) 0 0 A
abbrev hs_Mr (l : Launch) (y : MethodName) (ws : List Cond) (rm : Room) (D : va_G) (d : hs_Dm) (L : hs_Lo) (σ : hs_St) (A : Nat → Prop) (av : List Value) (ad : Nat) : Prop := Met l y ws rm (va_Pc av (hs_C D d L σ A)) (va_Qr (S := Unit) (fun _ => True) (fun _ a t => a = ad ∧ hs_B D d L σ A t) A) 0 0 A
section HSR
variable {p : Program} {l : Launch} {e : Env} {R : Room} {s : State} {m : MethodId} {args : Array Value} {below : List Frame} {meth : Method} {c : Code} {H : Heap} {locs : List Loc} {cells slots : Nat} {Q : State → Prop}
variable {cc : ByteArray} {pc : Nat} {ls : Array Slot} {rest : List Value} {D : va_G} {d : hs_Dm} {L : hs_Lo} {σ : hs_St} {A : Nat → Prop} {H0 : Heap}
theorem hs_put (hexec : p.tables.exec = Jvm.exec) (hb : c.code = cc) {own ref C : String} {T : u_T} {N ci index : Nat} {Ts : List Cond} (hts : ∀ w ∈ Ts, w.before args s = true) (hin : ∀ w ∈ u_ws C T N, w ∈ Ts) (ty0 : Nat → FieldType) (hty : ∀ k, k < N → parseFieldDescriptor (T k).2.2.1 = some (ty0 k)) (hnm : ∀ a, a < N → ∀ b, b < N → a ≠ b → (T a).2.1 ≠ (T b).2.1) (hown : s.vm.findClass own = some m.cls) (hK : va_K D vwCl (hs_ty d) s) (hW : hs_W D d L σ A H) (hS0 : va_S A H0 H locs) (k i : Nat) (hx : hs_ix k i) {fs : List Value} (he : hs_ct d L σ k i = .inr (ci, fs)) (hc : vwCl[ci]? = some (C, T, N)) (j : Nat) (hj : j < N) (hlink : (Cond.fieldLink own index ref (T j).2.1 (T j).2.2.1).before args s = true) (hsame : ∀ x, s.fieldFound? (T j).1 (T j).2.1 (T j).2.2.1 = some x → s.fieldFound? ref (T j).2.1 (T j).2.2.1 = some x) (hfin : (T j).2.2.2 = false) {ty : FieldType} {v : Value} (hd : parseFieldDescriptor (T j).2.2.1 = some ty) (hn : narrow ty v = v) (hfit : fits ty v = true) (hl : j < fs.length) (τ : hs_St) (hτ : hs_ct d L τ k i = .inr (ci, fs.set j v)) (hoff : ∀ k' i', ¬ (k' = k ∧ i' = i) → ∀ c, τ k' i' c = σ k' i' c)
    (hdg : decode cc pc = .ok (.putfield index, 3)) (kk : ∀ (H1 : Heap) (locs1 : List Loc), hs_W D d L τ A H1 → va_S A H0 H1 locs1 → W p l e R s m args below meth c H1 locs1 cells slots Q (F0 m (pc + 3) ls rest)) : W p l e R s m args below meth c H locs cells slots Q (F0 m pc ls (v :: .ref (L k i) :: rest)) := by
  have hap := va_apart (own := own) hts hin ty0 hty hnm hK hc
  have hP := hW.1 k i hx
  rw [he] at hP
  obtain ⟨r, h1, cell, q1, q2, q3, q4⟩ := hP
  have hr : r = (C, T, N) := Option.some.inj (h1.symm.trans hc)
  subst hr
  obtain ⟨hS, hfc, kC, hkC, hkind⟩ := hK.1 ci _ hc
  obtain ⟨cf, kf, fi, f, hi, hsl⟩ := hS j hj
  have hlay := hts _ (hin _ (u_in_lay hj))
  unfold u_lay at hlay
  rw [if_neg (by rw [hfin]; decide)] at hlay
  have hst := (u_facts hfc hkC (u_lays hts hin hj) hi).1
  have h6 := u_store hfc hkC hkind hlay hi hd hn hfit
  refine W.putK hexec hb (f := f) ⟨hown, hlink, ⟨_, _, _, hsame _ hi⟩, hst⟩ (by rw [q2]; exact h6) q1 q3 (by rw [hsl]; exact k2_hasslot (q4 j hj)) rfl rfl hdg fun H' e1 e2 e3 => ?_
  rw [hsl] at e1 ⊢
  refine kk H' _ (hW.put hx ?_ e3 hoff) (hS0.put e2 e3 (hW.2.1 k i hx))
  rw [hτ]
  exact ⟨_, hc, t_OB.to (V := updV (vp_V fs) j v) ⟨_, e1, q2, q3, t_set q4 hap hj v⟩ (fun n _ => vp_updV_set hl v n)⟩
theorem hs_iald (hexec : p.tables.exec = Jvm.exec) (hb : c.code = cc) (hK : va_K D vwCl (hs_ty d) s) (hW : hs_W D d L σ A H) (k q : Nat) (hx : hs_ix k q) {n : Nat} {f : Nat → Int32} (he : hs_ct d L σ k q = .inl (d.1, n, .inl f)) {i : Int32} (hin : vp_in i n) (hdg : decode cc pc = .ok (.iaload, 1))
    (kk : W p l e R s m args below meth c H locs cells slots Q (F0 m (pc + 1) ls (.int (f i.toNatClampNeg) :: rest))) : W p l e R s m args below meth c H locs cells slots Q (F0 m pc ls (.int i :: .ref (L k q) :: rest)) :=
  va_iald hexec hb hK (hW.one hx) 0 0 (cA := d.1) (n := n) (f := f) (by rw [he]; rfl) rfl hin hdg kk
theorem hs_aald (hexec : p.tables.exec = Jvm.exec) (hb : c.code = cc) (hK : va_K D vwCl (hs_ty d) s) (hW : hs_W D d L σ A H) (k t0 : Nat) (hx : hs_ix k 0) {cA : ClassId} {C : String} {n : Nat} {g : Nat → Nat} (he : hs_ct d L σ k 0 = .inl (cA, n, .inr (.inr (.inr (.inr (fun j => some (g j))))))) (ht : (hs_ty d)[t0]? = some (cA, .object C)) {i : Int32} (hin : vp_in i n) (hdg : decode cc pc = .ok (.aaload, 1))
    (kk : W p l e R s m args below meth c H locs cells slots Q (F0 m (pc + 1) ls (.ref (g i.toNatClampNeg) :: rest))) : W p l e R s m args below meth c H locs cells slots Q (F0 m pc ls (.int i :: .ref (L k 0) :: rest)) :=
  va_aldq hexec hb hK (hW.one hx) 0 t0 (cA := cA) (C := C) (n := n) (f := fun j => some (g j)) (by rw [he]; rfl) ht hin hdg kk
theorem hs_iast (hexec : p.tables.exec = Jvm.exec) (hb : c.code = cc) (hK : va_K D vwCl (hs_ty d) s) (hW : hs_W D d L σ A H) (hS : va_S A H0 H locs) (k q : Nat) (hx : hs_ix k q) {n : Nat} {f : Nat → Int32} (he : hs_ct d L σ k q = .inl (d.1, n, .inl f)) {i x : Int32} (hin : vp_in i n) (τ : hs_St) (hτ : hs_ct d L τ k q = .inl (d.1, n, .inl (upd f i.toNatClampNeg x))) (hoff : ∀ k' i', ¬ (k' = k ∧ i' = q) → ∀ c, τ k' i' c = σ k' i' c) (hdg : decode cc pc = .ok (.iastore, 1))
    (kk : ∀ (H1 : Heap) (locs1 : List Loc), hs_W D d L τ A H1 → va_S A H0 H1 locs1 → W p l e R s m args below meth c H1 locs1 cells slots Q (F0 m (pc + 1) ls rest)) : W p l e R s m args below meth c H locs cells slots Q (F0 m pc ls (.int x :: .int i :: .ref (L k q) :: rest)) := by
  have hP : va_at D vwCl (L k q, .inl (d.1, n, .inl f)) H := by rw [← he]; exact hW.1 k q hx
  have hlt : i.toNatClampNeg < n := Nat.not_le.mp fun z => hin (Or.inr z)
  refine W.iast hexec hb hP ((hK.2 0 _ rfl).1 n (fun j => .int (f j))) (fun q => by cases q) (by show ¬ (i < 0 ∨ (arrV _ _ _).slots.size ≤ _); rw [arrV_size]; exact hin) rfl rfl hdg fun H1 e z oq => ?_
  refine kk H1 _ (hW.put hx ?_ oq hoff) (hS.put z oq (hW.2.1 k q hx))
  rw [hτ]
  show H1[L k q]? = some (vp_cell _ _)
  rw [e]
  rw [vp_cell_i, vp_cell_i, arrV_store]
  congr 2
  funext z
  by_cases hq : z = i.toNatClampNeg
  · subst hq
    simp [updV, upd]
  · simp [updV, upd, hq]
theorem hs_calli {y : MethodName} {bytes : ByteArray} {maxL nL n index : Nat} {ret : Option FieldType} {ws : List Cond} {rm : Room} {Ts : List Cond} {own C : String} {As st : List Value} {k i : Nat} {post : Int32 → hs_St → Prop} (S : CallFix p m c cc nL s args Ts own) (hM : hs_Mi l y ws rm D d L σ A (.ref (L k i) :: As) post) (cw : CallW R s args own C index y bytes maxL ret ws rm 0 0 n) (hK : va_K D vwCl (hs_ty d) s) (hE : hs_E d.2.2.2.2 A s) (hW : hs_W D d L σ A H) (hS : va_S A s.heap H locs) (hx : hs_ix k i) {ci : Nat} {fs : List Value} {r : vw_C} (he : hs_ct d L σ k i = .inr (ci, fs)) (hc : vwCl[ci]? = some r) (hC : r.1 = C) (hn : As.length = n) (hsize : ls.size = nL) (hrest : (rest.map fun v => v.category).sum ≤ 8) (hdg : decode cc pc = .ok (.invokevirtual index, 3)) (hf : cells ≤ R.cells ∧ slots ≤ R.slots) (hst : st = As.reverse ++ .ref (L k i) :: rest)
    (kk : ∀ (r : Int32) (τ : hs_St) (H1 : Heap) (locs1 : List Loc), post r τ → hs_W D d L τ A H1 → va_S A s.heap H1 locs1 → W p l e R s m args below meth c H1 locs1 cells slots Q (F0 m (pc + 3) ls (.int r :: rest))) : W p l e R s m args below meth c H locs cells slots Q (F0 m pc ls st) := by
  subst hst
  subst hC
  refine va_calli (va_runV S hM cw ⟨hs_blind, va_recv hK (hW.one hx) (q0 := 0) hc (by rw [he]; rfl), fun U hU hW2 => ⟨rfl, ⟨by rw [hU]; exact hW, va_K.moved hW2.alike hK⟩, hE.on hW2 hU hS⟩⟩ rfl hn hsize rfl (lv_room hrest) hdg hf) hS (fun q _ h => h) (fun q h => h) (fun r τ t H1 locs1 ht _ hp hB _ _ hS1 => ?_)
  obtain ⟨hW1, -⟩ := hB
  rw [ht] at hW1
  exact kk r τ H1 locs1 hp hW1 hS1
theorem hs_callv {y : MethodName} {bytes : ByteArray} {maxL nL n index : Nat} {ret : Option FieldType} {ws : List Cond} {rm : Room} {Ts : List Cond} {own C : String} {As st : List Value} {k i : Nat} {post : hs_St → Prop} (S : CallFix p m c cc nL s args Ts own) (hM : hs_Mv l y ws rm D d L σ A (.ref (L k i) :: As) post) (cw : CallW R s args own C index y bytes maxL ret ws rm 0 0 n) (hK : va_K D vwCl (hs_ty d) s) (hE : hs_E d.2.2.2.2 A s) (hW : hs_W D d L σ A H) (hS : va_S A s.heap H locs) (hx : hs_ix k i) {ci : Nat} {fs : List Value} {r : vw_C} (he : hs_ct d L σ k i = .inr (ci, fs)) (hc : vwCl[ci]? = some r) (hC : r.1 = C) (hn : As.length = n) (hsize : ls.size = nL) (hrest : (rest.map fun v => v.category).sum ≤ 8) (hdg : decode cc pc = .ok (.invokevirtual index, 3)) (hf : cells ≤ R.cells ∧ slots ≤ R.slots) (hst : st = As.reverse ++ .ref (L k i) :: rest)
    (kk : ∀ (τ : hs_St) (H1 : Heap) (locs1 : List Loc), post τ → hs_W D d L τ A H1 → va_S A s.heap H1 locs1 → W p l e R s m args below meth c H1 locs1 cells slots Q (F0 m (pc + 3) ls rest)) : W p l e R s m args below meth c H locs cells slots Q (F0 m pc ls st) := by
  subst hst
  subst hC
  refine va_callv (va_runV S hM cw ⟨hs_blind, va_recv hK (hW.one hx) (q0 := 0) hc (by rw [he]; rfl), fun U hU hW2 => ⟨rfl, ⟨by rw [hU]; exact hW, va_K.moved hW2.alike hK⟩, hE.on hW2 hU hS⟩⟩ rfl hn hsize rfl (lv_room hrest) hdg hf) hS (fun q _ h => h) (fun q h => h) (fun τ t H1 locs1 ht _ hp hB _ _ hS1 => ?_)
  obtain ⟨hW1, -⟩ := hB
  rw [ht] at hW1
  exact kk τ H1 locs1 hp hW1 hS1
theorem hs_callr {y : MethodName} {bytes : ByteArray} {maxL nL n index : Nat} {ret : Option FieldType} {ws : List Cond} {rm : Room} {Ts : List Cond} {own C : String} {As st : List Value} {k i ad : Nat} (S : CallFix p m c cc nL s args Ts own) (hM : hs_Mr l y ws rm D d L σ A (.ref (L k i) :: As) ad) (cw : CallW R s args own C index y bytes maxL ret ws rm 0 0 n) (hK : va_K D vwCl (hs_ty d) s) (hE : hs_E d.2.2.2.2 A s) (hW : hs_W D d L σ A H) (hS : va_S A s.heap H locs) (hx : hs_ix k i) {ci : Nat} {fs : List Value} {r : vw_C} (he : hs_ct d L σ k i = .inr (ci, fs)) (hc : vwCl[ci]? = some r) (hC : r.1 = C) (hn : As.length = n) (hsize : ls.size = nL) (hrest : (rest.map fun v => v.category).sum ≤ 8) (hdg : decode cc pc = .ok (.invokevirtual index, 3)) (hf : cells ≤ R.cells ∧ slots ≤ R.slots) (hst : st = As.reverse ++ .ref (L k i) :: rest)
    (kk : ∀ (H1 : Heap) (locs1 : List Loc), hs_W D d L σ A H1 → va_S A s.heap H1 locs1 → W p l e R s m args below meth c H1 locs1 cells slots Q (F0 m (pc + 3) ls (.ref ad :: rest))) : W p l e R s m args below meth c H locs cells slots Q (F0 m pc ls st) := by
  subst hst
  subst hC
  refine va_callr (va_runV S hM cw ⟨hs_blind, va_recv hK (hW.one hx) (q0 := 0) hc (by rw [he]; rfl), fun U hU hW2 => ⟨rfl, ⟨by rw [hU]; exact hW, va_K.moved hW2.alike hK⟩, hE.on hW2 hU hS⟩⟩ rfl hn hsize rfl (lv_room hrest) hdg hf) hS (fun q _ h => h) (fun q h => h) (fun u ra t H1 locs1 ht _ hp hB _ _ hS1 => ?_)
  obtain ⟨rfl, hW1, -⟩ := hB
  rw [ht] at hW1
  exact kk H1 locs1 hW1 hS1
theorem hs_runv {y : MethodName} {bytes : ByteArray} {maxL nL n index : Nat} {ret : Option FieldType} {ws : List Cond} {rm : Room} {Ts : List Cond} {own : String} {As st : List Value} {post : hs_St → Prop} (S : CallFix p m c cc nL s args Ts own) (hM : hs_Mv l y ws rm D d L σ A As post) (cw : CallB R s args own index y bytes maxL ret ws rm 0 0 n ∧ (Cond.static y).before args s = true) (hK : va_K D vwCl (hs_ty d) s) (hE : hs_E d.2.2.2.2 A s) (hW : hs_W D d L σ A H) (hS : va_S A s.heap H locs) (hn : As.length = n) (hsize : ls.size = nL) (hrest : (rest.map fun v => v.category).sum ≤ 8) (hdg : decode cc pc = .ok (.invokestatic index, 3)) (hf : cells ≤ R.cells ∧ slots ≤ R.slots) (hst : st = As.reverse ++ rest)
    (kk : ∀ (τ : hs_St) (H1 : Heap) (locs1 : List Loc), post τ → hs_W D d L τ A H1 → va_S A s.heap H1 locs1 → W p l e R s m args below meth c H1 locs1 cells slots Q (F0 m (pc + 3) ls rest)) : W p l e R s m args below meth c H locs cells slots Q (F0 m pc ls st) := by
  subst hst
  refine va_callv (va_runS S hM cw ⟨hs_blind, fun U hU hW2 => ⟨rfl, ⟨by rw [hU]; exact hW, va_K.moved hW2.alike hK⟩, hE.on hW2 hU hS⟩⟩ rfl hn hsize rfl (lv_room hrest) hdg hf) hS (fun q _ h => h) (fun q h => h) (fun τ t H1 locs1 ht _ hp hB _ _ hS1 => ?_)
  obtain ⟨hW1, -⟩ := hB
  rw [ht] at hW1
  exact kk τ H1 locs1 hp hW1 hS1
theorem hs_runi {y : MethodName} {bytes : ByteArray} {maxL nL n index : Nat} {ret : Option FieldType} {ws : List Cond} {rm : Room} {Ts : List Cond} {own : String} {As st : List Value} {post : Int32 → hs_St → Prop} (S : CallFix p m c cc nL s args Ts own) (hM : hs_Mi l y ws rm D d L σ A As post) (cw : CallB R s args own index y bytes maxL ret ws rm 0 0 n ∧ (Cond.static y).before args s = true) (hK : va_K D vwCl (hs_ty d) s) (hE : hs_E d.2.2.2.2 A s) (hW : hs_W D d L σ A H) (hS : va_S A s.heap H locs) (hn : As.length = n) (hsize : ls.size = nL) (hrest : (rest.map fun v => v.category).sum ≤ 8) (hdg : decode cc pc = .ok (.invokestatic index, 3)) (hf : cells ≤ R.cells ∧ slots ≤ R.slots) (hst : st = As.reverse ++ rest)
    (kk : ∀ (r : Int32) (τ : hs_St) (H1 : Heap) (locs1 : List Loc), post r τ → hs_W D d L τ A H1 → va_S A s.heap H1 locs1 → W p l e R s m args below meth c H1 locs1 cells slots Q (F0 m (pc + 3) ls (.int r :: rest))) : W p l e R s m args below meth c H locs cells slots Q (F0 m pc ls st) := by
  subst hst
  refine va_calli (va_runS S hM cw ⟨hs_blind, fun U hU hW2 => ⟨rfl, ⟨by rw [hU]; exact hW, va_K.moved hW2.alike hK⟩, hE.on hW2 hU hS⟩⟩ rfl hn hsize rfl (lv_room hrest) hdg hf) hS (fun q _ h => h) (fun q h => h) (fun r τ t H1 locs1 ht _ hp hB _ _ hS1 => ?_)
  obtain ⟨hW1, -⟩ := hB
  rw [ht] at hW1
  exact kk r τ H1 locs1 hp hW1 hS1
theorem hs_runvN {y : MethodName} {bytes : ByteArray} {maxL nL n index : Nat} {ret : Option FieldType} {ws : List Cond} {rm : Room} {Ts : List Cond} {own host : String} {As st : List Value} {post : hs_St → Prop} (S : CallFix p m c cc nL s args Ts own) (hM : hs_Mv l y ws rm D d L σ A As post) (cw : va_CN R s args own index y host bytes maxL ret ws rm 0 0 n ∧ (Cond.static y).before args s = true ∧ True) (hK : va_K D vwCl (hs_ty d) s) (hE : hs_E d.2.2.2.2 A s) (hW : hs_W D d L σ A H) (hS : va_S A s.heap H locs) (hn : As.length = n) (hsize : ls.size = nL) (hrest : (rest.map fun v => v.category).sum ≤ 8) (hdg : decode cc pc = .ok (.invokestatic index, 3)) (hf : cells ≤ R.cells ∧ slots ≤ R.slots) (hst : st = As.reverse ++ rest)
    (kk : ∀ (τ : hs_St) (H1 : Heap) (locs1 : List Loc), post τ → hs_W D d L τ A H1 → va_S A s.heap H1 locs1 → W p l e R s m args below meth c H1 locs1 cells slots Q (F0 m (pc + 3) ls rest)) : W p l e R s m args below meth c H locs cells slots Q (F0 m pc ls st) := by
  subst hst
  refine va_callv (va_runSN S hM cw ⟨hs_blind, fun U hU hW2 => ⟨rfl, ⟨by rw [hU]; exact hW, va_K.moved hW2.alike hK⟩, hE.on hW2 hU hS⟩⟩ rfl hn hsize rfl (lv_room hrest) hdg hf) hS (fun q _ h => h) (fun q h => h) (fun τ t H1 locs1 ht _ hp hB _ _ hS1 => ?_)
  obtain ⟨hW1, -⟩ := hB
  rw [ht] at hW1
  exact kk τ H1 locs1 hp hW1 hS1
end HSR
