/-! THE REFERENCE'S HOUSE, by (kind, number). Kinds: 0 the object, 1 to 4 its rows of rows (persons, low, high, figures), 5 and 6 lamps and spots, 11 to 14 the rows in 1 to 4. ρ: kind, number, slot; of kind 0 the numbers in the object's own slots (6 to 13). -/
abbrev cMh : Nat := 5
abbrev cMm : Nat := 6
def mh_n (k : Nat) : Nat := if k = 4 then 8 else 10
def mh_w (k : Nat) : Nat := if k = 11 then 9 else if k = 14 then 11 else if k = 12 then 6 else if k = 13 then 6 else 5
def mh_ix (k i : Nat) : Prop := (k ≤ 6 ∧ i = 0) ∨ (11 ≤ k ∧ k ≤ 14 ∧ i < mh_n (k - 10))
theorem mh_ixO {k : Nat} (h : k ≤ 6) : mh_ix k 0 := Or.inl ⟨h, rfl⟩
theorem mh_ixR {k i : Nat} (h1 : 1 ≤ k) (h2 : k ≤ 4) (h : i < mh_n k) : mh_ix (10 + k) i := Or.inr ⟨by omega, by omega, by rw [show 10 + k - 10 = k by omega]; exact h⟩
def mh_ct (cI cB : ClassId) (L : hs_Lo) (ρ : hs_St) (k i : Nat) : va_E :=
  if k = 0 then .inr (cMh, [.ref (L 1 0), .ref (L 2 0), .ref (L 3 0), .ref (L 4 0), .ref (L 5 0), .ref (L 6 0), .int (ρ 0 0 6), .int (ρ 0 0 7), .int (ρ 0 0 8), .int (ρ 0 0 9), .int (ρ 0 0 10), .int (ρ 0 0 11), .int (ρ 0 0 12), .int (ρ 0 0 13)])
  else if k < 5 then .inl (cB, mh_n k, .inr (.inr (.inr (.inr (fun j => some (L (10 + k) j))))))
  else .inl (cI, mh_w k, .inl (ρ k i))
section MHC
variable {cI cB : ClassId} {L : hs_Lo} {ρ : hs_St}
theorem mh_ct0 (i : Nat) : mh_ct cI cB L ρ 0 i = .inr (cMh, [.ref (L 1 0), .ref (L 2 0), .ref (L 3 0), .ref (L 4 0), .ref (L 5 0), .ref (L 6 0), .int (ρ 0 0 6), .int (ρ 0 0 7), .int (ρ 0 0 8), .int (ρ 0 0 9), .int (ρ 0 0 10), .int (ρ 0 0 11), .int (ρ 0 0 12), .int (ρ 0 0 13)]) := if_pos rfl
theorem mh_ctO {k : Nat} (i : Nat) (h1 : 1 ≤ k) (h2 : k ≤ 4) : mh_ct cI cB L ρ k i = .inl (cB, mh_n k, .inr (.inr (.inr (.inr (fun j => some (L (10 + k) j)))))) := by
  unfold mh_ct
  rw [if_neg (by omega), if_pos (by omega)]
theorem mh_ctR {k : Nat} (i : Nat) (h1 : 5 ≤ k) : mh_ct cI cB L ρ k i = .inl (cI, mh_w k, .inl (ρ k i)) := by
  unfold mh_ct
  rw [if_neg (by omega), if_neg (by omega)]
end MHC
def mh_W (D : va_G) (cI cB : ClassId) (L : hs_Lo) (ρ : hs_St) (A : Nat → Prop) (H : Heap) : Prop := (∀ k i, mh_ix k i → va_at D vwCl (L k i, mh_ct cI cB L ρ k i) H) ∧ (∀ k i, mh_ix k i → A (L k i)) ∧ (∀ k i k' i', mh_ix k i → mh_ix k' i' → L k i = L k' i' → k = k' ∧ i = i')
/-- an address that is none of the house's, above them -/
def mh_nw (L : hs_Lo) (v : Nat) : Prop := ∀ k i, mh_ix k i → L k i < v
section MHW
variable {D : va_G} {cI cB : ClassId} {L : hs_Lo} {A : Nat → Prop} {ρ : hs_St} {H H1 : Heap}
theorem mh_one (h : mh_W D cI cB L ρ A H) {k i : Nat} (hx : mh_ix k i) : va_P D vwCl [(L k i, mh_ct cI cB L ρ k i)] H := by
  intro m q hq
  cases m with
  | zero => cases hq; exact h.1 k i hx
  | succ m => simp at hq
theorem mh_pO (h : mh_W D cI cB L ρ A H) : va_P D vwCl [(L 0 0, .inr (cMh, [.ref (L 1 0), .ref (L 2 0), .ref (L 3 0), .ref (L 4 0), .ref (L 5 0), .ref (L 6 0), .int (ρ 0 0 6), .int (ρ 0 0 7), .int (ρ 0 0 8), .int (ρ 0 0 9), .int (ρ 0 0 10), .int (ρ 0 0 11), .int (ρ 0 0 12), .int (ρ 0 0 13)]))] H := mh_one h (mh_ixO (by decide))
theorem mh_pQ (h : mh_W D cI cB L ρ A H) {k : Nat} (h1 : 1 ≤ k) (h2 : k ≤ 4) : va_P D vwCl [(L k 0, .inl (cB, mh_n k, .inr (.inr (.inr (.inr (fun j => some (L (10 + k) j)))))))] H := by
  rw [← mh_ctO (cI := cI) (ρ := ρ) 0 h1 h2]
  exact mh_one h (mh_ixO (by omega))
theorem mh_pR (h : mh_W D cI cB L ρ A H) {k i : Nat} (h5 : 5 ≤ k) (hx : mh_ix k i) : va_P D vwCl [(L k i, .inl (cI, mh_w k, .inl (ρ k i)))] H := by
  rw [← mh_ctR (cI := cI) (cB := cB) (L := L) (ρ := ρ) i h5]
  exact mh_one h hx
theorem mh_W.kept (h : mh_W D cI cB L ρ A H) (hq : ∀ q : Nat, q < H.size → (∃ k i, mh_ix k i ∧ q = L k i) → H1[q]? = H[q]?) : mh_W D cI cB L ρ A H1 := ⟨fun k i hx => (h.1 k i hx).kept (hq _ (h.1 k i hx).lt ⟨k, i, hx, rfl⟩), h.2.1, h.2.2⟩
theorem mh_W.all (h : mh_W D cI cB L ρ A H) (hq : ∀ q : Nat, q < H.size → H1[q]? = H[q]?) : mh_W D cI cB L ρ A H1 := h.kept (fun q z _ => hq q z)
theorem mh_W.keptA (h : mh_W D cI cB L ρ A H) (hq : ∀ q : Nat, q < H.size → A q → H1[q]? = H[q]?) : mh_W D cI cB L ρ A H1 := h.kept (fun q z ⟨k, i, hx, e⟩ => hq q z (by rw [e]; exact h.2.1 k i hx))
theorem mh_W.nw (h : mh_W D cI cB L ρ A H) {v : Nat} (hv : H.size ≤ v) : mh_nw L v := fun k i hx => Nat.lt_of_lt_of_le (h.1 k i hx).lt hv
theorem mh_W.off (h : mh_W D cI cB L ρ A H) {v : Nat} (hv : mh_nw L v) (hq : ∀ q : Nat, q ≠ v → H1[q]? = H[q]?) : mh_W D cI cB L ρ A H1 := h.kept (fun q _ ⟨k, i, hx, e⟩ => hq q (by rw [e]; exact Nat.ne_of_lt (hv k i hx)))
theorem mh_W.put (h : mh_W D cI cB L ρ A H) {k i : Nat} (hx : mh_ix k i) {ρ2 : hs_St} (he : va_at D vwCl (L k i, mh_ct cI cB L ρ2 k i) H1) (oq : ∀ q : Nat, q ≠ L k i → H1[q]? = H[q]?) (hs : ∀ k' i', mh_ix k' i' → ¬ (k' = k ∧ i' = i) → ∀ j, ρ2 k' i' j = ρ k' i' j) : mh_W D cI cB L ρ2 A H1 := by
  refine ⟨fun k' i' hx' => ?_, h.2.1, h.2.2⟩
  by_cases e : k' = k ∧ i' = i
  · obtain ⟨rfl, rfl⟩ := e
    exact he
  · have hne : L k' i' ≠ L k i := fun z => e (h.2.2 _ _ _ _ hx' hx z)
    have hc : mh_ct cI cB L ρ2 k' i' = mh_ct cI cB L ρ k' i' := by
      have hf : ρ2 k' i' = ρ k' i' := funext (hs k' i' hx' e)
      unfold mh_ct
      by_cases e0 : k' = 0
      · subst e0
        have hi : i' = 0 := by
          rcases hx' with z | z
          · exact z.2
          · omega
        subst hi
        rw [if_pos rfl, if_pos rfl, hf]
      · rw [if_neg e0, if_neg e0, hf]
    rw [hc]
    exact (h.1 k' i' hx').kept (oq _ hne)
end MHW
section MHR
variable {p : Program} {l : Launch} {e : Env} {R : Room} {s : State} {m : MethodId} {args : Array Value} {below : List Frame} {meth : Method} {c0 : Code} {H : Heap} {locs : List Loc} {cells slots : Nat} {Q : State → Prop}
variable {cc : ByteArray} {pc : Nat} {ls : Array Slot} {rest : List Value} {D : va_G} {d : hs_Dm} {cB : ClassId} {L : hs_Lo} {A : Nat → Prop} {ρ : hs_St} {H0 : Heap}
theorem mh_get (hexec : p.tables.exec = Jvm.exec) (hb : c0.code = cc) {own : String} {index : Nat} {Ts : List Cond} (hts : ∀ w ∈ Ts, w.before args s = true) (hin : ∀ w ∈ u_ws RX5 TX5 14, w ∈ Ts) (hown : s.vm.findClass own = some m.cls) (hK : va_K D vwCl (hs_ty d) s) (hW : mh_W D d.1 cB L ρ A H) (j : Nat) (hj : j < 14) (hlink : (Cond.fieldLink own index RX5 (TX5 j).2.1 (TX5 j).2.2.1).before args s = true) (hsame : (TX5 j).1 = RX5) {v : Value} (hv : ([.ref (L 1 0), .ref (L 2 0), .ref (L 3 0), .ref (L 4 0), .ref (L 5 0), .ref (L 6 0), .int (ρ 0 0 6), .int (ρ 0 0 7), .int (ρ 0 0 8), .int (ρ 0 0 9), .int (ρ 0 0 10), .int (ρ 0 0 11), .int (ρ 0 0 12), .int (ρ 0 0 13)] : List Value)[j]? = some v) (hdg : decode cc pc = .ok (.getfield index, 3))
    (kk : W p l e R s m args below meth c0 H locs cells slots Q (F0 m (pc + 3) ls (v :: rest))) : W p l e R s m args below meth c0 H locs cells slots Q (F0 m pc ls (.ref (L 0 0) :: rest)) :=
  va_get (D := D) (ci := cMh) (C := RX5) (T := TX5) (N := 14) hexec hb hts hin hown hK (mh_pO hW) 0 rfl rfl j hj hlink (fun x h => by rw [hsame] at h; exact h) hv hdg kk
theorem mh_puti (hexec : p.tables.exec = Jvm.exec) (hb : c0.code = cc) {own : String} {index : Nat} {Ts : List Cond} (hts : ∀ w ∈ Ts, w.before args s = true) (hin : ∀ w ∈ u_ws RX5 TX5 14, w ∈ Ts) (hown : s.vm.findClass own = some m.cls) (hK : va_K D vwCl (hs_ty d) s) (hW : mh_W D d.1 cB L ρ A H) (hS0 : va_S A H0 H locs) (j : Nat) (hj : j < 14) (hlink : (Cond.fieldLink own index RX5 (TX5 j).2.1 (TX5 j).2.2.1).before args s = true) (hsame : (TX5 j).1 = RX5) (hfin : (TX5 j).2.2.2 = false) (x : Int32) (hd : parseFieldDescriptor (TX5 j).2.2.1 = some .int) (hτ : mh_ct d.1 cB L (hs_sg ρ 0 0 j x) 0 0 = .inr (cMh, ([.ref (L 1 0), .ref (L 2 0), .ref (L 3 0), .ref (L 4 0), .ref (L 5 0), .ref (L 6 0), .int (ρ 0 0 6), .int (ρ 0 0 7), .int (ρ 0 0 8), .int (ρ 0 0 9), .int (ρ 0 0 10), .int (ρ 0 0 11), .int (ρ 0 0 12), .int (ρ 0 0 13)] : List Value).set j (.int x)))
    (hdg : decode cc pc = .ok (.putfield index, 3)) (kk : ∀ (H1 : Heap) (locs1 : List Loc), mh_W D d.1 cB L (hs_sg ρ 0 0 j x) A H1 → va_S A H0 H1 locs1 → H1.size = H.size → (∀ q : Nat, q ≠ L 0 0 → H1[q]? = H[q]?) → W p l e R s m args below meth c0 H1 locs1 cells slots Q (F0 m (pc + 3) ls rest)) : W p l e R s m args below meth c0 H locs cells slots Q (F0 m pc ls (.int x :: .ref (L 0 0) :: rest)) := by
  have hc : vwCl[cMh]? = some (RX5, TX5, 14) := rfl
  have hap := va_apart (own := own) hts hin tyX5 tyX5_ok nmX5 hK hc
  have hx : mh_ix 0 0 := mh_ixO (by decide)
  have hP := hW.1 0 0 hx
  rw [mh_ct0] at hP
  obtain ⟨r, h1, cell, q1, q2, q3, q4⟩ := hP
  have hr : r = (RX5, TX5, 14) := Option.some.inj (h1.symm.trans hc)
  subst hr
  obtain ⟨hS, hfc, kC, hkC, hkind⟩ := hK.1 cMh _ hc
  obtain ⟨cf, kf, fi, f, hi, hsl⟩ := hS j hj
  have hlay := hts _ (hin _ (u_in_lay hj))
  unfold u_lay at hlay
  rw [if_neg (by rw [hfin]; decide)] at hlay
  have hst := (u_facts hfc hkC (u_lays hts hin hj) hi).1
  have h6 := u_store hfc hkC hkind hlay hi hd (show narrow .int (.int x) = .int x from rfl) (show fits .int (.int x) = true from rfl)
  have hi2 := hi
  rw [hsame] at hi2
  refine W.putK hexec hb (f := f) ⟨hown, hlink, ⟨_, _, _, hi2⟩, hst⟩ (by rw [q2]; exact h6) q1 q3 (by rw [hsl]; exact k2_hasslot (q4 j hj)) rfl rfl hdg fun H' e1 e2 e3 => ?_
  rw [hsl] at e1 ⊢
  refine kk H' _ (hW.put hx ?_ e3 (fun k' i' _ hn j' => ?_)) (hS0.put e2 e3 (hW.2.1 0 0 hx)) e2 e3
  · rw [hτ]
    exact ⟨_, hc, t_OB.to (V := updV (vp_V _) j (.int x)) ⟨_, e1, q2, q3, t_set q4 hap hj (.int x)⟩ (fun n _ => vp_updV_set hj (.int x) n)⟩
  · unfold hs_sg
    rw [if_neg (fun z => hn ⟨z.1, z.2.1⟩)]
theorem mh_iast (hexec : p.tables.exec = Jvm.exec) (hb : c0.code = cc) (hK : va_K D vwCl (hs_ty d) s) (hW : mh_W D d.1 cB L ρ A H) (hS : va_S A H0 H locs) (k q : Nat) (h5 : 5 ≤ k) (hx : mh_ix k q) {i x : Int32} (hin : vp_in i (mh_w k)) (hdg : decode cc pc = .ok (.iastore, 1))
    (kk : ∀ (H1 : Heap) (locs1 : List Loc), mh_W D d.1 cB L (hs_sg ρ k q i.toNatClampNeg x) A H1 → va_S A H0 H1 locs1 → H1.size = H.size → (∀ z : Nat, z ≠ L k q → H1[z]? = H[z]?) → W p l e R s m args below meth c0 H1 locs1 cells slots Q (F0 m (pc + 1) ls rest)) : W p l e R s m args below meth c0 H locs cells slots Q (F0 m pc ls (.int x :: .int i :: .ref (L k q) :: rest)) := by
  have hP := hW.1 k q hx
  rw [mh_ctR _ h5] at hP
  refine W.iast hexec hb hP ((hK.2 0 _ rfl).1 (mh_w k) (fun j => .int (ρ k q j))) (fun q => by cases q) (by show ¬ (i < 0 ∨ (arrV _ _ _).slots.size ≤ _); rw [arrV_size]; exact hin) rfl rfl hdg fun H1 e z oq => ?_
  refine kk H1 _ (hW.put hx ?_ oq (fun k' i' _ hn j' => by unfold hs_sg; rw [if_neg (fun y => hn ⟨y.1, y.2.1⟩)])) (hS.put z oq (hW.2.1 _ _ hx)) z oq
  rw [mh_ctR _ h5, hs_arr]
  show H1[L k q]? = some (vp_cell _ _)
  rw [e]
  rw [vp_cell_i, vp_cell_i, arrV_store]
  congr 2
  funext z
  by_cases hq : z = i.toNatClampNeg
  · subst hq
    simp [updV, upd]
  · simp [updV, upd, hq]
theorem mh_iald (hexec : p.tables.exec = Jvm.exec) (hb : c0.code = cc) (hK : va_K D vwCl (hs_ty d) s) (hW : mh_W D d.1 cB L ρ A H) (k q : Nat) (h5 : 5 ≤ k) (hx : mh_ix k q) {i : Int32} (hin : vp_in i (mh_w k)) (hdg : decode cc pc = .ok (.iaload, 1))
    (kk : W p l e R s m args below meth c0 H locs cells slots Q (F0 m (pc + 1) ls (.int (ρ k q i.toNatClampNeg) :: rest))) : W p l e R s m args below meth c0 H locs cells slots Q (F0 m pc ls (.int i :: .ref (L k q) :: rest)) :=
  va_iald hexec hb hK (mh_pR hW h5 hx) 0 0 rfl rfl hin hdg kk
theorem mh_aald (hexec : p.tables.exec = Jvm.exec) (hb : c0.code = cc) (hKB : va_K D vwCl [(d.1, .int), (cB, .array .int)] s) (hW : mh_W D d.1 cB L ρ A H) (k q : Nat) (h1 : 1 ≤ k) (h2 : k ≤ 4) (hq : q < mh_n k) (hdg : decode cc pc = .ok (.aaload, 1))
    (kk : W p l e R s m args below meth c0 H locs cells slots Q (F0 m (pc + 1) ls (.ref (L (10 + k) q) :: rest))) : W p l e R s m args below meth c0 H locs cells slots Q (F0 m pc ls (.int (nI q) :: .ref (L k 0) :: rest)) := by
  have hn10 : mh_n k ≤ 10 := by
    unfold mh_n
    split <;> decide
  have hq2 : q < 2 ^ 31 := by omega
  have hlt : (nI q).toNatClampNeg < mh_n k := by rw [nI_clamp hq2]; exact hq
  have hin : ¬ (nI q < 0 ∨ mh_n k ≤ (nI q).toNatClampNeg) := by
    rintro (z | z)
    · exact nI_pos hq2 z
    · omega
  have k2 : W p l e R s m args below meth c0 H locs cells slots Q (F0 m (pc + 1) ls (va_rf (some (L (10 + k) (nI q).toNatClampNeg)) :: rest)) := by rw [nI_clamp hq2]; exact kk
  exact W.aald (v := va_rf (some (L (10 + k) (nI q).toNatClampNeg))) (ty := .array .int) hexec hb (mh_pQ hW h1 h2 0 _ rfl) ((hKB.2 1 _ rfl).1 (mh_n k) (fun j => va_rf (some (L (10 + k) j)))) rfl (fun q => by cases q) (by show ¬ (nI q < 0 ∨ (arrV _ _ _).slots.size ≤ _); rw [arrV_size]; exact hin) (by show (arrV _ _ _).slots[_]? = _; rw [arrV_read _ _ hlt]) rfl rfl hdg k2
theorem mh_newa (hexec : p.tables.exec = Jvm.exec) (hb : c0.code = cc) (harr : (Cond.arrayClass .int).before args s = true) (hK : va_K D vwCl (hs_ty d) s) (hAz : ∀ q, H0.size ≤ q → A q) (hW : mh_W D d.1 cB L ρ A H) (hS : va_S A H0 H locs)
    {i : Int32} {N' : Nat} (hn : ¬ i < 0) (hN : i.toNatClampNeg = N') (hbytes : N' * 4 ≤ 536870912) (hcells : cells + 1 ≤ R.cells) (hslots : slots + N' ≤ R.slots) (hdg : decode cc pc = .ok (.newarray .int, 2))
    (kk : ∀ (H1 : Heap) (v : Nat), mh_W D d.1 cB L ρ A H1 → mh_nw L v → A v → H.size ≤ v → va_at D vwCl (v, .inl (d.1, N', .inl (fun _ => 0))) H1 → H1.size = H.size + 1 → va_S A H0 H1 locs → W p l e R s m args below meth c0 H1 locs (cells + 1) (slots + N') Q (F0 m (pc + 2) ls (.ref v :: rest))) : W p l e R s m args below meth c0 H locs cells slots Q (F0 m pc ls (.int i :: rest)) := by
  refine va_newaK hexec hb (atype := .int) harr (g := F0 m pc ls (.int i :: rest)) rfl hdg rfl hn hN hbytes hcells hslots rfl fun H1 cA e1 z1 o1 hA hf => ?_
  have hcA : cA = d.1 := Option.some.inj (hf.symm.trans (rg_iarr hK))
  subst hcA
  have oq : ∀ q : Nat, q < H.size → H1[q]? = H[q]? := fun q hq => o1 q hq
  exact kk H1 H.size (hW.all oq) (hW.nw (Nat.le_refl _)) (hAz _ hS.1) (Nat.le_refl _) (by show H1[H.size]? = some (vp_cell _ _); rw [vp_cell_i]; exact e1) (by omega) (rg_S hS (by omega) oq)
theorem mh_niast (hexec : p.tables.exec = Jvm.exec) (hb : c0.code = cc) (hK : va_K D vwCl (hs_ty d) s) (hW : mh_W D d.1 cB L ρ A H) (hS : va_S A H0 H locs) {v N' : Nat} {f : Nat → Int32} (hv : va_at D vwCl (v, .inl (d.1, N', .inl f)) H) (nv : mh_nw L v) (hA : A v) {i x : Int32} (hin : vp_in i N') (hdg : decode cc pc = .ok (.iastore, 1))
    (kk : ∀ (H1 : Heap) (locs1 : List Loc), mh_W D d.1 cB L ρ A H1 → va_at D vwCl (v, .inl (d.1, N', .inl (upd f i.toNatClampNeg x))) H1 → H1.size = H.size → va_S A H0 H1 locs1 → W p l e R s m args below meth c0 H1 locs1 cells slots Q (F0 m (pc + 1) ls rest)) : W p l e R s m args below meth c0 H locs cells slots Q (F0 m pc ls (.int x :: .int i :: .ref v :: rest)) := by
  refine W.iast hexec hb hv ((hK.2 0 _ rfl).1 N' (fun j => .int (f j))) (fun q => by cases q) (by show ¬ (i < 0 ∨ (arrV _ _ _).slots.size ≤ _); rw [arrV_size]; exact hin) rfl rfl hdg fun H1 e z oq => ?_
  refine kk H1 _ (hW.off nv oq) ?_ z (hS.put z oq hA)
  show H1[v]? = some (vp_cell _ _)
  rw [e]
  rw [vp_cell_i, vp_cell_i, arrV_store]
  congr 2
  funext z
  by_cases hq : z = i.toNatClampNeg
  · subst hq
    simp [updV, upd]
  · simp [updV, upd, hq]
theorem mh_niald (hexec : p.tables.exec = Jvm.exec) (hb : c0.code = cc) (hK : va_K D vwCl (hs_ty d) s) {v N' : Nat} {f : Nat → Int32} (hv : va_at D vwCl (v, .inl (d.1, N', .inl f)) H) {i : Int32} (hin : vp_in i N') (hdg : decode cc pc = .ok (.iaload, 1))
    (kk : W p l e R s m args below meth c0 H locs cells slots Q (F0 m (pc + 1) ls (.int (f i.toNatClampNeg) :: rest))) : W p l e R s m args below meth c0 H locs cells slots Q (F0 m pc ls (.int i :: .ref v :: rest)) :=
  va_iald hexec hb hK (ws := [(v, .inl (d.1, N', .inl f))]) (fun k q hk => by cases k with | zero => cases hk; exact hv | succ k => simp at hk) 0 0 rfl rfl hin hdg kk
end MHR
/-! contracts over it -/
def mh_K (D : va_G) (d : hs_Dm) (cB : ClassId) (U : State) : Prop := va_K D vwCl (hs_ty d) U ∧ va_K D vwCl [(d.1, .int), (cB, .array .int)] U ∧ va_Nw (.methodLinkNest RX5 92 yX6_in RX6) U ∧ va_Nw (.methodLinkNest RX5 99 yX6_held RX6) U ∧ va_Nw (.methodLinkNest RX5 107 yX6_needs RX6) U ∧ va_AOA .int U ∧ va_Nw (.methodLinkNest RX6 9 yX5_init RX6) U
def mh_C (D : va_G) (d : hs_Dm) (cB : ClassId) (L : hs_Lo) (ρ : hs_St) (A : Nat → Prop) (sz : Nat) (U : State) : Prop := U.heap.size = sz ∧ mh_W D d.1 cB L ρ A U.heap ∧ mh_K D d cB U
theorem mh_blind {D : va_G} {d : hs_Dm} {cB : ClassId} {L : hs_Lo} {ρ : hs_St} {A : Nat → Prop} {sz : Nat} {av : List Value} : FrameBlind (va_Pc av (mh_C D d cB L ρ A sz)) := fun a U g mk q => by
  obtain ⟨q0, q1, q2, q3, q4, q5, q6, q7, q8, q9⟩ := q
  exact ⟨q0, q1, q2, va_K.moved (u := U) (U := U.calling g mk a) (Vm.Alike.refl U.vm) q3, va_K.moved (u := U) (U := U.calling g mk a) (Vm.Alike.refl U.vm) q4, va_Nw.same (u := U) (U := U.calling g mk a) rfl rfl q5, va_Nw.same (u := U) (U := U.calling g mk a) rfl rfl q6, va_Nw.same (u := U) (U := U.calling g mk a) rfl rfl q7, over_moved (u := U) (E := U.calling g mk a) (Vm.Alike.refl U.vm) q8, va_Nw.same (u := U) (U := U.calling g mk a) rfl rfl q9⟩
theorem mh_K.on {D : va_G} {d : hs_Dm} {cB : ClassId} {s U : State} (h : mh_K D d cB s) (hW : s.WarmedH U.vm) : mh_K D d cB U := ⟨va_K.moved hW.alike h.1, va_K.moved hW.alike h.2.1, va_Nw.warmM hW h.2.2.1, va_Nw.warmM hW h.2.2.2.1, va_Nw.warmM hW h.2.2.2.2.1, over_moved hW.alike h.2.2.2.2.2.1, va_Nw.warmM hW h.2.2.2.2.2.2⟩
/-- it may write its own cells and new ones -/
def mh_A (A : Nat → Prop) (sz : Nat) : Prop := ∀ q, sz ≤ q → A q
abbrev mh_Mi (l : Launch) (y : MethodName) (ws : List Cond) (rm : Room) (D : va_G) (d : hs_Dm) (cB : ClassId) (L : hs_Lo) (ρ : hs_St) (A : Nat → Prop) (sz : Nat) (av : List Value) (post : Int32 → hs_St → Prop) (mc ms : Nat) : Prop := Met l y ws rm (va_Pc av (mh_C D d cB L ρ A sz)) (va_Qi post (fun τ t => mh_W D d.1 cB L τ A t.heap) A) mc ms A
abbrev mh_Mv (l : Launch) (y : MethodName) (ws : List Cond) (rm : Room) (D : va_G) (d : hs_Dm) (cB : ClassId) (L : hs_Lo) (ρ : hs_St) (A : Nat → Prop) (sz : Nat) (av : List Value) (post : hs_St → Prop) (mc ms : Nat) : Prop := Met l y ws rm (va_Pc av (mh_C D d cB L ρ A sz)) (va_Qv post (fun τ t => mh_W D d.1 cB L τ A t.heap) A) mc ms A
section MHM
variable {p : Program} {l : Launch} {e : Env} {R : Room} {s : State} {m : MethodId} {args : Array Value} {below : List Frame} {meth : Method} {c0 : Code} {H : Heap} {locs : List Loc} {cells slots : Nat} {Q : State → Prop}
variable {cc : ByteArray} {pc : Nat} {ls : Array Slot} {rest : List Value} {D : va_G} {d : hs_Dm} {cB : ClassId} {L : hs_Lo} {A : Nat → Prop} {ρ : hs_St}
variable {y : MethodName} {bytes : ByteArray} {maxL nL na index mc ms : Nat} {ret : Option FieldType} {ws : List Cond} {rm : Room} {Ts : List Cond} {own : String} {As st : List Value}
/-- the house calls itself -/
theorem mh_calli {post : Int32 → hs_St → Prop} (S : CallFix p m c0 cc nL s args Ts own) (hM : mh_Mi l y ws rm D d cB L ρ A H.size (.ref (L 0 0) :: As) post mc ms) (cw : CallW R s args own RX5 index y bytes maxL ret ws rm mc ms na) (hKK : mh_K D d cB s) (hW : mh_W D d.1 cB L ρ A H) (hS : va_S A s.heap H locs) (hn : As.length = na) (hsize : ls.size = nL) (hrest : (rest.map fun v => v.category).sum ≤ 8) (hdg : decode cc pc = .ok (.invokevirtual index, 3)) (hf : cells + mc ≤ R.cells ∧ slots + ms ≤ R.slots) (hst : st = As.reverse ++ .ref (L 0 0) :: rest)
    (kk : ∀ (r : Int32) (τ : hs_St) (H1 : Heap) (locs1 : List Loc), post r τ → mh_W D d.1 cB L τ A H1 → H.size ≤ H1.size → (∀ q : Nat, q < H.size → ¬ A q → H1[q]? = H[q]?) → va_S A s.heap H1 locs1 → W p l e R s m args below meth c0 H1 locs1 (cells + mc) (slots + ms) Q (F0 m (pc + 3) ls (.int r :: rest))) : W p l e R s m args below meth c0 H locs cells slots Q (F0 m pc ls st) := by
  subst hst
  exact va_calli (va_runV S hM cw ⟨mh_blind, va_recv hKK.1 (mh_pO hW) (q0 := 0) (show vwCl[cMh]? = some (RX5, TX5, 14) from rfl) rfl, fun U hU hW9 => ⟨rfl, by rw [hU], by rw [hU]; exact hW, hKK.on hW9⟩⟩ rfl hn hsize rfl (lv_room hrest) hdg hf) hS (fun q _ h => h) (fun q h => h) (fun r τ t H1 locs1 ht _ hp hB1 hz hq hS1 => kk r τ H1 locs1 hp (by rw [ht] at hB1; exact hB1) hz hq hS1)
theorem mh_callv {post : hs_St → Prop} (S : CallFix p m c0 cc nL s args Ts own) (hM : mh_Mv l y ws rm D d cB L ρ A H.size (.ref (L 0 0) :: As) post mc ms) (cw : CallW R s args own RX5 index y bytes maxL none ws rm mc ms na) (hKK : mh_K D d cB s) (hW : mh_W D d.1 cB L ρ A H) (hS : va_S A s.heap H locs) (hn : As.length = na) (hsize : ls.size = nL) (hrest : (rest.map fun v => v.category).sum ≤ 8) (hdg : decode cc pc = .ok (.invokevirtual index, 3)) (hf : cells + mc ≤ R.cells ∧ slots + ms ≤ R.slots) (hst : st = As.reverse ++ .ref (L 0 0) :: rest)
    (kk : ∀ (τ : hs_St) (H1 : Heap) (locs1 : List Loc), post τ → mh_W D d.1 cB L τ A H1 → H.size ≤ H1.size → (∀ q : Nat, q < H.size → ¬ A q → H1[q]? = H[q]?) → va_S A s.heap H1 locs1 → W p l e R s m args below meth c0 H1 locs1 (cells + mc) (slots + ms) Q (F0 m (pc + 3) ls rest)) : W p l e R s m args below meth c0 H locs cells slots Q (F0 m pc ls st) := by
  subst hst
  exact va_callv (va_runV S hM cw ⟨mh_blind, va_recv hKK.1 (mh_pO hW) (q0 := 0) (show vwCl[cMh]? = some (RX5, TX5, 14) from rfl) rfl, fun U hU hW9 => ⟨rfl, by rw [hU], by rw [hU]; exact hW, hKK.on hW9⟩⟩ rfl hn hsize rfl (lv_room hrest) hdg hf) hS (fun q _ h => h) (fun q h => h) (fun τ t H1 locs1 ht _ hp hB1 hz hq hS1 => kk τ H1 locs1 hp (by rw [ht] at hB1; exact hB1) hz hq hS1)
/-- a static method across the nest that neither reads nor writes -/
theorem mh_pureN {post : Int32 → Prop} (S : CallFix p m c0 cc nL s args Ts own) (hM : Met l y ws rm (va_Pc As (fun _ => True)) (va_Qi (fun r (_ : Unit) => post r) (fun _ _ => True) (fun _ => False)) mc ms (fun _ => False)) (cw : va_CN R s args own index y RX6 bytes maxL ret ws rm mc ms na ∧ (Cond.static y).before args s = true ∧ True) (hW : mh_W D d.1 cB L ρ A H) (hS : va_S A s.heap H locs) (hn : As.length = na) (hsize : ls.size = nL) (hrest : (rest.map fun v => v.category).sum ≤ 8) (hdg : decode cc pc = .ok (.invokestatic index, 3)) (hf : cells + mc ≤ R.cells ∧ slots + ms ≤ R.slots) (hst : st = As.reverse ++ rest)
    (kk : ∀ (r : Int32) (H1 : Heap) (locs1 : List Loc), post r → mh_W D d.1 cB L ρ A H1 → H.size ≤ H1.size → (∀ q : Nat, q < H.size → H1[q]? = H[q]?) → va_S A s.heap H1 locs1 → W p l e R s m args below meth c0 H1 locs1 (cells + mc) (slots + ms) Q (F0 m (pc + 3) ls (.int r :: rest))) : W p l e R s m args below meth c0 H locs cells slots Q (F0 m pc ls st) := by
  subst hst
  exact va_calli (va_runSN S hM cw ⟨fun a U g mk q => q, fun U hU hW2 => ⟨rfl, trivial⟩⟩ rfl hn hsize rfl (lv_room hrest) hdg hf) hS (fun q _ h => h.elim) (fun q h => h.elim) (fun r u t H1 locs1 ht _ hp _ hz hq hS1 => kk r H1 locs1 hp (hW.all (fun q h => hq q h (fun z => z))) hz (fun q h => hq q h (fun z => z)) hS1)
end MHM
