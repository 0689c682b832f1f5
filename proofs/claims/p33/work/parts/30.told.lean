/-! TOLD: the law's own house of cells, by (kind, number). Kinds: 0 the object, 1 to 7 its rows of rows (fame, trends, rest, low, high, figures, rooms), 11 to 17 the rows in them. c: kind, number, slot; of kind 0 the numbers in the object's own slots. n: how many rows a row of rows has. -/
abbrev cTo : Nat := 5
def tl_ix (n : Nat → Nat) (k i : Nat) : Prop := (k < 8 ∧ i = 0) ∨ (11 ≤ k ∧ k ≤ 17 ∧ i < n (k - 10))
theorem tl_ixO {n : Nat → Nat} {k : Nat} (h : k < 8) : tl_ix n k 0 := Or.inl ⟨h, rfl⟩
theorem tl_ixR {n : Nat → Nat} {k i : Nat} (h1 : 1 ≤ k) (h2 : k ≤ 7) (h : i < n k) : tl_ix n (10 + k) i := Or.inr ⟨by omega, by omega, by rw [show 10 + k - 10 = k by omega]; exact h⟩
def tl_wd (k : Nat) : Nat := if k = 14 then 6 else if k = 15 then 6 else if k = 16 then 10 else if k = 17 then 2 else 3
def tl_ct (w b : Nat) (cI cB : ClassId) (L : hs_Lo) (n : Nat → Nat) (c : hs_St) (k i : Nat) : va_E :=
  if k = 0 then .inr (cTo, [.ref w, .ref b, .int (c 0 0 2), .ref (L 1 0), .ref (L 2 0), .ref (L 3 0), .ref (L 4 0), .ref (L 5 0), .ref (L 6 0), .ref (L 7 0), .int (c 0 0 10), .int (c 0 0 11), .int (c 0 0 12), .int (c 0 0 13), .int (c 0 0 14)])
  else if k < 8 then .inl (cB, n k, .inr (.inr (.inr (.inr (fun j => some (L (10 + k) j))))))
  else .inl (cI, tl_wd k, .inl (c k i))
section TLC
variable {w b : Nat} {cI cB : ClassId} {L : hs_Lo} {n : Nat → Nat} {c : hs_St}
theorem tl_ct0 (i : Nat) : tl_ct w b cI cB L n c 0 i = .inr (cTo, [.ref w, .ref b, .int (c 0 0 2), .ref (L 1 0), .ref (L 2 0), .ref (L 3 0), .ref (L 4 0), .ref (L 5 0), .ref (L 6 0), .ref (L 7 0), .int (c 0 0 10), .int (c 0 0 11), .int (c 0 0 12), .int (c 0 0 13), .int (c 0 0 14)]) := if_pos rfl
theorem tl_ctO {k : Nat} (i : Nat) (h1 : 1 ≤ k) (h2 : k ≤ 7) : tl_ct w b cI cB L n c k i = .inl (cB, n k, .inr (.inr (.inr (.inr (fun j => some (L (10 + k) j)))))) := by
  unfold tl_ct
  rw [if_neg (by omega), if_pos (by omega)]
theorem tl_ctR {k : Nat} (i : Nat) (h1 : 8 ≤ k) : tl_ct w b cI cB L n c k i = .inl (cI, tl_wd k, .inl (c k i)) := by
  unfold tl_ct
  rw [if_neg (by omega), if_neg (by omega)]
end TLC
def tl_W (D : va_G) (w b : Nat) (cI cB : ClassId) (L : hs_Lo) (n : Nat → Nat) (c : hs_St) (A : Nat → Prop) (H : Heap) : Prop := (∀ k i, tl_ix n k i → va_at D vwCl (L k i, tl_ct w b cI cB L n c k i) H) ∧ (∀ k i, tl_ix n k i → A (L k i)) ∧ (∀ k i k' i', tl_ix n k i → tl_ix n k' i' → L k i = L k' i' → k = k' ∧ i = i')
/-- Told and its house: the house's cells are none of Told's -/
def tl_B (D : va_G) (d : hs_Dm) (a0 w b : Nat) (cB : ClassId) (Lh : hs_Lo) (Ah A : Nat → Prop) (L : hs_Lo) (n : Nat → Nat) (c σ : hs_St) (H : Heap) : Prop := tl_W D w b d.1 cB L n c A H ∧ (∀ k i, tl_ix n k i → ¬ Ah (L k i)) ∧ hs_W D d Lh σ Ah H ∧ (∀ q, Ah q → q < H.size) ∧ L 0 0 = a0
/-- an address that is new to both -/
def tl_nw (L : hs_Lo) (n : Nat → Nat) (Ah : Nat → Prop) (v : Nat) : Prop := (∀ k i, tl_ix n k i → L k i < v) ∧ ∀ q, Ah q → q < v
section TLW
variable {D : va_G} {d : hs_Dm} {a0 w b : Nat} {cB : ClassId} {Lh L : hs_Lo} {Ah A : Nat → Prop} {n : Nat → Nat} {c σ : hs_St} {H H1 : Heap}
theorem tl_one {cI : ClassId} (h : tl_W D w b cI cB L n c A H) {k i : Nat} (hx : tl_ix n k i) : va_P D vwCl [(L k i, tl_ct w b cI cB L n c k i)] H := by
  intro m q hq
  cases m with
  | zero => cases hq; exact h.1 k i hx
  | succ m => simp at hq
theorem tl_pO (h : tl_B D d a0 w b cB Lh Ah A L n c σ H) : va_P D vwCl [(a0, .inr (cTo, [.ref w, .ref b, .int (c 0 0 2), .ref (L 1 0), .ref (L 2 0), .ref (L 3 0), .ref (L 4 0), .ref (L 5 0), .ref (L 6 0), .ref (L 7 0), .int (c 0 0 10), .int (c 0 0 11), .int (c 0 0 12), .int (c 0 0 13), .int (c 0 0 14)]))] H := by
  rw [← h.2.2.2.2]
  exact tl_one h.1 (tl_ixO (by decide))
theorem tl_pQ (h : tl_B D d a0 w b cB Lh Ah A L n c σ H) {k : Nat} (h1 : 1 ≤ k) (h2 : k ≤ 7) : va_P D vwCl [(L k 0, .inl (cB, n k, .inr (.inr (.inr (.inr (fun j => some (L (10 + k) j)))))))] H := by
  rw [← tl_ctO (w := w) (b := b) (cI := d.1) (c := c) 0 h1 h2]
  exact tl_one h.1 (tl_ixO (by omega))
theorem tl_pR (h : tl_B D d a0 w b cB Lh Ah A L n c σ H) {k i : Nat} (h1 : 1 ≤ k) (h2 : k ≤ 7) (hi : i < n k) : va_P D vwCl [(L (10 + k) i, .inl (d.1, tl_wd (10 + k), .inl (c (10 + k) i)))] H := by
  rw [← tl_ctR (w := w) (b := b) (cI := d.1) (cB := cB) (L := L) (n := n) (c := c) i (show 8 ≤ 10 + k by omega)]
  exact tl_one h.1 (tl_ixR h1 h2 hi)
theorem tl_B.kept (h : tl_B D d a0 w b cB Lh Ah A L n c σ H) (hz : H.size ≤ H1.size) (hq : ∀ q : Nat, q < H.size → ((∃ k i, tl_ix n k i ∧ q = L k i) ∨ Ah q) → H1[q]? = H[q]?) : tl_B D d a0 w b cB Lh Ah A L n c σ H1 := ⟨⟨fun k i hx => (h.1.1 k i hx).kept (hq _ (h.1.1 k i hx).lt (Or.inl ⟨k, i, hx, rfl⟩)), h.1.2.1, h.1.2.2⟩, h.2.1, h.2.2.1.kept (fun q h1 h2 => hq q h1 (Or.inr h2)), fun q z => Nat.lt_of_lt_of_le (h.2.2.2.1 q z) hz, h.2.2.2.2⟩
theorem tl_B.all (h : tl_B D d a0 w b cB Lh Ah A L n c σ H) (hz : H.size ≤ H1.size) (hq : ∀ q : Nat, q < H.size → H1[q]? = H[q]?) : tl_B D d a0 w b cB Lh Ah A L n c σ H1 := h.kept hz (fun q z _ => hq q z)
theorem tl_B.nw (h : tl_B D d a0 w b cB Lh Ah A L n c σ H) {v : Nat} (hv : H.size ≤ v) : tl_nw L n Ah v := ⟨fun k i hx => Nat.lt_of_lt_of_le (h.1.1 k i hx).lt hv, fun q z => Nat.lt_of_lt_of_le (h.2.2.2.1 q z) hv⟩
theorem tl_B.off (h : tl_B D d a0 w b cB Lh Ah A L n c σ H) {v : Nat} (hv : tl_nw L n Ah v) (hz : H.size ≤ H1.size) (hq : ∀ q : Nat, q ≠ v → H1[q]? = H[q]?) : tl_B D d a0 w b cB Lh Ah A L n c σ H1 := h.kept hz (fun q _ z => hq q (by
  rcases z with ⟨k, i, hx, rfl⟩ | z
  · exact Nat.ne_of_lt (hv.1 k i hx)
  · exact Nat.ne_of_lt (hv.2 q z)))
/-- a cell of Told's is changed -/
theorem tl_B.putG (h : tl_B D d a0 w b cB Lh Ah A L n c σ H) {k i : Nat} (hx : tl_ix n k i) {c2 : hs_St} (he : va_at D vwCl (L k i, tl_ct w b d.1 cB L n c2 k i) H1) (hz : H.size ≤ H1.size) (oq : ∀ q : Nat, q < H.size → q ≠ L k i → H1[q]? = H[q]?) (hs : ∀ k' i', tl_ix n k' i' → ¬ (k' = k ∧ i' = i) → ∀ j, c2 k' i' j = c k' i' j) : tl_B D d a0 w b cB Lh Ah A L n c2 σ H1 := by
  refine ⟨⟨fun k' i' hx' => ?_, h.1.2.1, h.1.2.2⟩, h.2.1, h.2.2.1.kept (fun q hq z => oq q hq (fun e => h.2.1 k i hx (by rw [← e]; exact z))), fun q z => Nat.lt_of_lt_of_le (h.2.2.2.1 q z) hz, h.2.2.2.2⟩
  by_cases e : k' = k ∧ i' = i
  · obtain ⟨rfl, rfl⟩ := e
    exact he
  · have hne : L k' i' ≠ L k i := fun z => e (h.1.2.2 _ _ _ _ hx' hx z)
    have hc : tl_ct w b d.1 cB L n c2 k' i' = tl_ct w b d.1 cB L n c k' i' := by
      have hf : c2 k' i' = c k' i' := funext (hs k' i' hx' e)
      unfold tl_ct
      by_cases e0 : k' = 0
      · subst e0
        have hi : i' = 0 := by
          rcases hx' with z | z
          · exact z.2
          · omega
        subst hi
        rw [if_pos rfl, if_pos rfl, hf]
      · rw [if_neg e0, if_neg e0, hf]
    rw [hc]
    exact (h.1.1 k' i' hx').kept (oq _ (h.1.1 k' i' hx').lt hne)
theorem tl_B.put (h : tl_B D d a0 w b cB Lh Ah A L n c σ H) {k i : Nat} (hx : tl_ix n k i) {c2 : hs_St} (he : va_at D vwCl (L k i, tl_ct w b d.1 cB L n c2 k i) H1) (hz : H1.size = H.size) (oq : ∀ q : Nat, q ≠ L k i → H1[q]? = H[q]?) (hs : ∀ k' i', tl_ix n k' i' → ¬ (k' = k ∧ i' = i) → ∀ j, c2 k' i' j = c k' i' j) : tl_B D d a0 w b cB Lh Ah A L n c2 σ H1 := h.putG hx he (by omega) (fun q _ z => oq q z) hs
/-- a row more -/
def tl_gL (L : hs_Lo) (k m q v : Nat) : hs_Lo := fun a i => if a = k ∧ i = 0 then q else if a = 10 + k ∧ i = m then v else L a i
def tl_gn (n : Nat → Nat) (k : Nat) : Nat → Nat := fun a => if a = k then n a + 1 else n a
def tl_gc (c : hs_St) (k m : Nat) (g : Nat → Int32) : hs_St := fun a i j => if a = 10 + k ∧ i = m then g j else c a i j
theorem tl_gnS (n : Nat → Nat) (k : Nat) : tl_gn n k k = n k + 1 := if_pos rfl
theorem tl_gnO (n : Nat → Nat) {k a : Nat} (h : a ≠ k) : tl_gn n k a = n a := if_neg h
end TLW
section TLR
variable {p : Program} {l : Launch} {e : Env} {R : Room} {s : State} {m : MethodId} {args : Array Value} {below : List Frame} {meth : Method} {c0 : Code} {H : Heap} {locs : List Loc} {cells slots : Nat} {Q : State → Prop}
variable {cc : ByteArray} {pc : Nat} {ls : Array Slot} {rest : List Value} {D : va_G} {d : hs_Dm} {a0 w b : Nat} {cB : ClassId} {Lh L : hs_Lo} {Ah A : Nat → Prop} {n : Nat → Nat} {c σ : hs_St} {H0 : Heap}
/-- a number of the object's own is written -/
theorem tl_puti (hexec : p.tables.exec = Jvm.exec) (hb : c0.code = cc) {own : String} {index : Nat} {Ts : List Cond} (hts : ∀ w ∈ Ts, w.before args s = true) (hin : ∀ w ∈ u_ws RX5 TX5 15, w ∈ Ts) (hown : s.vm.findClass own = some m.cls) (hK : va_K D vwCl (hs_ty d) s) (hW : tl_B D d a0 w b cB Lh Ah A L n c σ H) (hS0 : va_S A H0 H locs) (j : Nat) (hj : j < 15) (hlink : (Cond.fieldLink own index RX5 (TX5 j).2.1 (TX5 j).2.2.1).before args s = true) (hsame : (TX5 j).1 = RX5) (hfin : (TX5 j).2.2.2 = false) (x : Int32) (hd : parseFieldDescriptor (TX5 j).2.2.1 = some .int) (hτ : tl_ct w b d.1 cB L n (hs_sg c 0 0 j x) 0 0 = .inr (cTo, ([.ref w, .ref b, .int (c 0 0 2), .ref (L 1 0), .ref (L 2 0), .ref (L 3 0), .ref (L 4 0), .ref (L 5 0), .ref (L 6 0), .ref (L 7 0), .int (c 0 0 10), .int (c 0 0 11), .int (c 0 0 12), .int (c 0 0 13), .int (c 0 0 14)] : List Value).set j (.int x)))
    (hdg : decode cc pc = .ok (.putfield index, 3)) (kk : ∀ (H1 : Heap) (locs1 : List Loc), tl_B D d a0 w b cB Lh Ah A L n (hs_sg c 0 0 j x) σ H1 → va_S A H0 H1 locs1 → H1.size = H.size → (∀ q : Nat, q ≠ a0 → H1[q]? = H[q]?) → W p l e R s m args below meth c0 H1 locs1 cells slots Q (F0 m (pc + 3) ls rest)) : W p l e R s m args below meth c0 H locs cells slots Q (F0 m pc ls (.int x :: .ref a0 :: rest)) := by
  have h00 := hW.2.2.2.2
  subst h00
  have hc : vwCl[cTo]? = some (RX5, TX5, 15) := rfl
  have hap := va_apart (own := own) hts hin tyX5 tyX5_ok nmX5 hK hc
  have hx : tl_ix n 0 0 := tl_ixO (by decide)
  have hP := hW.1.1 0 0 hx
  rw [tl_ct0] at hP
  obtain ⟨r, h1, cell, q1, q2, q3, q4⟩ := hP
  have hr : r = (RX5, TX5, 15) := Option.some.inj (h1.symm.trans hc)
  subst hr
  obtain ⟨hS, hfc, kC, hkC, hkind⟩ := hK.1 cTo _ hc
  obtain ⟨cf, kf, fi, f, hi, hsl⟩ := hS j hj
  have hlay := hts _ (hin _ (u_in_lay hj))
  unfold u_lay at hlay
  rw [if_neg (by rw [hfin]; decide)] at hlay
  have hst := (u_facts hfc hkC (u_lays hts hin hj) hi).1
  have h6 := u_store hfc hkC hkind hlay hi hd (show narrow .int (.int x) = .int x from rfl) (show fits .int (.int x) = true from rfl)
  have hi2 := hi
  rw [hsame] at hi2
  refine W.putK hexec hb (f := f) ⟨hown, hlink, ⟨_, _, _, hi2⟩, hst⟩ (by rw [q2]; exact h6) q1 q3 (by rw [hsl]; exact k2_hasslot (q4 j hj)) rfl rfl hdg fun H' e1 e2 e3 => ?_
  rw [hsl] at e1 ⊢
  refine kk H' _ (hW.put hx ?_ e2 e3 (fun k' i' _ hn j' => ?_)) (hS0.put e2 e3 (hW.1.2.1 0 0 hx)) e2 e3
  · rw [hτ]
    exact ⟨_, hc, t_OB.to (V := updV (vp_V _) j (.int x)) ⟨_, e1, q2, q3, t_set q4 hap hj (.int x)⟩ (fun n _ => vp_updV_set hj (.int x) n)⟩
  · unfold hs_sg
    rw [if_neg (fun z => hn ⟨z.1, z.2.1⟩)]
/-- a row of rows gives way to one that has a row more -/
theorem tl_grow (hexec : p.tables.exec = Jvm.exec) (hb : c0.code = cc) {own : String} {index : Nat} {Ts : List Cond} (hts : ∀ w ∈ Ts, w.before args s = true) (hin : ∀ w ∈ u_ws RX5 TX5 15, w ∈ Ts) (hown : s.vm.findClass own = some m.cls) (hK : va_K D vwCl (hs_ty d) s) (hW : tl_B D d a0 w b cB Lh Ah A L n c σ H) (hS0 : va_S A H0 H locs) (k q v : Nat) (h1k : 1 ≤ k) (hk7 : k ≤ 7) (hlink : (Cond.fieldLink own index RX5 (TX5 (k + 2)).2.1 (TX5 (k + 2)).2.2.1).before args s = true) (hsame : (TX5 (k + 2)).1 = RX5) (hfin : (TX5 (k + 2)).2.2.2 = false) (hd : parseFieldDescriptor (TX5 (k + 2)).2.2.1 = some (.array (.array .int))) {g : Nat → Int32} (hv : va_at D vwCl (v, .inl (d.1, tl_wd (10 + k), .inl g)) H) (hq : va_at D vwCl (q, .inl (cB, n k + 1, .inr (.inr (.inr (.inr (fun j => some (if j = n k then v else L (10 + k) j))))))) H) (nv : tl_nw L n Ah v) (nq : tl_nw L n Ah q) (hvq : v ≠ q) (hAv : A v) (hAq : A q)
    (hτ : tl_ct w b d.1 cB (tl_gL L k (n k) q v) (tl_gn n k) (tl_gc c k (n k) g) 0 0 = .inr (cTo, ([.ref w, .ref b, .int (c 0 0 2), .ref (L 1 0), .ref (L 2 0), .ref (L 3 0), .ref (L 4 0), .ref (L 5 0), .ref (L 6 0), .ref (L 7 0), .int (c 0 0 10), .int (c 0 0 11), .int (c 0 0 12), .int (c 0 0 13), .int (c 0 0 14)] : List Value).set (k + 2) (.ref q)))
    (hdg : decode cc pc = .ok (.putfield index, 3)) (kk : ∀ (H1 : Heap) (locs1 : List Loc), tl_B D d a0 w b cB Lh Ah A (tl_gL L k (n k) q v) (tl_gn n k) (tl_gc c k (n k) g) σ H1 → va_S A H0 H1 locs1 → H1.size = H.size → W p l e R s m args below meth c0 H1 locs1 cells slots Q (F0 m (pc + 3) ls rest)) : W p l e R s m args below meth c0 H locs cells slots Q (F0 m pc ls (.ref q :: .ref a0 :: rest)) := by
  have h00 := hW.2.2.2.2
  subst h00
  have hc : vwCl[cTo]? = some (RX5, TX5, 15) := rfl
  have hap := va_apart (own := own) hts hin tyX5 tyX5_ok nmX5 hK hc
  have hj : k + 2 < 15 := by omega
  have hx : tl_ix n 0 0 := tl_ixO (by decide)
  have hP := hW.1.1 0 0 hx
  rw [tl_ct0] at hP
  obtain ⟨r, h1, cell, q1, q2, q3, q4⟩ := hP
  have hr : r = (RX5, TX5, 15) := Option.some.inj (h1.symm.trans hc)
  subst hr
  obtain ⟨hS, hfc, kC, hkC, hkind⟩ := hK.1 cTo _ hc
  obtain ⟨cf, kf, fi, f, hi, hsl⟩ := hS (k + 2) hj
  have hlay := hts _ (hin _ (u_in_lay hj))
  unfold u_lay at hlay
  rw [if_neg (by rw [hfin]; decide)] at hlay
  have hst := (u_facts hfc hkC (u_lays hts hin hj) hi).1
  have h6 := u_store hfc hkC hkind hlay hi hd (show narrow (.array (.array .int)) (.ref q) = .ref q from rfl) (show fits (.array (.array .int)) (.ref q) = true from rfl)
  have hi2 := hi
  rw [hsame] at hi2
  refine W.putK hexec hb (f := f) ⟨hown, hlink, ⟨_, _, _, hi2⟩, hst⟩ (by rw [q2]; exact h6) q1 q3 (by rw [hsl]; exact k2_hasslot (q4 (k + 2) hj)) rfl rfl hdg fun H' e1 e2 e3 => ?_
  rw [hsl] at e1 ⊢
  have n0v : v ≠ L 0 0 := fun z => Nat.lt_irrefl _ (z ▸ nv.1 0 0 hx)
  have n0q : q ≠ L 0 0 := fun z => Nat.lt_irrefl _ (z ▸ nq.1 0 0 hx)
  -- the new world's places: which they are
  have cut : ∀ a i, tl_ix (tl_gn n k) a i → (a = k ∧ i = 0 ∧ tl_gL L k (n k) q v a i = q) ∨ (a = 10 + k ∧ i = n k ∧ tl_gL L k (n k) q v a i = v) ∨ (tl_ix n a i ∧ ¬ (a = k) ∧ ¬ (a = 10 + k ∧ i = n k) ∧ tl_gL L k (n k) q v a i = L a i) := by
    intro a i ha
    by_cases x1 : a = k ∧ i = 0
    · exact Or.inl ⟨x1.1, x1.2, by unfold tl_gL; rw [if_pos x1]⟩
    · by_cases x2 : a = 10 + k ∧ i = n k
      · exact Or.inr (Or.inl ⟨x2.1, x2.2, by unfold tl_gL; rw [if_neg x1, if_pos x2]⟩)
      · refine Or.inr (Or.inr ⟨?_, ?_, x2, by unfold tl_gL; rw [if_neg x1, if_neg x2]⟩)
        · rcases ha with z | ⟨z1, z2, z3⟩
          · exact Or.inl z
          · refine Or.inr ⟨z1, z2, ?_⟩
            by_cases x3 : a - 10 = k
            · rw [x3, tl_gnS] at z3
              rw [x3]
              omega
            · rw [tl_gnO _ x3] at z3
              exact z3
        · intro z
          rcases ha with y | y
          · exact x1 ⟨z, y.2⟩
          · omega
  refine kk H' _ ⟨⟨fun a i ha => ?_, fun a i ha => ?_, fun a i a' i' ha ha' he => ?_⟩, fun a i ha => ?_, hW.2.2.1.kept (fun x _ z => e3 x (fun y => hW.2.1 0 0 hx ((show x = L 0 0 from y) ▸ z))), fun x z => by rw [e2]; exact hW.2.2.2.1 x z, by unfold tl_gL; rw [if_neg (by omega), if_neg (by omega)]⟩ (hS0.put e2 e3 (hW.1.2.1 0 0 hx)) e2
  · rcases cut a i ha with ⟨rfl, rfl, z⟩ | ⟨rfl, rfl, z⟩ | ⟨z1, z2, z3, z⟩
    · rw [z, tl_ctO 0 h1k hk7, tl_gnS]
      have hf : (fun j => some (tl_gL L a (n a) q v (10 + a) j)) = (fun j => some (if j = n a then v else L (10 + a) j)) := by
        funext j
        unfold tl_gL
        rw [if_neg (by omega)]
        by_cases y : j = n a
        · rw [if_pos ⟨rfl, y⟩, if_pos y]
        · rw [if_neg (fun y2 => y y2.2), if_neg y]
      rw [hf]
      exact hq.kept (e3 q n0q)
    · rw [z, tl_ctR _ (by omega)]
      have hf : tl_gc c k (n k) g (10 + k) (n k) = g := by
        funext j
        unfold tl_gc
        rw [if_pos ⟨rfl, rfl⟩]
      rw [hf]
      exact hv.kept (e3 v n0v)
    · by_cases x0 : a = 0
      · subst x0
        have hi0 : i = 0 := by
          rcases z1 with y | y
          · exact y.2
          · omega
        subst hi0
        rw [z, hτ]
        exact ⟨_, hc, t_OB.to (V := updV (vp_V _) (k + 2) (.ref q)) ⟨_, e1, q2, q3, t_set q4 hap hj (.ref q)⟩ (fun n _ => vp_updV_set hj (.ref q) n)⟩
      · have hne : L a i ≠ L 0 0 := fun y => x0 (hW.1.2.2 _ _ _ _ z1 hx y).1
        have hold := (hW.1.1 a i z1).kept (e3 _ hne)
        rw [z]
        by_cases x8 : a < 8
        · have hi0 : i = 0 := by
            rcases z1 with y | y
            · exact y.2
            · omega
          subst hi0
          rw [tl_ctO 0 (by omega) (by omega)] at hold ⊢
          rw [tl_gnO _ z2]
          have hf : (fun j => some (tl_gL L k (n k) q v (10 + a) j)) = (fun j => some (L (10 + a) j)) := by
            funext j
            unfold tl_gL
            rw [if_neg (by omega), if_neg (by omega)]
          rw [hf]
          exact hold
        · rw [tl_ctR _ (by omega)] at hold ⊢
          have hf : tl_gc c k (n k) g a i = c a i := by
            funext j
            unfold tl_gc
            rw [if_neg z3]
          rw [hf]
          exact hold
  · rcases cut a i ha with ⟨-, -, z⟩ | ⟨-, -, z⟩ | ⟨z1, -, -, z⟩
    · rw [z]; exact hAq
    · rw [z]; exact hAv
    · rw [z]; exact hW.1.2.1 a i z1
  · rcases cut a i ha with ⟨y1, y2, z⟩ | ⟨y1, y2, z⟩ | ⟨y1, -, -, z⟩ <;> rcases cut a' i' ha' with ⟨x1, x2, z'⟩ | ⟨x1, x2, z'⟩ | ⟨x1, -, -, z'⟩ <;> rw [z, z'] at he
    · exact ⟨by omega, by omega⟩
    · exact absurd he.symm hvq
    · exact absurd he.symm (Nat.ne_of_lt (nq.1 _ _ x1))
    · exact absurd he hvq
    · exact ⟨by omega, by omega⟩
    · exact absurd he.symm (Nat.ne_of_lt (nv.1 _ _ x1))
    · exact absurd he (Nat.ne_of_lt (nq.1 _ _ y1))
    · exact absurd he (Nat.ne_of_lt (nv.1 _ _ y1))
    · exact hW.1.2.2 _ _ _ _ y1 x1 he
  · rcases cut a i ha with ⟨-, -, z⟩ | ⟨-, -, z⟩ | ⟨z1, -, -, z⟩
    · rw [z]; exact fun y => Nat.lt_irrefl _ (nq.2 q y)
    · rw [z]; exact fun y => Nat.lt_irrefl _ (nv.2 v y)
    · rw [z]; exact hW.2.1 a i z1
/-- a number in one of the rows is written -/
theorem tl_iast (hexec : p.tables.exec = Jvm.exec) (hb : c0.code = cc) (hK : va_K D vwCl (hs_ty d) s) (hW : tl_B D d a0 w b cB Lh Ah A L n c σ H) (hS : va_S A H0 H locs) (k q : Nat) (h1 : 1 ≤ k) (h2 : k ≤ 7) (hq : q < n k) {i x : Int32} (hin : vp_in i (tl_wd (10 + k))) (hdg : decode cc pc = .ok (.iastore, 1))
    (kk : ∀ (H1 : Heap) (locs1 : List Loc), tl_B D d a0 w b cB Lh Ah A L n (hs_sg c (10 + k) q i.toNatClampNeg x) σ H1 → va_S A H0 H1 locs1 → H1.size = H.size → W p l e R s m args below meth c0 H1 locs1 cells slots Q (F0 m (pc + 1) ls rest)) : W p l e R s m args below meth c0 H locs cells slots Q (F0 m pc ls (.int x :: .int i :: .ref (L (10 + k) q) :: rest)) := by
  have hx : tl_ix n (10 + k) q := tl_ixR h1 h2 hq
  have hP := hW.1.1 (10 + k) q hx
  rw [tl_ctR _ (by omega)] at hP
  refine W.iast hexec hb hP ((hK.2 0 _ rfl).1 (tl_wd (10 + k)) (fun j => .int (c (10 + k) q j))) (fun q => by cases q) (by show ¬ (i < 0 ∨ (arrV _ _ _).slots.size ≤ _); rw [arrV_size]; exact hin) rfl rfl hdg fun H1 e z oq => ?_
  refine kk H1 _ (hW.put hx ?_ z oq (fun k' i' _ hn j' => by unfold hs_sg; rw [if_neg (fun y => hn ⟨y.1, y.2.1⟩)])) (hS.put z oq (hW.1.2.1 _ _ hx)) z
  rw [tl_ctR _ (by omega), hs_arr]
  show H1[L (10 + k) q]? = some (vp_cell _ _)
  rw [e]
  rw [vp_cell_i, vp_cell_i, arrV_store]
  congr 2
  funext z
  by_cases hq : z = i.toNatClampNeg
  · subst hq
    simp [updV, upd]
  · simp [updV, upd, hq]
theorem tl_iald (hexec : p.tables.exec = Jvm.exec) (hb : c0.code = cc) (hK : va_K D vwCl (hs_ty d) s) (hW : tl_B D d a0 w b cB Lh Ah A L n c σ H) (k q : Nat) (h1 : 1 ≤ k) (h2 : k ≤ 7) (hq : q < n k) {i : Int32} (hin : vp_in i (tl_wd (10 + k))) (hdg : decode cc pc = .ok (.iaload, 1))
    (kk : W p l e R s m args below meth c0 H locs cells slots Q (F0 m (pc + 1) ls (.int (c (10 + k) q i.toNatClampNeg) :: rest))) : W p l e R s m args below meth c0 H locs cells slots Q (F0 m pc ls (.int i :: .ref (L (10 + k) q) :: rest)) :=
  va_iald hexec hb hK (tl_pR hW h1 h2 hq) 0 0 rfl rfl hin hdg kk
theorem tl_aald (hexec : p.tables.exec = Jvm.exec) (hb : c0.code = cc) (hKB : va_K D vwCl [(d.1, .int), (cB, .array .int)] s) (hW : tl_B D d a0 w b cB Lh Ah A L n c σ H) (k q : Nat) (h1 : 1 ≤ k) (h2 : k ≤ 7) (hq : q < n k) (hq2 : q < 2 ^ 31) (hdg : decode cc pc = .ok (.aaload, 1))
    (kk : W p l e R s m args below meth c0 H locs cells slots Q (F0 m (pc + 1) ls (.ref (L (10 + k) q) :: rest))) : W p l e R s m args below meth c0 H locs cells slots Q (F0 m pc ls (.int (nI q) :: .ref (L k 0) :: rest)) := by
  have hlt : (nI q).toNatClampNeg < n k := by rw [nI_clamp hq2]; exact hq
  have hin : ¬ (nI q < 0 ∨ n k ≤ (nI q).toNatClampNeg) := by
    rintro (z | z)
    · exact nI_pos hq2 z
    · omega
  have k2 : W p l e R s m args below meth c0 H locs cells slots Q (F0 m (pc + 1) ls (va_rf (some (L (10 + k) (nI q).toNatClampNeg)) :: rest)) := by rw [nI_clamp hq2]; exact kk
  exact W.aald (v := va_rf (some (L (10 + k) (nI q).toNatClampNeg))) (ty := .array .int) hexec hb (tl_pQ hW h1 h2 0 _ rfl) ((hKB.2 1 _ rfl).1 (n k) (fun j => va_rf (some (L (10 + k) j)))) rfl (fun q => by cases q) (by show ¬ (nI q < 0 ∨ (arrV _ _ _).slots.size ≤ _); rw [arrV_size]; exact hin) (by show (arrV _ _ _).slots[_]? = _; rw [arrV_read _ _ hlt]) rfl rfl hdg k2
theorem tl_len (hexec : p.tables.exec = Jvm.exec) (hb : c0.code = cc) (hKB : va_K D vwCl [(d.1, .int), (cB, .array .int)] s) (hW : tl_B D d a0 w b cB Lh Ah A L n c σ H) (k : Nat) (h1 : 1 ≤ k) (h2 : k ≤ 7) (hdg : decode cc pc = .ok (.arraylength, 1))
    (kk : W p l e R s m args below meth c0 H locs cells slots Q (F0 m (pc + 1) ls (.int (nI (n k)) :: rest))) : W p l e R s m args below meth c0 H locs cells slots Q (F0 m pc ls (.ref (L k 0) :: rest)) := va_alen hexec hb hKB (tl_pQ hW h1 h2) 0 1 rfl rfl rfl hdg kk
/-- a new row of numbers -/
theorem tl_newa (hexec : p.tables.exec = Jvm.exec) (hb : c0.code = cc) (harr : (Cond.arrayClass .int).before args s = true) (hK : va_K D vwCl (hs_ty d) s) (hAz : ∀ q, H0.size ≤ q → A q) (hW : tl_B D d a0 w b cB Lh Ah A L n c σ H) (hS : va_S A H0 H locs)
    {i : Int32} {N' : Nat} (hn : ¬ i < 0) (hN : i.toNatClampNeg = N') (hbytes : N' * 4 ≤ 536870912) (hcells : cells + 1 ≤ R.cells) (hslots : slots + N' ≤ R.slots) (hdg : decode cc pc = .ok (.newarray .int, 2))
    (kk : ∀ (H1 : Heap) (v : Nat), tl_B D d a0 w b cB Lh Ah A L n c σ H1 → tl_nw L n Ah v → A v → va_at D vwCl (v, .inl (d.1, N', .inl (fun _ => 0))) H1 → H1.size = H.size + 1 → va_S A H0 H1 locs → W p l e R s m args below meth c0 H1 locs (cells + 1) (slots + N') Q (F0 m (pc + 2) ls (.ref v :: rest))) : W p l e R s m args below meth c0 H locs cells slots Q (F0 m pc ls (.int i :: rest)) := by
  refine va_newaK hexec hb (atype := .int) harr (g := F0 m pc ls (.int i :: rest)) rfl hdg rfl hn hN hbytes hcells hslots rfl fun H1 cA e1 z1 o1 hA hf => ?_
  have hcA : cA = d.1 := Option.some.inj (hf.symm.trans (rg_iarr hK))
  subst hcA
  have oq : ∀ q : Nat, q < H.size → H1[q]? = H[q]? := fun q hq => o1 q hq
  exact kk H1 H.size (hW.all (by omega) oq) (hW.nw (Nat.le_refl _)) (hAz _ hS.1) (by show H1[H.size]? = some (vp_cell _ _); rw [vp_cell_i]; exact e1) (by omega) (rg_S hS (by omega) oq)
/-- a number in the new row is written -/
theorem tl_niast (hexec : p.tables.exec = Jvm.exec) (hb : c0.code = cc) (hK : va_K D vwCl (hs_ty d) s) (hW : tl_B D d a0 w b cB Lh Ah A L n c σ H) (hS : va_S A H0 H locs) {v N' : Nat} {f : Nat → Int32} (hv : va_at D vwCl (v, .inl (d.1, N', .inl f)) H) (nv : tl_nw L n Ah v) (hA : A v) {i x : Int32} (hin : vp_in i N') (hdg : decode cc pc = .ok (.iastore, 1))
    (kk : ∀ (H1 : Heap) (locs1 : List Loc), tl_B D d a0 w b cB Lh Ah A L n c σ H1 → va_at D vwCl (v, .inl (d.1, N', .inl (upd f i.toNatClampNeg x))) H1 → H1.size = H.size → va_S A H0 H1 locs1 → W p l e R s m args below meth c0 H1 locs1 cells slots Q (F0 m (pc + 1) ls rest)) : W p l e R s m args below meth c0 H locs cells slots Q (F0 m pc ls (.int x :: .int i :: .ref v :: rest)) := by
  refine W.iast hexec hb hv ((hK.2 0 _ rfl).1 N' (fun j => .int (f j))) (fun q => by cases q) (by show ¬ (i < 0 ∨ (arrV _ _ _).slots.size ≤ _); rw [arrV_size]; exact hin) rfl rfl hdg fun H1 e z oq => ?_
  refine kk H1 _ (hW.off nv (by omega) oq) ?_ z (hS.put z oq hA)
  show H1[v]? = some (vp_cell _ _)
  rw [e]
  rw [vp_cell_i, vp_cell_i, arrV_store]
  congr 2
  funext z
  by_cases hq : z = i.toNatClampNeg
  · subst hq
    simp [updV, upd]
  · simp [updV, upd, hq]
theorem tl_niald (hexec : p.tables.exec = Jvm.exec) (hb : c0.code = cc) (hK : va_K D vwCl (hs_ty d) s) {v N' : Nat} {f : Nat → Int32} (hv : va_at D vwCl (v, .inl (d.1, N', .inl f)) H) {i : Int32} (hin : vp_in i N') (hdg : decode cc pc = .ok (.iaload, 1))
    (kk : W p l e R s m args below meth c0 H locs cells slots Q (F0 m (pc + 1) ls (.int (f i.toNatClampNeg) :: rest))) : W p l e R s m args below meth c0 H locs cells slots Q (F0 m pc ls (.int i :: .ref v :: rest)) :=
  va_iald hexec hb hK (ws := [(v, .inl (d.1, N', .inl f))]) (fun k q hk => by cases k with | zero => cases hk; exact hv | succ k => simp at hk) 0 0 rfl rfl hin hdg kk
theorem tl_nlen (hexec : p.tables.exec = Jvm.exec) (hb : c0.code = cc) (hK : va_K D vwCl (hs_ty d) s) {v N' : Nat} {f : Nat → Int32} (hv : va_at D vwCl (v, .inl (d.1, N', .inl f)) H) (hdg : decode cc pc = .ok (.arraylength, 1))
    (kk : W p l e R s m args below meth c0 H locs cells slots Q (F0 m (pc + 1) ls (.int (nI N') :: rest))) : W p l e R s m args below meth c0 H locs cells slots Q (F0 m pc ls (.ref v :: rest)) := va_alen hexec hb hK (ws := [(v, .inl (d.1, N', .inl f))]) (fun k q hk => by cases k with | zero => cases hk; exact hv | succ k => simp at hk) 0 0 rfl rfl rfl hdg kk
theorem tl_ne0 (hW : tl_B D d a0 w b cB Lh Ah A L n c σ H) {v : Nat} (nv : tl_nw L n Ah v) : v ≠ a0 := by
  have h := nv.1 0 0 (tl_ixO (by decide))
  rw [hW.2.2.2.2] at h
  exact Nat.ne_of_gt h
/-- a field of Told's is read -/
theorem tl_get (hexec : p.tables.exec = Jvm.exec) (hb : c0.code = cc) {own : String} {index : Nat} {Ts : List Cond} (hts : ∀ w ∈ Ts, w.before args s = true) (hin : ∀ w ∈ u_ws RX5 TX5 15, w ∈ Ts) (hown : s.vm.findClass own = some m.cls) (hK : va_K D vwCl (hs_ty d) s) (hW : tl_B D d a0 w b cB Lh Ah A L n c σ H) (j : Nat) (hj : j < 15) (hlink : (Cond.fieldLink own index RX5 (TX5 j).2.1 (TX5 j).2.2.1).before args s = true) (hsame : (TX5 j).1 = RX5) {v : Value} (hv : ([.ref w, .ref b, .int (c 0 0 2), .ref (L 1 0), .ref (L 2 0), .ref (L 3 0), .ref (L 4 0), .ref (L 5 0), .ref (L 6 0), .ref (L 7 0), .int (c 0 0 10), .int (c 0 0 11), .int (c 0 0 12), .int (c 0 0 13), .int (c 0 0 14)] : List Value)[j]? = some v) (hdg : decode cc pc = .ok (.getfield index, 3))
    (kk : W p l e R s m args below meth c0 H locs cells slots Q (F0 m (pc + 3) ls (v :: rest))) : W p l e R s m args below meth c0 H locs cells slots Q (F0 m pc ls (.ref a0 :: rest)) :=
  va_get (D := D) (ci := cTo) (C := RX5) (T := TX5) (N := 15) hexec hb hts hin hown hK (tl_pO hW) 0 rfl rfl j hj hlink (fun x h => by rw [hsame] at h; exact h) hv hdg kk
end TLR
