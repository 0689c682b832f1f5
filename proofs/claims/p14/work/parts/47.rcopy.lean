/-! THE REFERENCE'S HOUSE, COPIED -/
theorem arrV_cong (c : ClassId) (n : Nat) {f g : Nat → Value} (h : ∀ j, j < n → f j = g j) : arrV c n f = arrV c n g := by
  unfold arrV
  congr 1
  exact congrArg Array.ofFn (funext fun j => h j.1 j.2)
theorem va_at_q {D : va_G} {a : Nat} {c : ClassId} {n : Nat} {f g : Nat → Option Nat} {H : Heap} (h : ∀ j, j < n → f j = g j) (hv : va_at D vwCl (a, .inl (c, n, .inr (.inr (.inr (.inr f))))) H) : va_at D vwCl (a, .inl (c, n, .inr (.inr (.inr (.inr g))))) H := by
  have h0 : H[a]? = some (vp_cell c (n, .inr (.inr (.inr (.inr f))))) := hv
  show H[a]? = some (vp_cell c (n, .inr (.inr (.inr (.inr g)))))
  rw [h0, vp_cell_q, vp_cell_q, arrV_cong c n (fun j hj => by rw [h j hj])]
theorem va_at_i {D : va_G} {a : Nat} {c : ClassId} {n : Nat} {f g : Nat → Int32} {H : Heap} (h : ∀ j, j < n → f j = g j) (hv : va_at D vwCl (a, .inl (c, n, .inl f)) H) : va_at D vwCl (a, .inl (c, n, .inl g)) H := by
  have h0 : H[a]? = some (vp_cell c (n, .inl f)) := hv
  show H[a]? = some (vp_cell c (n, .inl g))
  rw [h0, vp_cell_i, vp_cell_i, arrV_cong c n (fun j hj => by rw [h j hj])]
theorem mh_W.agree {D : va_G} {cI cB : ClassId} {L : hs_Lo} {A : Nat → Prop} {ρ τ : hs_St} {H : Heap} (h : mh_W D cI cB L ρ A H) (h0 : ∀ j, 6 ≤ j → j < 14 → τ 0 0 j = ρ 0 0 j) (h1 : ∀ k i, 5 ≤ k → mh_ix k i → ∀ j, j < mh_w k → τ k i j = ρ k i j) : mh_W D cI cB L τ A H := by
  refine ⟨fun k i hx => ?_, h.2.1, h.2.2⟩
  have hP := h.1 k i hx
  by_cases e0 : k = 0
  · subst e0
    have hi : i = 0 := by
      rcases hx with z | z
      · exact z.2
      · omega
    subst hi
    rw [mh_ct0] at hP ⊢
    rw [h0 6 (by decide) (by decide), h0 7 (by decide) (by decide), h0 8 (by decide) (by decide), h0 9 (by decide) (by decide), h0 10 (by decide) (by decide), h0 11 (by decide) (by decide), h0 12 (by decide) (by decide), h0 13 (by decide) (by decide)]
    exact hP
  · by_cases e5 : k < 5
    · rw [mh_ctO i (by omega) (by omega)] at hP ⊢
      exact hP
    · rw [mh_ctR i (by omega)] at hP ⊢
      exact va_at_i (fun j hj => (h1 k i (by omega) hx j hj).symm) hP
/-- the places of a new house, from its first cell on -/
def mo (k i : Nat) : Nat := if k = 0 then 0 else if k = 1 then 1 else if k = 11 then 2 + i else if k = 2 then 12 else if k = 12 then 13 + i else if k = 3 then 23 else if k = 13 then 24 + i else if k = 4 then 34 else if k = 14 then 35 + i else if k = 5 then 43 else 44
def mi (q : Nat) : Nat × Nat := if q = 0 then (0, 0) else if q = 1 then (1, 0) else if q < 12 then (11, q - 2) else if q = 12 then (2, 0) else if q < 23 then (12, q - 13) else if q = 23 then (3, 0) else if q < 34 then (13, q - 24) else if q = 34 then (4, 0) else if q < 43 then (14, q - 35) else if q = 43 then (5, 0) else (6, 0)
def mL (b : Nat) : hs_Lo := fun k i => b + mo k i
def mp_born : hs_St := fun k _ j => if k = 0 then (if j = 11 then 5 else if j = 12 then 200 else if j = 13 then 30 else 0) else 0
theorem mh_ix_c {k i : Nat} (h : mh_ix k i) : (k ≤ 6 ∧ i = 0) ∨ (k = 11 ∧ i < 10) ∨ (k = 12 ∧ i < 10) ∨ (k = 13 ∧ i < 10) ∨ (k = 14 ∧ i < 8) := by
  rcases h with h | ⟨h1, h2, h3⟩
  · exact Or.inl h
  · rcases (show k = 11 ∨ k = 12 ∨ k = 13 ∨ k = 14 by omega) with rfl | rfl | rfl | rfl
    · exact Or.inr (Or.inl ⟨rfl, h3⟩)
    · exact Or.inr (Or.inr (Or.inl ⟨rfl, h3⟩))
    · exact Or.inr (Or.inr (Or.inr (Or.inl ⟨rfl, h3⟩)))
    · exact Or.inr (Or.inr (Or.inr (Or.inr ⟨rfl, h3⟩)))
theorem mi_mo {k i : Nat} (h : mh_ix k i) : mi (mo k i) = (k, i) := by
  rcases mh_ix_c h with ⟨h1, rfl⟩ | ⟨rfl, h1⟩ | ⟨rfl, h1⟩ | ⟨rfl, h1⟩ | ⟨rfl, h1⟩
  · rcases (show k = 0 ∨ k = 1 ∨ k = 2 ∨ k = 3 ∨ k = 4 ∨ k = 5 ∨ k = 6 by omega) with rfl | rfl | rfl | rfl | rfl | rfl | rfl <;> rfl
  · rcases (show i = 0 ∨ i = 1 ∨ i = 2 ∨ i = 3 ∨ i = 4 ∨ i = 5 ∨ i = 6 ∨ i = 7 ∨ i = 8 ∨ i = 9 by omega) with rfl | rfl | rfl | rfl | rfl | rfl | rfl | rfl | rfl | rfl <;> rfl
  · rcases (show i = 0 ∨ i = 1 ∨ i = 2 ∨ i = 3 ∨ i = 4 ∨ i = 5 ∨ i = 6 ∨ i = 7 ∨ i = 8 ∨ i = 9 by omega) with rfl | rfl | rfl | rfl | rfl | rfl | rfl | rfl | rfl | rfl <;> rfl
  · rcases (show i = 0 ∨ i = 1 ∨ i = 2 ∨ i = 3 ∨ i = 4 ∨ i = 5 ∨ i = 6 ∨ i = 7 ∨ i = 8 ∨ i = 9 by omega) with rfl | rfl | rfl | rfl | rfl | rfl | rfl | rfl | rfl | rfl <;> rfl
  · rcases (show i = 0 ∨ i = 1 ∨ i = 2 ∨ i = 3 ∨ i = 4 ∨ i = 5 ∨ i = 6 ∨ i = 7 by omega) with rfl | rfl | rfl | rfl | rfl | rfl | rfl | rfl <;> rfl
theorem mo_lt {k i : Nat} (h : mh_ix k i) : mo k i < 45 := by
  rcases mh_ix_c h with ⟨h1, rfl⟩ | ⟨rfl, h1⟩ | ⟨rfl, h1⟩ | ⟨rfl, h1⟩ | ⟨rfl, h1⟩
  · rcases (show k = 0 ∨ k = 1 ∨ k = 2 ∨ k = 3 ∨ k = 4 ∨ k = 5 ∨ k = 6 by omega) with rfl | rfl | rfl | rfl | rfl | rfl | rfl <;> decide
  · show 2 + i < 45
    omega
  · show 13 + i < 45
    omega
  · show 24 + i < 45
    omega
  · show 35 + i < 45
    omega
theorem mo_inj {k i k' i' : Nat} (h : mh_ix k i) (h' : mh_ix k' i') (e : mo k i = mo k' i') : k = k' ∧ i = i' := by
  have := mi_mo h
  rw [e, mi_mo h'] at this
  cases this
  exact ⟨rfl, rfl⟩
theorem mh_born {D : va_G} {d : hs_Dm} {cB : ClassId} {b : Nat} {A : Nat → Prop} {H : Heap} (hg : rg D (rf_H d cB b) b 45 H) (hA : ∀ q, b ≤ q → A q) : mh_W D d.1 cB (mL b) mp_born A H := by
  refine ⟨fun k i hx => ?_, fun k i _ => hA _ (Nat.le_add_right _ _), fun k i k' i' hx hx' e => mo_inj hx hx' (Nat.add_left_cancel e)⟩
  have hP := hg (mo k i) (mo_lt hx)
  show va_at D vwCl (b + mo k i, mh_ct d.1 cB (mL b) mp_born k i) H
  rcases mh_ix_c hx with ⟨h1, rfl⟩ | ⟨rfl, h1⟩ | ⟨rfl, h1⟩ | ⟨rfl, h1⟩ | ⟨rfl, h1⟩
  · rcases (show k = 0 ∨ k = 1 ∨ k = 2 ∨ k = 3 ∨ k = 4 ∨ k = 5 ∨ k = 6 by omega) with rfl | rfl | rfl | rfl | rfl | rfl | rfl
    · exact hP
    · refine va_at_q (fun j hj => ?_) hP
      exact if_pos hj
    · refine va_at_q (fun j hj => ?_) hP
      exact if_pos hj
    · refine va_at_q (fun j hj => ?_) hP
      exact if_pos hj
    · refine va_at_q (fun j hj => ?_) hP
      exact if_pos hj
    · exact hP
    · exact hP
  · rcases (show i = 0 ∨ i = 1 ∨ i = 2 ∨ i = 3 ∨ i = 4 ∨ i = 5 ∨ i = 6 ∨ i = 7 ∨ i = 8 ∨ i = 9 by omega) with rfl | rfl | rfl | rfl | rfl | rfl | rfl | rfl | rfl | rfl <;> exact hP
  · rcases (show i = 0 ∨ i = 1 ∨ i = 2 ∨ i = 3 ∨ i = 4 ∨ i = 5 ∨ i = 6 ∨ i = 7 ∨ i = 8 ∨ i = 9 by omega) with rfl | rfl | rfl | rfl | rfl | rfl | rfl | rfl | rfl | rfl <;> exact hP
  · rcases (show i = 0 ∨ i = 1 ∨ i = 2 ∨ i = 3 ∨ i = 4 ∨ i = 5 ∨ i = 6 ∨ i = 7 ∨ i = 8 ∨ i = 9 by omega) with rfl | rfl | rfl | rfl | rfl | rfl | rfl | rfl | rfl | rfl <;> exact hP
  · rcases (show i = 0 ∨ i = 1 ∨ i = 2 ∨ i = 3 ∨ i = 4 ∨ i = 5 ∨ i = 6 ∨ i = 7 by omega) with rfl | rfl | rfl | rfl | rfl | rfl | rfl | rfl <;> exact hP
/-- a house, and a new one behind it -/
def mt_W (D : va_G) (d : hs_Dm) (cB : ClassId) (L : hs_Lo) (ρ : hs_St) (A : Nat → Prop) (b : Nat) (ρ2 : hs_St) (H : Heap) : Prop := mh_W D d.1 cB L ρ A H ∧ mh_W D d.1 cB (mL b) ρ2 (rg_A b) H ∧ ∀ k i, mh_ix k i → L k i < b
def mt_C (D : va_G) (d : hs_Dm) (cB : ClassId) (L : hs_Lo) (ρ : hs_St) (A : Nat → Prop) (b : Nat) (ρ2 : hs_St) (U : State) : Prop := mt_W D d cB L ρ A b ρ2 U.heap ∧ mh_K D d cB U
theorem mt_blind {D : va_G} {d : hs_Dm} {cB : ClassId} {L : hs_Lo} {ρ : hs_St} {A : Nat → Prop} {b : Nat} {ρ2 : hs_St} {av : List Value} : FrameBlind (va_Pc av (mt_C D d cB L ρ A b ρ2)) := fun a U g mk q => by
  obtain ⟨q0, q1, q2⟩ := q
  exact ⟨q0, q1, (mh_blind (L := L) (ρ := ρ) (A := A) (av := av) a U g mk ⟨q0, rfl, q1.1, q2⟩).2.2.2⟩
def mp_rows (ρ ρ2 : hs_St) (k : Nat) : Nat → hs_St
  | 0 => ρ2
  | n + 1 => hs_row (mp_rows ρ ρ2 k n) (10 + k) n (va_cpy (ρ (10 + k) n) (mp_rows ρ ρ2 k n (10 + k) n) 0 0 (mh_w (10 + k)))
section MTR
variable {p : Program} {l : Launch} {e : Env} {R : Room} {s : State} {m : MethodId} {args : Array Value} {below : List Frame} {meth : Method} {c0 : Code} {H : Heap} {locs : List Loc} {cells slots : Nat} {Q : State → Prop}
variable {cc : ByteArray} {pc : Nat} {ls : Array Slot} {rest : List Value} {D : va_G} {d : hs_Dm} {cB : ClassId} {L : hs_Lo} {A : Nat → Prop} {ρ ρ2 : hs_St} {H0 : Heap} {b : Nat}
theorem mt_copy (hexec : p.tables.exec = Jvm.exec) (hb : c0.code = cc) (hml : c0.maxLocals = ls.size) {own : String} {index : Nat} (hown : s.vm.findClass own = some m.cls) (hlink : (Cond.methodLink own index arraycopyName).before args s = true) (hnat : (Cond.native arraycopyName).before args s = true) (hstat : (Cond.static arraycopyName).before args s = true) (hini : (Cond.initialized "java/lang/System").before args s = true)
    (hK : va_K D vwCl (hs_ty d) s) (hT : mt_W D d cB L ρ A b ρ2 H) (hS : va_S (rg_A b) H0 H locs) {k q : Nat} (hk5 : 5 ≤ k) (hix : mh_ix k q) {x : Int32} (hxN : x = nI (mh_w k))
    (hframes : 1 ≤ R.frames) (hlocals : (rest.map fun v => v.category).sum + (nativeFrameWords "java/lang/System" "arraycopy" 5 + 11) ≤ R.locals) (hdg : decode cc pc = .ok (.invokestatic index, 3))
    (kk : ∀ (H1 : Heap) (locs1 : List Loc), mt_W D d cB L ρ A b (hs_row ρ2 k q (va_cpy (ρ k q) (ρ2 k q) 0 0 (mh_w k))) H1 → va_S (rg_A b) H0 H1 locs1 → W p l e R s m args below meth c0 H1 locs1 cells slots Q (F0 m (pc + 3) ls rest)) : W p l e R s m args below meth c0 H locs cells slots Q (F0 m pc ls (.int x :: .int 0 :: .ref (mL b k q) :: .int 0 :: .ref (L k q) :: rest)) := by
  have hc : va_at D vwCl (L k q, .inl (d.1, mh_w k, .inl (ρ k q))) H := by
    have h := hT.1.1 k q hix
    rw [mh_ctR _ hk5] at h
    exact h
  have hc2 : va_at D vwCl (mL b k q, .inl (d.1, mh_w k, .inl (ρ2 k q))) H := by
    have h := hT.2.1.1 k q hix
    rw [mh_ctR _ hk5] at h
    exact h
  have hw : mh_w k ≤ 11 := by
    unfold mh_w
    repeat' split
    all_goals decide
  refine mm_copyi hexec hb hml hown hlink hnat hstat hini hK hc hc2 (by omega) (Nat.le_refl _) (Nat.le_refl _) hxN hframes hlocals hdg fun H1 L1 hB z oq hL => ?_
  refine kk H1 _ ⟨hT.1.kept (fun q9 _ ⟨k9, i9, hx9, e9⟩ => oq q9 (fun e => ?_)), hT.2.1.putG hix ?_ (fun q9 _ h2 => oq q9 h2) (fun k' i' _ hn9 j' => if_neg hn9), hT.2.2⟩ (mm_Sapp hS z oq hL (Nat.le_add_right _ _))
  · have h1 := hT.2.2 k9 i9 hx9
    have h2 : b ≤ mL b k q := Nat.le_add_right _ _
    rw [← e9, e] at h1
    exact absurd h1 (Nat.not_lt.mpr h2)
  · rw [mh_ctR _ hk5]
    have e9 : hs_row ρ2 k q (va_cpy (ρ k q) (ρ2 k q) 0 0 (mh_w k)) k q = va_cpy (ρ k q) (ρ2 k q) 0 0 (mh_w k) := funext (fun z => if_pos ⟨rfl, rfl⟩)
    rw [e9]
    exact hB
theorem mh_qlen (hexec : p.tables.exec = Jvm.exec) (hb : c0.code = cc) (hKB : va_K D vwCl [(d.1, .int), (cB, .array .int)] s) (hW : mh_W D d.1 cB L ρ A H) {k : Nat} (h1 : 1 ≤ k) (h2 : k ≤ 4) (hdg : decode cc pc = .ok (.arraylength, 1))
    (kk : W p l e R s m args below meth c0 H locs cells slots Q (F0 m (pc + 1) ls (.int (nI (mh_n k)) :: rest))) : W p l e R s m args below meth c0 H locs cells slots Q (F0 m pc ls (.ref (L k 0) :: rest)) :=
  va_alen hexec hb hKB (mh_pQ hW h1 h2) 0 1 rfl rfl rfl hdg kk
theorem mh_rlen (hexec : p.tables.exec = Jvm.exec) (hb : c0.code = cc) (hK : va_K D vwCl (hs_ty d) s) (hW : mh_W D d.1 cB L ρ A H) {k q : Nat} (h5 : 5 ≤ k) (hix : mh_ix k q) (hdg : decode cc pc = .ok (.arraylength, 1))
    (kk : W p l e R s m args below meth c0 H locs cells slots Q (F0 m (pc + 1) ls (.int (nI (mh_w k)) :: rest))) : W p l e R s m args below meth c0 H locs cells slots Q (F0 m pc ls (.ref (L k q) :: rest)) :=
  va_alen hexec hb hK (mh_pR hW h5 hix) 0 0 rfl rfl rfl hdg kk
end MTR
set_option maxHeartbeats 4000000 in
set_option maxRecDepth 100000 in
/-- the reference: rows -/
theorem kX5_rows (l : Launch) (D : va_G) (d : hs_Dm) (cB : ClassId) (L : hs_Lo) (ρ : hs_St) (A : Nat → Prop) (b : Nat) (ρ2 : hs_St) (k : Nat) (h1 : 1 ≤ k) (h4 : k ≤ 4) : Met l yX5_rows wsX5_rows ({ frames := 1, cells := 0, slots := 0, locals := 60 } : Room) (va_Pc [.ref (L k 0), .ref (mL b k 0)] (mt_C D d cB L ρ A b ρ2)) (va_Qv (fun _ : Unit => True) (fun _ t => mt_W D d cB L ρ A b (mp_rows ρ ρ2 k (mh_n k)) t.heap) (rg_A b)) 0 0 (rg_A b) := by
  refine Met.ofW (cc := cX5_rows) (maxL := 3) (ret := none) (by decide) rfl ?_
  intro p e s m args below meth c0 s₁ B hml hv
  obtain ⟨rfl, hT, hKK⟩ := hv
  have hx := B.exec
  have hb := B.bytes
  have hr := B.returns
  have hts := atoms_spec (ws := wsX5_rows) B.pre
  have hown : s.vm.findClass RX5 = some m.cls := findClass_of_methodNamed B.named
  have hlocks := B.notSynchronized
  have hS : va_S (rg_A b) s.heap s.heap [] := va_S.rf
  have hl := lv_entry ([.ref (L k 0), .ref (mL b k 0)]) (n := 3) (Nat.le_of_ble_eq_true rfl)
  rw [lg_entry_eq]
  generalize (lg_sl ([.ref (L k 0), .ref (mL b k 0)]) ++ List.replicate (3 - (lg_sl ([.ref (L k 0), .ref (mL b k 0)])).length) Slot.unset).toArray = ls at hl ⊢
  have hl : lv_has ls 3 [(0, .ref (L k 0)), (1, .ref (mL b k 0))] := hl
  have hn10 : mh_n k ≤ 10 := by
    unfold mh_n
    split <;> decide
  refine lv_iconst (v := 0) hx hb dX5_rows_0 (by decide) ?_
  refine lv_istore_n (lv' := [(2, .int (nI 0)), (0, .ref (L k 0)), (1, .ref (mL b k 0))]) hx hb dX5_rows_1 rfl hl (by decide) rfl (fun ls hl => ?_)
  have main : ∀ (kk n : Nat), n + kk = mh_n k → ∀ (H : Heap) (locs : List Loc), mt_W D d cB L ρ A b (mp_rows ρ ρ2 k n) H → va_S (rg_A b) s.heap H locs → ∀ ls : Array Slot, lv_has ls 3 [(2, .int (nI n)), (0, .ref (L k 0)), (1, .ref (mL b k 0))] → W p l e ({ frames := 1, cells := 0, slots := 0, locals := 60 } : Room) s m #[.ref (L k 0), .ref (mL b k 0)] below meth c0 H locs 0 0 (MQ below (va_Qv (fun _ : Unit => True) (fun _ t => mt_W D d cB L ρ A b (mp_rows ρ ρ2 k (mh_n k)) t.heap) (rg_A b)) #[.ref (L k 0), .ref (mL b k 0)] s 0 0 (rg_A b)) (F0 m 2 ls []) := by
    intro kk
    induction kk with
    | zero =>
      intro n hn H locs hT hS ls hl
      have hnN : n = mh_n k := by omega
      refine lv_iload_n hx hb dX5_rows_2 rfl (lv_at hl 0 rfl) ?_
      refine lv_aload_n hx hb dX5_rows_3 rfl (lv_at hl 1 rfl) ?_
      refine mh_qlen hx hb hKK.2.1 hT.1 h1 h4 dX5_rows_4 ?_
      refine lv_icmp_ge (tgt := 29) hx hb dX5_rows_5 (by decide) (fun c_5 => ?_) (fun c_5 => ?_)
      · subst hnN
        exact W.vret hx hb hr (fun t ht hW9 => ⟨⟨(), rfl, trivial, by show mt_W D d cB L ρ A b _ t.heap; rw [ht]; exact hT⟩, hS.F ht⟩) hS.2.2 dX5_rows_29
      · exact absurd (by rw [hnN]; exact nI_le (a := mh_n k) (b := mh_n k) (Nat.le_refl _) (by omega)) c_5
    | succ kk ih =>
      intro n hn H locs hT hS ls hl
      have hnN : n < mh_n k := by omega
      refine lv_iload_n hx hb dX5_rows_2 rfl (lv_at hl 0 rfl) ?_
      refine lv_aload_n hx hb dX5_rows_3 rfl (lv_at hl 1 rfl) ?_
      refine mh_qlen hx hb hKK.2.1 hT.1 h1 h4 dX5_rows_4 ?_
      refine lv_icmp_ge (tgt := 29) hx hb dX5_rows_5 (by decide) (fun c_5 => ?_) (fun c_5 => ?_)
      · exact absurd c_5 (nI_ge (b := mh_n k) hnN (by omega))
      · refine lv_aload_n hx hb dX5_rows_8 rfl (lv_at hl 1 rfl) ?_
        refine lv_iload_n hx hb dX5_rows_9 rfl (lv_at hl 0 rfl) ?_
        refine mh_aald hx hb hKK.2.1 hT.1 k n h1 h4 hnN dX5_rows_10 ?_
        refine lv_iconst (v := 0) hx hb dX5_rows_11 (by decide) ?_
        refine lv_aload_n hx hb dX5_rows_12 rfl (lv_at hl 2 rfl) ?_
        refine lv_iload_n hx hb dX5_rows_13 rfl (lv_at hl 0 rfl) ?_
        refine mh_aald (L := mL b) hx hb hKK.2.1 hT.2.1 k n h1 h4 hnN dX5_rows_14 ?_
        refine lv_iconst (v := 0) hx hb dX5_rows_15 (by decide) ?_
        refine lv_aload_n hx hb dX5_rows_16 rfl (lv_at hl 1 rfl) ?_
        refine lv_iload_n hx hb dX5_rows_17 rfl (lv_at hl 0 rfl) ?_
        refine mh_aald hx hb hKK.2.1 hT.1 k n h1 h4 hnN dX5_rows_18 ?_
        refine mh_rlen hx hb hKK.1 hT.1 (k := 10 + k) (q := n) (by omega) (mh_ixR h1 h4 hnN) dX5_rows_19 ?_
        refine mt_copy (k := 10 + k) (q := n) hx hb (by rw [hml]; exact hl.1.symm) hown (hts (.methodLink RX5 47 arraycopyName) (by decide +kernel)) (hts (.native arraycopyName) (by decide +kernel)) (hts (.static arraycopyName) (by decide +kernel)) (hts (.initialized "java/lang/System") (by decide +kernel)) hKK.1 hT hS (by omega) (mh_ixR h1 h4 hnN) rfl (Nat.le_of_ble_eq_true rfl) (Nat.le_of_ble_eq_true rfl) dX5_rows_20 (fun H locs hT hS => ?_)
        refine lv_iinc (v := nI (n + 1)) (lv' := [(2, .int (nI (n + 1))), (0, .ref (L k 0)), (1, .ref (mL b k 0))]) hx hb dX5_rows_23 hl (k := 0) rfl (nI_succ _).symm (by decide) rfl (fun ls hl => ?_)
        refine lv_goto (tgt := 2) hx hb dX5_rows_26 (by decide) ?_
        exact ih (n + 1) (by omega) _ _ hT hS ls hl
  exact main (mh_n k) 0 (by omega) _ _ hT hS ls hl
def mp_cp (ρ : hs_St) : hs_St := hs_sg (hs_sg (hs_sg (hs_sg (hs_sg (hs_sg (hs_sg (hs_sg (hs_row (hs_row (mp_rows ρ (mp_rows ρ (mp_rows ρ (mp_rows ρ mp_born 1 (mh_n 1)) 2 (mh_n 2)) 3 (mh_n 3)) 4 (mh_n 4)) 5 0 (va_cpy (ρ 5 0) ((mp_rows ρ (mp_rows ρ (mp_rows ρ (mp_rows ρ mp_born 1 (mh_n 1)) 2 (mh_n 2)) 3 (mh_n 3)) 4 (mh_n 4)) 5 0) 0 0 (mh_w 5))) 6 0 (va_cpy (ρ 6 0) ((hs_row (mp_rows ρ (mp_rows ρ (mp_rows ρ (mp_rows ρ mp_born 1 (mh_n 1)) 2 (mh_n 2)) 3 (mh_n 3)) 4 (mh_n 4)) 5 0 (va_cpy (ρ 5 0) ((mp_rows ρ (mp_rows ρ (mp_rows ρ (mp_rows ρ mp_born 1 (mh_n 1)) 2 (mh_n 2)) 3 (mh_n 3)) 4 (mh_n 4)) 5 0) 0 0 (mh_w 5))) 6 0) 0 0 (mh_w 6))) 0 0 6 (ρ 0 0 6)) 0 0 7 (ρ 0 0 7)) 0 0 8 (ρ 0 0 8)) 0 0 9 (ρ 0 0 9)) 0 0 10 (ρ 0 0 10)) 0 0 11 (ρ 0 0 11)) 0 0 12 (ρ 0 0 12)) 0 0 13 (ρ 0 0 13)
theorem mp_rows_at (ρ ρ2 : hs_St) (k i j : Nat) (hj : j < mh_w (10 + k)) : ∀ n, i < n → mp_rows ρ ρ2 k n (10 + k) i j = ρ (10 + k) i j
  | 0, h => absurd h (Nat.not_lt_zero _)
  | n + 1, h => by
    rw [mp_rows]
    unfold hs_row
    by_cases e : i = n
    · subst e
      rw [if_pos ⟨rfl, rfl⟩]
      unfold va_cpy
      rw [if_pos (by omega), Nat.zero_add, Nat.sub_zero]
    · rw [if_neg (fun z => e z.2)]
      exact mp_rows_at ρ ρ2 k i j hj n (by omega)
theorem mp_rows_off (ρ ρ2 : hs_St) (k a i j : Nat) (ha : ¬ a = 10 + k) : ∀ n, mp_rows ρ ρ2 k n a i j = ρ2 a i j
  | 0 => rfl
  | n + 1 => by
    rw [mp_rows]
    unfold hs_row
    rw [if_neg (fun z => ha z.1)]
    exact mp_rows_off ρ ρ2 k a i j ha n
theorem mp_cp_0 (ρ : hs_St) (j : Nat) (h6 : 6 ≤ j) (h14 : j < 14) : ρ 0 0 j = mp_cp ρ 0 0 j := by
  unfold mp_cp
  rcases (show j = 6 ∨ j = 7 ∨ j = 8 ∨ j = 9 ∨ j = 10 ∨ j = 11 ∨ j = 12 ∨ j = 13 by omega) with rfl | rfl | rfl | rfl | rfl | rfl | rfl | rfl <;> simp [hs_sg]
theorem mp_cp_r (ρ : hs_St) (k i : Nat) (h5 : 5 ≤ k) (hx : mh_ix k i) (j : Nat) (hj : j < mh_w k) : ρ k i j = mp_cp ρ k i j := by
  have hsg : ∀ (τ : hs_St) (q : Nat) (v : Int32), hs_sg τ 0 0 q v k i j = τ k i j := fun τ q v => by
    unfold hs_sg
    rw [if_neg (by omega)]
  have hrw : ∀ (τ : hs_St) (k9 : Nat) (g : Nat → Int32), ¬ k = k9 → hs_row τ k9 0 g k i j = τ k i j := fun τ k9 g h => by
    unfold hs_row
    rw [if_neg (by omega)]
  unfold mp_cp
  rw [hsg, hsg, hsg, hsg, hsg, hsg, hsg, hsg]
  rcases mh_ix_c hx with ⟨h1, rfl⟩ | ⟨rfl, h1⟩ | ⟨rfl, h1⟩ | ⟨rfl, h1⟩ | ⟨rfl, h1⟩
  · rcases (show k = 5 ∨ k = 6 by omega) with rfl | rfl
    · rw [hrw _ 6 _ (by decide)]
      unfold hs_row
      rw [if_pos ⟨rfl, rfl⟩]
      unfold va_cpy
      rw [if_pos (by omega), Nat.zero_add, Nat.sub_zero]
    · unfold hs_row
      rw [if_pos ⟨rfl, rfl⟩]
      unfold va_cpy
      rw [if_pos (by omega), Nat.zero_add, Nat.sub_zero]
  · rw [hrw _ 6 _ (by decide), hrw _ 5 _ (by decide), mp_rows_off _ _ 4 11 i j (by decide), mp_rows_off _ _ 3 11 i j (by decide), mp_rows_off _ _ 2 11 i j (by decide)]
    exact (mp_rows_at ρ _ 1 i j hj (mh_n 1) h1).symm
  · rw [hrw _ 6 _ (by decide), hrw _ 5 _ (by decide), mp_rows_off _ _ 4 12 i j (by decide), mp_rows_off _ _ 3 12 i j (by decide)]
    exact (mp_rows_at ρ _ 2 i j hj (mh_n 2) h1).symm
  · rw [hrw _ 6 _ (by decide), hrw _ 5 _ (by decide), mp_rows_off _ _ 4 13 i j (by decide)]
    exact (mp_rows_at ρ _ 3 i j hj (mh_n 3) h1).symm
  · rw [hrw _ 6 _ (by decide), hrw _ 5 _ (by decide)]
    exact (mp_rows_at ρ _ 4 i j hj (mh_n 4) h1).symm
theorem mt_put {D : va_G} {d : hs_Dm} {cB : ClassId} {L : hs_Lo} {ρ : hs_St} {A : Nat → Prop} {b : Nat} {ρ2 ρ3 : hs_St} {H H1 : Heap} (hT : mt_W D d cB L ρ A b ρ2 H) (hW2 : mh_W D d.1 cB (mL b) ρ3 (rg_A b) H1) (oq : ∀ q : Nat, q ≠ mL b 0 0 → H1[q]? = H[q]?) : mt_W D d cB L ρ A b ρ3 H1 := ⟨hT.1.kept (fun q _ ⟨k9, i9, hx9, e9⟩ => oq q (fun e => by
  have h1 := hT.2.2 k9 i9 hx9
  have h2 : b ≤ mL b 0 0 := Nat.le_add_right _ _
  rw [← e9, e] at h1
  exact absurd h1 (Nat.not_lt.mpr h2))), hW2, hT.2.2⟩
theorem rf_callI {p : Program} {l : Launch} {e : Env} {R : Room} {s : State} {m : MethodId} {args : Array Value} {below : List Frame} {meth : Method} {c : Code} {H : Heap} {locs : List Loc} {cells slots : Nat} {Q : State → Prop} {cc : ByteArray} {pc : Nat} {ls : Array Slot} {rest : List Value} {D : va_G} {d : hs_Dm} {cB : ClassId} {Cn : Nat → va_E} {b mm : Nat} {y : MethodName} {bytes : ByteArray} {maxL nL n index mc ms k : Nat} {ws : List Cond} {rm : Room} {Ts : List Cond} {own : String} {As st : List Value} {C0 C2 : Nat → va_E} (S : CallFix p m c cc nL s args Ts own) (hM : rf_M l y ws rm D d cB C0 C2 (b + mm) 1 k (.ref (b + mm) :: As) mc ms) (cw : CallB R s args own index y bytes maxL none ws rm mc ms n ∧ y.name = "<init>" ∧ (Cond.instanceMethod y).before args s = true) (hK : va_K D vwCl (hs_ty d) s) (hK2 : va_K D vwCl [(cB, .array .int)] s) (hAA : va_AOA .int s) (hNw : va_Nw (.methodLinkNest RX6 9 yX5_init RX6) s) (hg : rg D Cn b (mm + 1) H) (h0 : C0 0 = Cn mm) (hz : H.size = b + (mm + 1)) (hS : va_S (rg_A b) s.heap H locs) (hn : As.length = n) (hsize : ls.size = nL) (hrest : (rest.map fun v => v.category).sum ≤ 8) (hdg : decode cc pc = .ok (.invokespecial index, 3)) (hf : cells + mc ≤ R.cells ∧ slots + ms ≤ R.slots) (hst : st = As.reverse ++ .ref (b + mm) :: rest)
    (kk : ∀ (H1 : Heap) (locs1 : List Loc), rg D (fun j => if j < mm then Cn j else C2 (j - mm)) b (mm + k) H1 → H1.size = b + (mm + k) → va_S (rg_A b) s.heap H1 locs1 → (∀ q : Nat, q < b + mm → H1[q]? = H[q]?) → W p l e R s m args below meth c H1 locs1 (cells + mc) (slots + ms) Q (F0 m (pc + 3) ls rest)) : W p l e R s m args below meth c H locs cells slots Q (F0 m pc ls st) := by
  subst hst
  have hlast : rg D C0 (b + mm) 1 H := fun j hj => by
    have e : j = 0 := by omega
    subst e
    rw [h0]
    exact hg mm (by omega)
  refine va_callv (va_runI S hM cw ⟨rf_blind, fun U hU hW2 => ⟨rfl, ⟨by rw [hU]; omega, by rw [hU]; exact hlast, va_K.moved hW2.alike hK⟩, va_K.moved hW2.alike hK2, over_moved hW2.alike hAA, va_Nw.warmM hW2 hNw⟩⟩ rfl hn hsize rfl (lv_room hrest) hdg hf) hS (fun q _ h => Nat.le_trans (Nat.le_add_right b mm) h) (fun q h => Nat.le_trans (Nat.le_add_right b mm) h) (fun u t H1 locs1 ht _ _ hB hzz hq hS1 => ?_)
  obtain ⟨b1, b2, -⟩ := hB
  rw [ht] at b1 b2
  exact kk H1 locs1 (rg.join ((hg.sub (Nat.le_succ mm)).kept (fun q h1 h2 => hq q h1 (by show ¬ b + mm ≤ q; omega))) b2) (by omega) hS1 (fun q h1 => hq q (by omega) (by show ¬ b + mm ≤ q; omega))
section MTC
variable {p : Program} {l : Launch} {e : Env} {R : Room} {s : State} {m : MethodId} {args : Array Value} {below : List Frame} {meth : Method} {c0 : Code} {H : Heap} {locs : List Loc} {cells slots : Nat} {Q : State → Prop}
variable {cc : ByteArray} {pc : Nat} {ls : Array Slot} {rest : List Value} {D : va_G} {d : hs_Dm} {cB : ClassId} {L : hs_Lo} {A : Nat → Prop} {ρ ρ2 : hs_St} {b nL na index : Nat} {Ts : List Cond} {own : String} {bytes : ByteArray} {maxL : Nat} {st : List Value}
theorem mt_rows (k : Nat) (h1 : 1 ≤ k) (h4 : k ≤ 4) (S : CallFix p m c0 cc nL s args Ts own) (cw : CallB R s args own index yX5_rows bytes maxL none wsX5_rows ({ frames := 1, cells := 0, slots := 0, locals := 60 } : Room) 0 0 na ∧ (Cond.static yX5_rows).before args s = true) (hKK : mh_K D d cB s) (hT : mt_W D d cB L ρ A b ρ2 H) (hS : va_S (rg_A b) s.heap H locs) (hn : 2 = na) (hsize : ls.size = nL) (hrest : (rest.map fun v => v.category).sum ≤ 8) (hdg : decode cc pc = .ok (.invokestatic index, 3)) (hf : cells + 0 ≤ R.cells ∧ slots + 0 ≤ R.slots) (hst : st = .ref (mL b k 0) :: .ref (L k 0) :: rest)
    (kk : ∀ (H1 : Heap) (locs1 : List Loc), mt_W D d cB L ρ A b (mp_rows ρ ρ2 k (mh_n k)) H1 → va_S (rg_A b) s.heap H1 locs1 → W p l e R s m args below meth c0 H1 locs1 cells slots Q (F0 m (pc + 3) ls rest)) : W p l e R s m args below meth c0 H locs cells slots Q (F0 m pc ls st) := by
  subst hst
  refine va_callv (va_runS (As := [.ref (L k 0), .ref (mL b k 0)]) S (kX5_rows l D d cB L ρ A b ρ2 k h1 h4) cw ⟨mt_blind, fun U hU hW2 => ⟨rfl, by rw [hU]; exact hT, hKK.on hW2⟩⟩ rfl hn hsize rfl (lv_room hrest) hdg hf) hS (fun q _ h => h) (fun q h => h) (fun u t H1 locs1 ht _ _ hB hz hq hS1 => ?_)
  have hB : mt_W D d cB L ρ A b (mp_rows ρ ρ2 k (mh_n k)) t.heap := hB
  rw [ht] at hB
  exact kk H1 locs1 hB hS1
end MTC
set_option maxHeartbeats 4000000 in
set_option maxRecDepth 100000 in
/-- the reference: copy -/
theorem kX5_copy (l : Launch) (D : va_G) (d : hs_Dm) (cB : ClassId) (L : hs_Lo) (ρ : hs_St) (A : Nat → Prop) (sz : Nat) : Met l yX5_copy wsX5_copy ({ frames := 2, cells := 45, slots := 360, locals := 120 } : Room) (va_Pc [.ref (L 0 0)] (mh_C D d cB L ρ A sz)) (va_Qr (S := Unit) (fun _ => True) (fun _ a t => a = mL sz 0 0 ∧ mt_W D d cB L ρ A sz ρ t.heap) (rg_A sz)) 45 360 (rg_A sz) := by
  refine Met.ofW (cc := cX5_copy) (maxL := 2) (ret := (some (.object "WaxrowModel$House"))) (by decide) rfl ?_
  intro p e s m args below meth c0 s₁ B hml hv
  obtain ⟨rfl, hsz, hW, hKK⟩ := hv
  subst hsz
  have hx := B.exec
  have hb := B.bytes
  have hr := B.returns
  have hts := atoms_spec (ws := wsX5_copy) B.pre
  have hown : s.vm.findClass RX5 = some m.cls := findClass_of_methodNamed B.named
  have hlocks := B.notSynchronized
  have hS : va_S (rg_A s.heap.size) s.heap s.heap [] := va_S.rf
  have hl := lv_entry ([.ref (L 0 0)]) (n := 2) (Nat.le_of_ble_eq_true rfl)
  rw [lg_entry_eq]
  generalize (lg_sl ([.ref (L 0 0)]) ++ List.replicate (2 - (lg_sl ([.ref (L 0 0)])).length) Slot.unset).toArray = ls at hl ⊢
  have hl : lv_has ls 2 [(0, .ref (L 0 0))] := hl
  have hlt : ∀ k i, mh_ix k i → L k i < s.heap.size := fun k i hx9 => (hW.1 k i hx9).lt
  have hg0 : rg D (fun _ => .inr (cRh, [])) s.heap.size 0 s.heap := fun j hj => absurd hj (Nat.not_lt_zero j)
  refine rg_new (ci := cRh) (fs := [.null, .null, .null, .null, .null, .null, .int 0, .int 0, .int 0, .int 0, .int 0, .int 0, .int 0, .int 0]) (C := RX5) (T := TX5) (N := 14) hx hb hts (by decide +kernel) tyX5 tyX5_ok hown (hts (.classLink RX5 12 RX5) (by decide +kernel)) (hts (.instantiable RX5 14) (by decide +kernel)) (hts (.initialized RX5) (by decide +kernel)) hKK.1 hg0 rfl hS rfl (fun j hj => by rcases (show j = 0 ∨ j = 1 ∨ j = 2 ∨ j = 3 ∨ j = 4 ∨ j = 5 ∨ j = 6 ∨ j = 7 ∨ j = 8 ∨ j = 9 ∨ j = 10 ∨ j = 11 ∨ j = 12 ∨ j = 13 by omega) with rfl | rfl | rfl | rfl | rfl | rfl | rfl | rfl | rfl | rfl | rfl | rfl | rfl | rfl <;> rfl) (by decide) (by decide) dX5_copy_0 (fun H hg hz hS hq => ?_)
  have hW : mh_W D d.1 cB L ρ A H := hW.all hq
  refine lv_dup hx hb dX5_copy_3 rfl ?_
  refine rf_callI (As := []) (C0 := rc_1 (.inr (cRh, [.null, .null, .null, .null, .null, .null, .int 0, .int 0, .int 0, .int 0, .int 0, .int 0, .int 0, .int 0]))) (C2 := rf_H d cB s.heap.size) (mm := 0) ⟨hx, hb, hml, hown, hts⟩ (kX5_init l D d cB s.heap.size) (cwI 0 hts gX5_copy_X5_init rfl rfl rfl (hts (.initialized RX5) (by decide +kernel)) (hts (.methodLink RX5 42 yX5_init) (by decide +kernel)) (hts (.instanceMethod yX5_init) (by decide +kernel)) rfl (by decide +kernel) ⟨Nat.le_of_ble_eq_true rfl, Nat.le_of_ble_eq_true rfl⟩) hKK.1 (va_K.sub hKK.2.1 [1] rfl) hKK.2.2.2.2.2.1 hKK.2.2.2.2.2.2 hg rfl hz hS rfl hl.1 (Nat.le_of_ble_eq_true rfl) dX5_copy_4 ⟨by decide, by decide⟩ rfl (fun H2 locs hg hz2 hS hqq => ?_)
  have hW : mh_W D d.1 cB L ρ A H2 := hW.kept (fun q _ ⟨k9, i9, hx9, e9⟩ => hqq q (by rw [e9]; exact hlt k9 i9 hx9))
  have hg : rg D (rf_H d cB s.heap.size) s.heap.size 45 H2 := fun j hj => hg j (by omega)
  have hT : mt_W D d cB L ρ A s.heap.size mp_born H2 := ⟨hW, mh_born hg (fun q h => h), hlt⟩
  refine lv_astore_n (lv' := [(1, .ref (mL s.heap.size 0 0)), (0, .ref (L 0 0))]) hx hb dX5_copy_7 rfl hl (by decide) rfl (fun ls hl => ?_)
  refine lv_aload_n hx hb dX5_copy_8 rfl (lv_at hl 1 rfl) ?_
  refine mh_get hx hb hts (by decide +kernel) hown hKK.1 hT.1 0 (by decide) (hts (.fieldLink RX5 11 "WaxrowModel$House" "persons" "[[I") (by decide +kernel)) rfl (v := .ref (L 1 0)) rfl dX5_copy_9 ?_
  refine lv_aload_n hx hb dX5_copy_12 rfl (lv_at hl 0 rfl) ?_
  refine mh_get (L := mL s.heap.size) hx hb hts (by decide +kernel) hown hKK.1 hT.2.1 0 (by decide) (hts (.fieldLink RX5 11 "WaxrowModel$House" "persons" "[[I") (by decide +kernel)) rfl (v := .ref (mL s.heap.size 1 0)) rfl dX5_copy_13 ?_
  refine mt_rows 1 (by decide) (by decide) ⟨hx, hb, hml, hown, hts⟩ (va_cwS 2 hts gX5_copy_X5_rows rfl rfl rfl (by decide +kernel) ⟨Nat.le_of_ble_eq_true rfl, Nat.le_of_ble_eq_true rfl⟩) hKK hT hS rfl hl.1 (Nat.le_of_ble_eq_true rfl) dX5_copy_16 ⟨Nat.le_of_ble_eq_true rfl, Nat.le_of_ble_eq_true rfl⟩ rfl (fun H locs hT hS => ?_)
  refine lv_aload_n hx hb dX5_copy_19 rfl (lv_at hl 1 rfl) ?_
  refine mh_get hx hb hts (by decide +kernel) hown hKK.1 hT.1 1 (by decide) (hts (.fieldLink RX5 16 "WaxrowModel$House" "low" "[[I") (by decide +kernel)) rfl (v := .ref (L 2 0)) rfl dX5_copy_20 ?_
  refine lv_aload_n hx hb dX5_copy_23 rfl (lv_at hl 0 rfl) ?_
  refine mh_get (L := mL s.heap.size) hx hb hts (by decide +kernel) hown hKK.1 hT.2.1 1 (by decide) (hts (.fieldLink RX5 16 "WaxrowModel$House" "low" "[[I") (by decide +kernel)) rfl (v := .ref (mL s.heap.size 2 0)) rfl dX5_copy_24 ?_
  refine mt_rows 2 (by decide) (by decide) ⟨hx, hb, hml, hown, hts⟩ (va_cwS 2 hts gX5_copy_X5_rows rfl rfl rfl (by decide +kernel) ⟨Nat.le_of_ble_eq_true rfl, Nat.le_of_ble_eq_true rfl⟩) hKK hT hS rfl hl.1 (Nat.le_of_ble_eq_true rfl) dX5_copy_27 ⟨Nat.le_of_ble_eq_true rfl, Nat.le_of_ble_eq_true rfl⟩ rfl (fun H locs hT hS => ?_)
  refine lv_aload_n hx hb dX5_copy_30 rfl (lv_at hl 1 rfl) ?_
  refine mh_get hx hb hts (by decide +kernel) hown hKK.1 hT.1 2 (by decide) (hts (.fieldLink RX5 19 "WaxrowModel$House" "high" "[[I") (by decide +kernel)) rfl (v := .ref (L 3 0)) rfl dX5_copy_31 ?_
  refine lv_aload_n hx hb dX5_copy_34 rfl (lv_at hl 0 rfl) ?_
  refine mh_get (L := mL s.heap.size) hx hb hts (by decide +kernel) hown hKK.1 hT.2.1 2 (by decide) (hts (.fieldLink RX5 19 "WaxrowModel$House" "high" "[[I") (by decide +kernel)) rfl (v := .ref (mL s.heap.size 3 0)) rfl dX5_copy_35 ?_
  refine mt_rows 3 (by decide) (by decide) ⟨hx, hb, hml, hown, hts⟩ (va_cwS 2 hts gX5_copy_X5_rows rfl rfl rfl (by decide +kernel) ⟨Nat.le_of_ble_eq_true rfl, Nat.le_of_ble_eq_true rfl⟩) hKK hT hS rfl hl.1 (Nat.le_of_ble_eq_true rfl) dX5_copy_38 ⟨Nat.le_of_ble_eq_true rfl, Nat.le_of_ble_eq_true rfl⟩ rfl (fun H locs hT hS => ?_)
  refine lv_aload_n hx hb dX5_copy_41 rfl (lv_at hl 1 rfl) ?_
  refine mh_get hx hb hts (by decide +kernel) hown hKK.1 hT.1 3 (by decide) (hts (.fieldLink RX5 22 "WaxrowModel$House" "figures" "[[I") (by decide +kernel)) rfl (v := .ref (L 4 0)) rfl dX5_copy_42 ?_
  refine lv_aload_n hx hb dX5_copy_45 rfl (lv_at hl 0 rfl) ?_
  refine mh_get (L := mL s.heap.size) hx hb hts (by decide +kernel) hown hKK.1 hT.2.1 3 (by decide) (hts (.fieldLink RX5 22 "WaxrowModel$House" "figures" "[[I") (by decide +kernel)) rfl (v := .ref (mL s.heap.size 4 0)) rfl dX5_copy_46 ?_
  refine mt_rows 4 (by decide) (by decide) ⟨hx, hb, hml, hown, hts⟩ (va_cwS 2 hts gX5_copy_X5_rows rfl rfl rfl (by decide +kernel) ⟨Nat.le_of_ble_eq_true rfl, Nat.le_of_ble_eq_true rfl⟩) hKK hT hS rfl hl.1 (Nat.le_of_ble_eq_true rfl) dX5_copy_49 ⟨Nat.le_of_ble_eq_true rfl, Nat.le_of_ble_eq_true rfl⟩ rfl (fun H locs hT hS => ?_)
  refine lv_aload_n hx hb dX5_copy_52 rfl (lv_at hl 1 rfl) ?_
  refine mh_get hx hb hts (by decide +kernel) hown hKK.1 hT.1 4 (by decide) (hts (.fieldLink RX5 25 "WaxrowModel$House" "lamps" "[I") (by decide +kernel)) rfl (v := .ref (L 5 0)) rfl dX5_copy_53 ?_
  refine lv_iconst (v := 0) hx hb dX5_copy_56 (by decide) ?_
  refine lv_aload_n hx hb dX5_copy_57 rfl (lv_at hl 0 rfl) ?_
  refine mh_get (L := mL s.heap.size) hx hb hts (by decide +kernel) hown hKK.1 hT.2.1 4 (by decide) (hts (.fieldLink RX5 25 "WaxrowModel$House" "lamps" "[I") (by decide +kernel)) rfl (v := .ref (mL s.heap.size 5 0)) rfl dX5_copy_58 ?_
  refine lv_iconst (v := 0) hx hb dX5_copy_61 (by decide) ?_
  refine lv_iconst (v := 5) hx hb dX5_copy_62 (by decide) ?_
  refine mt_copy (k := 5) (q := 0) hx hb (by rw [hml]; exact hl.1.symm) hown (hts (.methodLink RX5 47 arraycopyName) (by decide +kernel)) (hts (.native arraycopyName) (by decide +kernel)) (hts (.static arraycopyName) (by decide +kernel)) (hts (.initialized "java/lang/System") (by decide +kernel)) hKK.1 hT hS (by decide) (mh_ixO (by decide)) (by decide +kernel) (Nat.le_of_ble_eq_true rfl) (Nat.le_of_ble_eq_true rfl) dX5_copy_63 (fun H locs hT hS => ?_)
  refine lv_aload_n hx hb dX5_copy_66 rfl (lv_at hl 1 rfl) ?_
  refine mh_get hx hb hts (by decide +kernel) hown hKK.1 hT.1 5 (by decide) (hts (.fieldLink RX5 29 "WaxrowModel$House" "spots" "[I") (by decide +kernel)) rfl (v := .ref (L 6 0)) rfl dX5_copy_67 ?_
  refine lv_iconst (v := 0) hx hb dX5_copy_70 (by decide) ?_
  refine lv_aload_n hx hb dX5_copy_71 rfl (lv_at hl 0 rfl) ?_
  refine mh_get (L := mL s.heap.size) hx hb hts (by decide +kernel) hown hKK.1 hT.2.1 5 (by decide) (hts (.fieldLink RX5 29 "WaxrowModel$House" "spots" "[I") (by decide +kernel)) rfl (v := .ref (mL s.heap.size 6 0)) rfl dX5_copy_72 ?_
  refine lv_iconst (v := 0) hx hb dX5_copy_75 (by decide) ?_
  refine lv_iconst (v := 5) hx hb dX5_copy_76 (by decide) ?_
  refine mt_copy (k := 6) (q := 0) hx hb (by rw [hml]; exact hl.1.symm) hown (hts (.methodLink RX5 47 arraycopyName) (by decide +kernel)) (hts (.native arraycopyName) (by decide +kernel)) (hts (.static arraycopyName) (by decide +kernel)) (hts (.initialized "java/lang/System") (by decide +kernel)) hKK.1 hT hS (by decide) (mh_ixO (by decide)) (by decide +kernel) (Nat.le_of_ble_eq_true rfl) (Nat.le_of_ble_eq_true rfl) dX5_copy_77 (fun H locs hT hS => ?_)
  refine lv_aload_n hx hb dX5_copy_80 rfl (lv_at hl 0 rfl) ?_
  refine lv_aload_n hx hb dX5_copy_81 rfl (lv_at hl 1 rfl) ?_
  refine mh_get hx hb hts (by decide +kernel) hown hKK.1 hT.1 6 (by decide) (hts (.fieldLink RX5 53 "WaxrowModel$House" "personCount" "I") (by decide +kernel)) rfl (v := .int (ρ 0 0 6)) rfl dX5_copy_82 ?_
  refine mh_puti (L := mL s.heap.size) hx hb hts (by decide +kernel) hown hKK.1 hT.2.1 hS 6 (by decide) (hts (.fieldLink RX5 53 "WaxrowModel$House" "personCount" "I") (by decide +kernel)) rfl rfl (ρ 0 0 6) (by decide +kernel) rfl dX5_copy_85 (fun H locs hW2 hS hz hq => ?_)
  have hT := mt_put hT hW2 hq
  refine lv_aload_n hx hb dX5_copy_88 rfl (lv_at hl 0 rfl) ?_
  refine lv_aload_n hx hb dX5_copy_89 rfl (lv_at hl 1 rfl) ?_
  refine mh_get hx hb hts (by decide +kernel) hown hKK.1 hT.1 7 (by decide) (hts (.fieldLink RX5 56 "WaxrowModel$House" "figureCount" "I") (by decide +kernel)) rfl (v := .int (ρ 0 0 7)) rfl dX5_copy_90 ?_
  refine mh_puti (L := mL s.heap.size) hx hb hts (by decide +kernel) hown hKK.1 hT.2.1 hS 7 (by decide) (hts (.fieldLink RX5 56 "WaxrowModel$House" "figureCount" "I") (by decide +kernel)) rfl rfl (ρ 0 0 7) (by decide +kernel) rfl dX5_copy_93 (fun H locs hW2 hS hz hq => ?_)
  have hT := mt_put hT hW2 hq
  refine lv_aload_n hx hb dX5_copy_96 rfl (lv_at hl 0 rfl) ?_
  refine lv_aload_n hx hb dX5_copy_97 rfl (lv_at hl 1 rfl) ?_
  refine mh_get hx hb hts (by decide +kernel) hown hKK.1 hT.1 8 (by decide) (hts (.fieldLink RX5 59 "WaxrowModel$House" "roomCount" "I") (by decide +kernel)) rfl (v := .int (ρ 0 0 8)) rfl dX5_copy_98 ?_
  refine mh_puti (L := mL s.heap.size) hx hb hts (by decide +kernel) hown hKK.1 hT.2.1 hS 8 (by decide) (hts (.fieldLink RX5 59 "WaxrowModel$House" "roomCount" "I") (by decide +kernel)) rfl rfl (ρ 0 0 8) (by decide +kernel) rfl dX5_copy_101 (fun H locs hW2 hS hz hq => ?_)
  have hT := mt_put hT hW2 hq
  refine lv_aload_n hx hb dX5_copy_104 rfl (lv_at hl 0 rfl) ?_
  refine lv_aload_n hx hb dX5_copy_105 rfl (lv_at hl 1 rfl) ?_
  refine mh_get hx hb hts (by decide +kernel) hown hKK.1 hT.1 9 (by decide) (hts (.fieldLink RX5 62 "WaxrowModel$House" "day" "I") (by decide +kernel)) rfl (v := .int (ρ 0 0 9)) rfl dX5_copy_106 ?_
  refine mh_puti (L := mL s.heap.size) hx hb hts (by decide +kernel) hown hKK.1 hT.2.1 hS 9 (by decide) (hts (.fieldLink RX5 62 "WaxrowModel$House" "day" "I") (by decide +kernel)) rfl rfl (ρ 0 0 9) (by decide +kernel) rfl dX5_copy_109 (fun H locs hW2 hS hz hq => ?_)
  have hT := mt_put hT hW2 hq
  refine lv_aload_n hx hb dX5_copy_112 rfl (lv_at hl 0 rfl) ?_
  refine lv_aload_n hx hb dX5_copy_113 rfl (lv_at hl 1 rfl) ?_
  refine mh_get hx hb hts (by decide +kernel) hown hKK.1 hT.1 10 (by decide) (hts (.fieldLink RX5 65 "WaxrowModel$House" "came" "I") (by decide +kernel)) rfl (v := .int (ρ 0 0 10)) rfl dX5_copy_114 ?_
  refine mh_puti (L := mL s.heap.size) hx hb hts (by decide +kernel) hown hKK.1 hT.2.1 hS 10 (by decide) (hts (.fieldLink RX5 65 "WaxrowModel$House" "came" "I") (by decide +kernel)) rfl rfl (ρ 0 0 10) (by decide +kernel) rfl dX5_copy_117 (fun H locs hW2 hS hz hq => ?_)
  have hT := mt_put hT hW2 hq
  refine lv_aload_n hx hb dX5_copy_120 rfl (lv_at hl 0 rfl) ?_
  refine lv_aload_n hx hb dX5_copy_121 rfl (lv_at hl 1 rfl) ?_
  refine mh_get hx hb hts (by decide +kernel) hown hKK.1 hT.1 11 (by decide) (hts (.fieldLink RX5 32 "WaxrowModel$House" "price" "I") (by decide +kernel)) rfl (v := .int (ρ 0 0 11)) rfl dX5_copy_122 ?_
  refine mh_puti (L := mL s.heap.size) hx hb hts (by decide +kernel) hown hKK.1 hT.2.1 hS 11 (by decide) (hts (.fieldLink RX5 32 "WaxrowModel$House" "price" "I") (by decide +kernel)) rfl rfl (ρ 0 0 11) (by decide +kernel) rfl dX5_copy_125 (fun H locs hW2 hS hz hq => ?_)
  have hT := mt_put hT hW2 hq
  refine lv_aload_n hx hb dX5_copy_128 rfl (lv_at hl 0 rfl) ?_
  refine lv_aload_n hx hb dX5_copy_129 rfl (lv_at hl 1 rfl) ?_
  refine mh_get hx hb hts (by decide +kernel) hown hKK.1 hT.1 12 (by decide) (hts (.fieldLink RX5 36 "WaxrowModel$House" "money" "I") (by decide +kernel)) rfl (v := .int (ρ 0 0 12)) rfl dX5_copy_130 ?_
  refine mh_puti (L := mL s.heap.size) hx hb hts (by decide +kernel) hown hKK.1 hT.2.1 hS 12 (by decide) (hts (.fieldLink RX5 36 "WaxrowModel$House" "money" "I") (by decide +kernel)) rfl rfl (ρ 0 0 12) (by decide +kernel) rfl dX5_copy_133 (fun H locs hW2 hS hz hq => ?_)
  have hT := mt_put hT hW2 hq
  refine lv_aload_n hx hb dX5_copy_136 rfl (lv_at hl 0 rfl) ?_
  refine lv_aload_n hx hb dX5_copy_137 rfl (lv_at hl 1 rfl) ?_
  refine mh_get hx hb hts (by decide +kernel) hown hKK.1 hT.1 13 (by decide) (hts (.fieldLink RX5 39 "WaxrowModel$House" "wax" "I") (by decide +kernel)) rfl (v := .int (ρ 0 0 13)) rfl dX5_copy_138 ?_
  refine mh_puti (L := mL s.heap.size) hx hb hts (by decide +kernel) hown hKK.1 hT.2.1 hS 13 (by decide) (hts (.fieldLink RX5 39 "WaxrowModel$House" "wax" "I") (by decide +kernel)) rfl rfl (ρ 0 0 13) (by decide +kernel) rfl dX5_copy_141 (fun H locs hW2 hS hz hq => ?_)
  have hT := mt_put hT hW2 hq
  refine lv_aload_n hx hb dX5_copy_144 rfl (lv_at hl 0 rfl) ?_
  refine W.widen (k := 45) (n := 360) (by decide) (by decide) ?_
  have hT2 : mt_W D d cB L ρ A s.heap.size ρ H := ⟨hT.1, hT.2.1.agree (fun j h6 h14 => mp_cp_0 ρ j h6 h14) (fun k i h5 hx9 j hj => mp_cp_r ρ k i h5 hx9 j hj), hT.2.2⟩
  exact W.aret (v := .ref (mL s.heap.size 0 0)) hx hb hr (Or.inl ⟨_, rfl⟩) (Or.inr ⟨_, rfl⟩) (fun t ht hW9 => ⟨⟨(), _, rfl, trivial, rfl, by rw [ht]; exact hT2⟩, hS.F ht⟩) hS.2.2 dX5_copy_145
