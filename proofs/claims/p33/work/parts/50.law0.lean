/-! THE LAW'S WORLD: two Tolds, each with its Waxrow, house and trial -/
theorem lw_P1 {D : va_G} {q : Nat × va_E} {H : Heap} (h : va_at D vwCl q H) : va_P D vwCl [q] H := fun k q2 hk => by
  cases k with
  | zero => cases hk; exact h
  | succ k => simp at hk
abbrev lw_A (x : Nat) : Nat → Prop := fun q => x ≤ q ∧ q < x + 67
abbrev lw_Y : Type := Nat × hs_Lo × (Nat → Int32)
def lw_h (D : va_G) (d : hs_Dm) (x : Nat) (σ τ : hs_St) (H : Heap) : Prop := va_at D vwCl (x + 1, .inr (cWx, [.ref (rc_L (x + 2) 0 0), .ref (rc_L (x + 69) 0 0)])) H ∧ hs_W D d (rc_L (x + 2)) σ (lw_A (x + 2)) H ∧ hs_W D d (rc_L (x + 69)) τ (lw_A (x + 69)) H
abbrev lw_f (b : Nat) (y : lw_Y) (k : Nat) : List Value := tl_fs (y.1 + 1) b y.2.1 (nI k) (y.2.2 10) (y.2.2 11) (y.2.2 12) (y.2.2 13) (y.2.2 14)
def lw_1 (D : va_G) (d : hs_Dm) (b : Nat) (y : lw_Y) (k : Nat) (σ τ : hs_St) (H : Heap) : Prop := va_at D vwCl (y.1, .inr (cTo, lw_f b y k)) H ∧ lw_h D d y.1 σ τ H
theorem lw_1.kept {D : va_G} {d : hs_Dm} {b : Nat} {y : lw_Y} {k : Nat} {σ τ : hs_St} {H H1 : Heap} (h : lw_1 D d b y k σ τ H) (hq : ∀ q, q < H.size → y.1 ≤ q → q < y.1 + 136 → H1[q]? = H[q]?) : lw_1 D d b y k σ τ H1 := by
  obtain ⟨h1, h2, h3, h4⟩ := h
  exact ⟨h1.kept (hq _ h1.lt (Nat.le_refl _) (by omega)), h2.kept (hq _ h2.lt (by omega) (by omega)), h3.kept (fun q z1 z2 => hq q z1 (by have := z2.1; omega) (by have := z2.2; omega)), h4.kept (fun q z1 z2 => hq q z1 (by have := z2.1; omega) (by have := z2.2; omega))⟩
/-- where they lie: above what was there, apart -/
def lw_G (sz b : Nat) (y1 y2 : lw_Y) : Prop := sz ≤ y1.1 ∧ sz ≤ y2.1 ∧ b < sz ∧ (y1.1 + 136 ≤ y2.1 ∨ y2.1 + 136 ≤ y1.1)
theorem lw_G.sw {sz b : Nat} {y1 y2 : lw_Y} (h : lw_G sz b y1 y2) : lw_G sz b y2 y1 := ⟨h.2.1, h.1, h.2.2.1, h.2.2.2.symm⟩
def lw_B (D : va_G) (d : hs_Dm) (b : Nat) (y1 y2 : lw_Y) (k1 k2 : Nat) (σ1 τ1 σ2 τ2 : hs_St) (H : Heap) : Prop := lw_1 D d b y1 k1 σ1 τ1 H ∧ lw_1 D d b y2 k2 σ2 τ2 H
theorem lw_B.sw {D : va_G} {d : hs_Dm} {b : Nat} {y1 y2 : lw_Y} {k1 k2 : Nat} {σ1 τ1 σ2 τ2 : hs_St} {H : Heap} (h : lw_B D d b y1 y2 k1 k2 σ1 τ1 σ2 τ2 H) : lw_B D d b y2 y1 k2 k1 σ2 τ2 σ1 τ1 H := ⟨h.2, h.1⟩
/-- what the law finds at its entry and keeps -/
def lw_E (D : va_G) (d : hs_Dm) (cB cW : ClassId) (b N : Nat) (xs : Nat → Int32) (s : State) : Prop := va_K D vwCl (hs_ty d) s ∧ va_K D vwCl [(d.1, .int), (cB, .array .int)] s ∧ va_K D vwCl [(cW, .object RX4)] s ∧ va_AO RX4 s ∧ tl_AO s ∧ hx_E d.2.2.2.2 (rg_A s.heap.size) s ∧ va_X b N xs s s.heap ∧ va_Nw (.methodLinkNest RX5 56 yL_cell RL) s ∧ va_Nw (.methodLinkNest RX5 62 yL_below RL) s ∧ (va_AO "Waxrow$Person" s ∧ va_AO "Waxrow$Figure" s ∧ va_AO "Waxrow$Room" s)
theorem lw_wA (x : Nat) : ¬ lw_A (x + 2) (x + 1) := fun z => by have := z.1; omega
theorem lw_wB (x : Nat) : ¬ tw_A (lw_A (x + 2)) (lw_A (x + 69)) (x + 1) := fun z => by
  rcases z with z | z
  · have := z.1; omega
  · have := z.1; omega
theorem lw_dis (x : Nat) : ∀ q, lw_A (x + 69) q → ¬ lw_A (x + 2) q := fun q z1 z2 => by
  have := z1.1
  have := z2.2
  omega
section LWR
variable {p : Program} {l : Launch} {e : Env} {R : Room} {s : State} {m : MethodId} {args : Array Value} {below : List Frame} {meth : Method} {c0 : Code} {H : Heap} {locs : List Loc} {cells slots : Nat} {Q : State → Prop}
variable {cc : ByteArray} {pc : Nat} {ls : Array Slot} {rest : List Value} {D : va_G} {d : hs_Dm} {b N : Nat} {cB cW : ClassId} {xs : Nat → Int32} {y1 y2 : lw_Y} {k1 k2 : Nat} {σ1 τ1 σ2 τ2 : hs_St}
variable {y : MethodName} {bytes : ByteArray} {maxL nL na index : Nat} {ret : Option FieldType} {ws : List Cond} {rm : Room} {Ts : List Cond} {own : String} {As st : List Value}
/-- the first Waxrow is called: its house may change -/
theorem lw_wx {post : Int32 → hs_St → Prop} (S : CallFix p m c0 cc nL s args Ts own) (hM : wx_Mi l y ws rm D d (y1.1 + 1) (rc_L (y1.1 + 2)) (rc_L (y1.1 + 69)) σ1 (lw_A (y1.1 + 2)) (.ref (y1.1 + 1) :: As) post) (cw : CallW R s args own RX4 index y bytes maxL ret ws rm 0 0 na) (hE : lw_E D d cB cW b N xs s) (hG : lw_G s.heap.size b y1 y2) (hB : lw_B D d b y1 y2 k1 k2 σ1 τ1 σ2 τ2 H) (hS : va_S (rg_A s.heap.size) s.heap H locs) (hn : As.length = na) (hsize : ls.size = nL) (hrest : (rest.map fun v => v.category).sum ≤ 8) (hdg : decode cc pc = .ok (.invokevirtual index, 3)) (hf : cells + 0 ≤ R.cells ∧ slots + 0 ≤ R.slots) (hst : st = As.reverse ++ .ref (y1.1 + 1) :: rest)
    (kk : ∀ (r : Int32) (τ : hs_St) (H1 : Heap) (locs1 : List Loc), post r τ → lw_B D d b y1 y2 k1 k2 τ τ1 σ2 τ2 H1 → H.size ≤ H1.size → (∀ q : Nat, q < H.size → ¬ lw_A (y1.1 + 2) q → H1[q]? = H[q]?) → va_S (rg_A s.heap.size) s.heap H1 locs1 → W p l e R s m args below meth c0 H1 locs1 cells slots Q (F0 m (pc + 3) ls (.int r :: rest))) : W p l e R s m args below meth c0 H locs cells slots Q (F0 m pc ls st) := by
  subst hst
  obtain ⟨⟨t1, v1, w1, r1⟩, h2⟩ := hB
  obtain ⟨g1, g2, g3, g4⟩ := hG
  have hK := hE.1
  have hAB : ∀ q, lw_A (y1.1 + 2) q → rg_A s.heap.size q := fun q h => by
    have := h.1
    show s.heap.size ≤ q
    omega
  refine va_calli (va_runV S hM cw ⟨wx_blind, va_recv hK (lw_P1 v1) (q0 := 0) (show vwCl[cWx]? = some (RX4, TX4, 2) from rfl) rfl, fun U hU hW9 => ⟨rfl, ⟨⟨by rw [hU]; exact w1, va_K.moved hW9.alike hK⟩, (hE.2.2.2.2.2.1.on hW9 hU hS).narrow hAB⟩, by rw [hU]; exact v1⟩⟩ rfl hn hsize rfl (lv_room hrest) hdg hf) hS (fun q _ h => hAB q h) (fun q h => hAB q h) (fun r τ t H1 locs1 ht _ hp hB1 hz hq hS1 => ?_)
  obtain ⟨hW1, -⟩ := hB1
  rw [ht] at hW1
  exact kk r τ H1 locs1 hp ⟨⟨t1.kept (hq _ t1.lt (fun z => by have := z.1; omega)), v1.kept (hq _ v1.lt (lw_wA _)), hW1, r1.kept (fun q z1 z2 => hq q z1 (lw_dis _ q z2))⟩, h2.kept (fun q z1 z2 z3 => hq q z1 (fun z => by have := z.1; have := z.2; omega))⟩ hz hq hS1
/-- the first Waxrow is called: its trial may change -/
theorem lw_ti {post : Int32 → hs_St → Prop} (S : CallFix p m c0 cc nL s args Ts own) (hM : tw_Mi l y ws rm D d (y1.1 + 1) (rc_L (y1.1 + 2)) σ1 (lw_A (y1.1 + 2)) (rc_L (y1.1 + 69)) τ1 (lw_A (y1.1 + 69)) (.ref (y1.1 + 1) :: As) post) (cw : CallW R s args own RX4 index y bytes maxL ret ws rm 0 0 na) (hE : lw_E D d cB cW b N xs s) (hG : lw_G s.heap.size b y1 y2) (hB : lw_B D d b y1 y2 k1 k2 σ1 τ1 σ2 τ2 H) (hS : va_S (rg_A s.heap.size) s.heap H locs) (hn : As.length = na) (hsize : ls.size = nL) (hrest : (rest.map fun v => v.category).sum ≤ 8) (hdg : decode cc pc = .ok (.invokevirtual index, 3)) (hf : cells + 0 ≤ R.cells ∧ slots + 0 ≤ R.slots) (hst : st = As.reverse ++ .ref (y1.1 + 1) :: rest)
    (kk : ∀ (r : Int32) (τ : hs_St) (H1 : Heap) (locs1 : List Loc), post r τ → lw_B D d b y1 y2 k1 k2 σ1 τ σ2 τ2 H1 → H.size ≤ H1.size → va_S (rg_A s.heap.size) s.heap H1 locs1 → W p l e R s m args below meth c0 H1 locs1 cells slots Q (F0 m (pc + 3) ls (.int r :: rest))) : W p l e R s m args below meth c0 H locs cells slots Q (F0 m pc ls st) := by
  subst hst
  obtain ⟨⟨t1, v1, w1, r1⟩, h2⟩ := hB
  obtain ⟨g1, g2, g3, g4⟩ := hG
  have hK := hE.1
  have hAB : ∀ q, tw_A (lw_A (y1.1 + 2)) (lw_A (y1.1 + 69)) q → rg_A s.heap.size q := fun q h => by
    show s.heap.size ≤ q
    rcases h with h | h
    · have := h.1; omega
    · have := h.1; omega
  refine va_calli (va_runV S hM cw ⟨tw_blind, va_recv hK (lw_P1 v1) (q0 := 0) (show vwCl[cWx]? = some (RX4, TX4, 2) from rfl) rfl, fun U hU hW9 => ⟨rfl, ⟨by rw [hU]; exact w1, by rw [hU]; exact r1, va_K.moved hW9.alike hK⟩, (hE.2.2.2.2.2.1.on hW9 hU hS).narrow hAB, by rw [hU]; exact v1⟩⟩ rfl hn hsize rfl (lv_room hrest) hdg hf) hS (fun q _ h => hAB q h) (fun q h => hAB q h) (fun r τ t H1 locs1 ht _ hp hB1 hz hq hS1 => ?_)
  obtain ⟨hW1, hW2, -⟩ := hB1
  rw [ht] at hW1 hW2
  exact kk r τ H1 locs1 hp ⟨⟨t1.kept (hq _ t1.lt (fun z => by rcases z with z | z <;> (have := z.1; omega))), v1.kept (hq _ v1.lt (lw_wB _)), hW1, hW2⟩, h2.kept (fun q z1 z2 z3 => hq q z1 (fun z => by rcases z with z | z <;> (have := z.1; have := z.2; omega)))⟩ hz hS1
theorem lw_tl {post : Int64 → hs_St → Prop} (S : CallFix p m c0 cc nL s args Ts own) (hM : tw_Ml l y ws rm D d (y1.1 + 1) (rc_L (y1.1 + 2)) σ1 (lw_A (y1.1 + 2)) (rc_L (y1.1 + 69)) τ1 (lw_A (y1.1 + 69)) (.ref (y1.1 + 1) :: As) post) (cw : CallW R s args own RX4 index y bytes maxL ret ws rm 0 0 na) (hE : lw_E D d cB cW b N xs s) (hG : lw_G s.heap.size b y1 y2) (hB : lw_B D d b y1 y2 k1 k2 σ1 τ1 σ2 τ2 H) (hS : va_S (rg_A s.heap.size) s.heap H locs) (hn : As.length = na) (hsize : ls.size = nL) (hrest : (rest.map fun v => v.category).sum ≤ 8) (hdg : decode cc pc = .ok (.invokevirtual index, 3)) (hf : cells + 0 ≤ R.cells ∧ slots + 0 ≤ R.slots) (hst : st = As.reverse ++ .ref (y1.1 + 1) :: rest)
    (kk : ∀ (r : Int64) (τ : hs_St) (H1 : Heap) (locs1 : List Loc), post r τ → lw_B D d b y1 y2 k1 k2 σ1 τ σ2 τ2 H1 → H.size ≤ H1.size → va_S (rg_A s.heap.size) s.heap H1 locs1 → W p l e R s m args below meth c0 H1 locs1 cells slots Q (F0 m (pc + 3) ls (.long r :: rest))) : W p l e R s m args below meth c0 H locs cells slots Q (F0 m pc ls st) := by
  subst hst
  obtain ⟨⟨t1, v1, w1, r1⟩, h2⟩ := hB
  obtain ⟨g1, g2, g3, g4⟩ := hG
  have hK := hE.1
  have hAB : ∀ q, tw_A (lw_A (y1.1 + 2)) (lw_A (y1.1 + 69)) q → rg_A s.heap.size q := fun q h => by
    show s.heap.size ≤ q
    rcases h with h | h
    · have := h.1; omega
    · have := h.1; omega
  refine va_calll (va_runV S hM cw ⟨tw_blind, va_recv hK (lw_P1 v1) (q0 := 0) (show vwCl[cWx]? = some (RX4, TX4, 2) from rfl) rfl, fun U hU hW9 => ⟨rfl, ⟨by rw [hU]; exact w1, by rw [hU]; exact r1, va_K.moved hW9.alike hK⟩, (hE.2.2.2.2.2.1.on hW9 hU hS).narrow hAB, by rw [hU]; exact v1⟩⟩ rfl hn hsize rfl (lv_room hrest) hdg hf) hS (fun q _ h => hAB q h) (fun q h => hAB q h) (fun r τ t H1 locs1 ht _ hp hB1 hz hq hS1 => ?_)
  obtain ⟨hW1, hW2, -⟩ := hB1
  rw [ht] at hW1 hW2
  exact kk r τ H1 locs1 hp ⟨⟨t1.kept (hq _ t1.lt (fun z => by rcases z with z | z <;> (have := z.1; omega))), v1.kept (hq _ v1.lt (lw_wB _)), hW1, hW2⟩, h2.kept (fun q z1 z2 z3 => hq q z1 (fun z => by rcases z with z | z <;> (have := z.1; have := z.2; omega)))⟩ hz hS1
/-- a static method of the law's own over one Waxrow, that changes nothing -/
theorem lw_st {post : Int32 → hs_St → Prop} (hpo : ∀ r τ, post r τ → τ = σ1) (S : CallFix p m c0 cc nL s args Ts own) (hM : wx_Mi l y ws rm D d (y1.1 + 1) (rc_L (y1.1 + 2)) (rc_L (y1.1 + 69)) σ1 (lw_A (y1.1 + 2)) As post) (cw : CallB R s args own index y bytes maxL ret ws rm 0 0 na ∧ (Cond.static y).before args s = true) (hE : lw_E D d cB cW b N xs s) (hG : lw_G s.heap.size b y1 y2) (hB : lw_B D d b y1 y2 k1 k2 σ1 τ1 σ2 τ2 H) (hS : va_S (rg_A s.heap.size) s.heap H locs) (hn : As.length = na) (hsize : ls.size = nL) (hrest : (rest.map fun v => v.category).sum ≤ 8) (hdg : decode cc pc = .ok (.invokestatic index, 3)) (hf : cells + 0 ≤ R.cells ∧ slots + 0 ≤ R.slots) (hst : st = As.reverse ++ rest)
    (kk : ∀ (r : Int32) (H1 : Heap) (locs1 : List Loc), post r σ1 → lw_B D d b y1 y2 k1 k2 σ1 τ1 σ2 τ2 H1 → H.size ≤ H1.size → va_S (rg_A s.heap.size) s.heap H1 locs1 → W p l e R s m args below meth c0 H1 locs1 cells slots Q (F0 m (pc + 3) ls (.int r :: rest))) : W p l e R s m args below meth c0 H locs cells slots Q (F0 m pc ls st) := by
  subst hst
  obtain ⟨⟨t1, v1, w1, r1⟩, h2⟩ := hB
  obtain ⟨g1, g2, g3, g4⟩ := hG
  have hK := hE.1
  have hAB : ∀ q, lw_A (y1.1 + 2) q → rg_A s.heap.size q := fun q h => by
    have := h.1
    show s.heap.size ≤ q
    omega
  refine va_calli (va_runS S hM cw ⟨wx_blind, fun U hU hW9 => ⟨rfl, ⟨⟨by rw [hU]; exact w1, va_K.moved hW9.alike hK⟩, (hE.2.2.2.2.2.1.on hW9 hU hS).narrow hAB⟩, by rw [hU]; exact v1⟩⟩ rfl hn hsize rfl (lv_room hrest) hdg hf) hS (fun q _ h => hAB q h) (fun q h => hAB q h) (fun r τ t H1 locs1 ht _ hp hB1 hz hq hS1 => ?_)
  obtain ⟨hW1, -⟩ := hB1
  rw [ht] at hW1
  have e9 := hpo r τ hp
  subst e9
  exact kk r H1 locs1 hp ⟨⟨t1.kept (hq _ t1.lt (fun z => by have := z.1; omega)), v1.kept (hq _ v1.lt (lw_wA _)), hW1, r1.kept (fun q z1 z2 => hq q z1 (lw_dis _ q z2))⟩, h2.kept (fun q z1 z2 z3 => hq q z1 (fun z => by have := z.1; have := z.2; omega))⟩ hz hS1
/-- the first Told draws -/
theorem lw_dr {x : Int32} (S : CallFix p m c0 cc nL s args Ts own) (cw : CallW R s args own RX5 index yX5_draw bytes maxL ret wsX5_draw ({ frames := 1, cells := 0, slots := 0, locals := 30 }) 0 0 na) (hk30 : k1 < 2 ^ 30) (hN : N < 2 ^ 31) (hx0 : ¬ x = 0) (hE : lw_E D d cB cW b N xs s) (hG : lw_G s.heap.size b y1 y2) (hB : lw_B D d b y1 y2 k1 k2 σ1 τ1 σ2 τ2 H) (hS : va_S (rg_A s.heap.size) s.heap H locs) (hn : 1 = na) (hsize : ls.size = nL) (hrest : (rest.map fun v => v.category).sum ≤ 8) (hdg : decode cc pc = .ok (.invokevirtual index, 3)) (hf : cells + 0 ≤ R.cells ∧ slots + 0 ≤ R.slots) (hst : st = .int x :: .ref y1.1 :: rest)
    (kk : ∀ (H1 : Heap) (locs1 : List Loc), lw_B D d b y1 y2 (k1 + 1) k2 σ1 τ1 σ2 τ2 H1 → H.size ≤ H1.size → va_S (rg_A s.heap.size) s.heap H1 locs1 → W p l e R s m args below meth c0 H1 locs1 cells slots Q (F0 m (pc + 3) ls (.int (tl_v xs N k1 x) :: rest))) : W p l e R s m args below meth c0 H locs cells slots Q (F0 m pc ls st) := by
  subst hst
  obtain ⟨⟨t1, v1, w1, r1⟩, h2⟩ := hB
  obtain ⟨g1, g2, g3, g4⟩ := hG
  obtain ⟨hK, hK2, hK3, hA1, hA2, hX, hXs, hN1, hN2, hA3⟩ := hE
  have hba : b ≠ y1.1 := by omega
  have hbA : ¬ rg_A s.heap.size b := Nat.not_le.mpr g3
  refine va_calli (va_runV (As := [.int x]) S (kX5_draw l D d y1.1 (y1.1 + 1) b N xs y1.2.1 k1 (y1.2.2 10) (y1.2.2 11) (y1.2.2 12) (y1.2.2 13) (y1.2.2 14) x hk30 hN hx0 hba) cw ⟨tl_Dc_blind, va_recv hK (lw_P1 t1) (q0 := 0) (show vwCl[cTo]? = some (RX5, TX5, 15) from rfl) rfl, fun U hU hW9 => ⟨rfl, by rw [hU]; exact lw_P1 t1, va_K.moved hW9.alike hK, ⟨by rw [hU]; exact (va_X.moved hW9.alike hXs).kept (hS.2.1 b g3 hbA), by rw [hU]; exact Nat.lt_of_lt_of_le g3 hS.1⟩, va_Nw.warmM hW9 hN1, va_Nw.warmM hW9 hN2⟩⟩ rfl hn hsize rfl (lv_room hrest) hdg hf) hS (fun q _ z => by rw [z]; exact g1) (fun q z => by rw [z]; exact g1) (fun r u t H1 locs1 ht _ hp hB1 hz hq hS1 => ?_)
  subst hp
  rw [ht] at hB1
  exact kk H1 locs1 ⟨⟨hB1 0 _ rfl, v1.kept (hq _ v1.lt (fun z => by omega)), w1.kept (fun q z1 z2 => hq q z1 (fun z => by have := z2.1; omega)), r1.kept (fun q z1 z2 => hq q z1 (fun z => by have := z2.1; omega))⟩, h2.kept (fun q z1 z2 z3 => hq q z1 (fun z => by omega))⟩ hz hS1
/-- the first Told's fields -/
theorem lw_get (hexec : p.tables.exec = Jvm.exec) (hb : c0.code = cc) {index : Nat} (hts : ∀ w ∈ Ts, w.before args s = true) (hin : ∀ w ∈ u_ws RX5 TX5 15, w ∈ Ts) (hown : s.vm.findClass own = some m.cls) (hE : lw_E D d cB cW b N xs s) (hB : lw_B D d b y1 y2 k1 k2 σ1 τ1 σ2 τ2 H) (j : Nat) (hj : j < 15) (hlink : (Cond.fieldLink own index RX5 (TX5 j).2.1 (TX5 j).2.2.1).before args s = true) (hsame : (TX5 j).1 = RX5) {v : Value} (hv : (lw_f b y1 k1)[j]? = some v) (hdg : decode cc pc = .ok (.getfield index, 3))
    (kk : W p l e R s m args below meth c0 H locs cells slots Q (F0 m (pc + 3) ls (v :: rest))) : W p l e R s m args below meth c0 H locs cells slots Q (F0 m pc ls (.ref y1.1 :: rest)) :=
  va_get (D := D) (ci := cTo) (C := RX5) (T := TX5) (N := 15) hexec hb hts hin hown hE.1 (lw_P1 hB.1.1) 0 rfl rfl j hj hlink (fun x h => by rw [hsame] at h; exact h) hv hdg kk
/-- the first Told's draws are set -/
theorem lw_pd (hexec : p.tables.exec = Jvm.exec) (hb : c0.code = cc) {index k : Nat} (hts : ∀ w ∈ Ts, w.before args s = true) (hin : ∀ w ∈ u_ws RX5 TX5 15, w ∈ Ts) (hown : s.vm.findClass own = some m.cls) (hE : lw_E D d cB cW b N xs s) (hG : lw_G s.heap.size b y1 y2) (hB : lw_B D d b y1 y2 k1 k2 σ1 τ1 σ2 τ2 H) (hS0 : va_S (rg_A s.heap.size) s.heap H locs) (hlink : (Cond.fieldLink own index RX5 (TX5 2).2.1 (TX5 2).2.2.1).before args s = true)
    (hdg : decode cc pc = .ok (.putfield index, 3)) (kk : ∀ (H1 : Heap) (locs1 : List Loc), lw_B D d b y1 y2 k k2 σ1 τ1 σ2 τ2 H1 → va_S (rg_A s.heap.size) s.heap H1 locs1 → H1.size = H.size → W p l e R s m args below meth c0 H1 locs1 cells slots Q (F0 m (pc + 3) ls rest)) : W p l e R s m args below meth c0 H locs cells slots Q (F0 m pc ls (.int (nI k) :: .ref y1.1 :: rest)) := by
  obtain ⟨⟨t1, v1, w1, r1⟩, h2⟩ := hB
  obtain ⟨g1, g2, g3, g4⟩ := hG
  have hK := hE.1
  have hj : 2 < 15 := by decide
  have hc : vwCl[cTo]? = some (RX5, TX5, 15) := rfl
  have hap := va_apart (own := own) hts hin tyX5 tyX5_ok nmX5 hK hc
  obtain ⟨r, h1, cell, q1, q2, q3, q4⟩ := t1
  have hr : r = (RX5, TX5, 15) := Option.some.inj (h1.symm.trans hc)
  subst hr
  obtain ⟨hS, hfc, kC, hkC, hkind⟩ := hK.1 cTo _ hc
  obtain ⟨cf, kf, fi, f, hi, hsl⟩ := hS 2 hj
  have hlay := hts _ (hin _ (u_in_lay hj))
  unfold u_lay at hlay
  rw [if_neg (by decide)] at hlay
  have hst := (u_facts hfc hkC (u_lays hts hin hj) hi).1
  have h6 := u_store hfc hkC hkind hlay hi (show parseFieldDescriptor (TX5 2).2.2.1 = some .int by decide +kernel) (show narrow .int (.int (nI k)) = .int (nI k) from rfl) (show fits .int (.int (nI k)) = true from rfl)
  have hi2 := hi
  rw [show (TX5 2).1 = RX5 from rfl] at hi2
  refine W.putK hexec hb (f := f) ⟨hown, hlink, ⟨_, _, _, hi2⟩, hst⟩ (by rw [q2]; exact h6) q1 q3 (by rw [hsl]; exact k2_hasslot (q4 2 hj)) rfl rfl hdg fun H' e1 e2 e3 => ?_
  rw [hsl] at e1 ⊢
  have e3 : ∀ q : Nat, q ≠ y1.1 → H'[q]? = H[q]? := e3
  exact kk H' _ ⟨⟨⟨_, hc, t_OB.to (V := updV (vp_V _) 2 (.int (nI k))) ⟨_, e1, q2, q3, t_set q4 hap hj (.int (nI k))⟩ (fun n _ => vp_updV_set hj (.int (nI k)) n)⟩, v1.kept (e3 _ (by show y1.1 + 1 ≠ y1.1; omega)), w1.kept (fun q z1 z2 => e3 q (fun z => by have := z2.1; omega)), r1.kept (fun q z1 z2 => e3 q (fun z => by have := z2.1; omega))⟩, h2.kept (fun q z1 z2 z3 => e3 q (fun z => by omega))⟩ (hS0.put e2 e3 g1) e2
/-- a new row of Waxrows, put into, read -/
theorem lw_new (hexec : p.tables.exec = Jvm.exec) (hb : c0.code = cc) {index : Nat} (hown : s.vm.findClass own = some m.cls) (hclink : (Cond.classLink own index RX4).before args s = true) (hE : lw_E D d cB cW b N xs s) (hB : lw_B D d b y1 y2 k1 k2 σ1 τ1 σ2 τ2 H) (hS : va_S (rg_A s.heap.size) s.heap H locs)
    {i : Int32} {N' : Nat} (hn : ¬ i < 0) (hN : i.toNatClampNeg = N') (hbytes : N' * 4 ≤ 536870912) (hcells : cells + 1 ≤ R.cells) (hslots : slots + N' ≤ R.slots) (hdg : decode cc pc = .ok (.anewarray index, 3))
    (kk : ∀ (a : Nat) (H1 : Heap), H.size ≤ a → va_at D vwCl (a, .inl (cW, N', .inr (.inr (.inr (.inr (fun _ => none)))))) H1 → lw_B D d b y1 y2 k1 k2 σ1 τ1 σ2 τ2 H1 → H.size ≤ H1.size → va_S (rg_A s.heap.size) s.heap H1 locs → W p l e R s m args below meth c0 H1 locs (cells + 1) (slots + N') Q (F0 m (pc + 3) ls (.ref a :: rest))) : W p l e R s m args below meth c0 H locs cells slots Q (F0 m pc ls (.int i :: rest)) := by
  subst hN
  refine W.anew hexec hb hown hclink (va_AO.use hE.2.2.2.1) rfl hdg rfl hn hbytes hcells hslots fun cA kA comp f1 f2 f3 f4 => ?_
  generalize hH1 : H.push ({ cls := cA, slots := Array.replicate i.toNatClampNeg .null, vm := .none } : Cell) = H1
  have z1 : H1.size = H.size + 1 := by rw [← hH1, Array.size_push]
  have e1 : H1[H.size]? = some (arrV cA i.toNatClampNeg (fun _ => .null)) := by rw [← hH1, Array.getElem?_push_size, ← arrV_new]
  have o1 : ∀ q : Nat, q < H.size → H1[q]? = H[q]? := fun q hq => by rw [← hH1, Array.getElem?_push, if_neg (Nat.ne_of_lt hq)]
  obtain ⟨kA2, comp2, k1_, k2_, k3_, k4_⟩ := (hE.2.2.1.2 0 _ rfl).2
  have hcA : cA = cW := Option.some.inj (f1.symm.trans k4_)
  subst hcA
  exact kk H.size H1 (Nat.le_refl _) (by show H1[H.size]? = some (vp_cell _ _); rw [vp_cell_q]; exact e1) ⟨hB.1.kept (fun q h _ _ => o1 q h), hB.2.kept (fun q h _ _ => o1 q h)⟩ (by omega) (rg_S hS (by omega) o1)
theorem lw_ast (hexec : p.tables.exec = Jvm.exec) (hb : c0.code = cc) (hE : lw_E D d cB cW b N xs s) (hG : lw_G s.heap.size b y1 y2) (hB : lw_B D d b y1 y2 k1 k2 σ1 τ1 σ2 τ2 H) (hS : va_S (rg_A s.heap.size) s.heap H locs) {a n v : Nat} {f : Nat → Option Nat} (ha : va_at D vwCl (a, .inl (cW, n, .inr (.inr (.inr (.inr f))))) H) (haz : y1.1 + 136 ≤ a ∧ y2.1 + 136 ≤ a) {vs : List Value} (hv : va_at D vwCl (v, .inr (cWx, vs)) H) {i : Int32} (hin : vp_in i n) (hdg : decode cc pc = .ok (.aastore, 1))
    (kk : ∀ (H1 : Heap) (locs1 : List Loc), va_at D vwCl (a, .inl (cW, n, .inr (.inr (.inr (.inr (va_up f i.toNatClampNeg (some v))))))) H1 → lw_B D d b y1 y2 k1 k2 σ1 τ1 σ2 τ2 H1 → H1.size = H.size → va_S (rg_A s.heap.size) s.heap H1 locs1 → W p l e R s m args below meth c0 H1 locs1 cells slots Q (F0 m (pc + 1) ls rest)) : W p l e R s m args below meth c0 H locs cells slots Q (F0 m pc ls (.ref v :: .int i :: .ref a :: rest)) := by
  have hlt : i.toNatClampNeg < n := Nat.not_le.mp fun q => hin (Or.inr q)
  have h0 : ¬ i < 0 := fun q => hin (Or.inl q)
  have hc : vwCl[cWx]? = some (RX4, TX4, 2) := rfl
  obtain ⟨r', hr', cellV, g1, g2, g3, -⟩ := hv
  have hcls := (hE.1.1 cWx _ hc).2
  obtain ⟨kA, comp, k1_, k2_, k3_, -⟩ := (hE.2.2.1.2 0 _ rfl).2
  have hcomp : comp = D.1 cWx := Option.some.inj (k3_.symm.trans hcls.1)
  subst hcomp
  obtain ⟨kC, hkC, -⟩ := hcls.2
  refine W.aast hexec hb ha (fun q h => by cases h) (fun h => by cases h) k1_ k2_ rfl hkC ⟨h0, by show _ < (arrV _ _ _).slots.size; rw [arrV_size]; exact hlt⟩ g1 (fun q h => by rw [g3] at h; cases h) (by rw [g2]; exact hkC) (by rw [g2]; exact va_assign hcls) rfl rfl hdg fun H1 e z oq => ?_
  have oq : ∀ q : Nat, q ≠ a → H1[q]? = H[q]? := oq
  refine kk H1 _ ?_ ⟨hB.1.kept (fun q _ _ z3 => oq q (by have := haz.1; omega)), hB.2.kept (fun q _ _ z3 => oq q (by have := haz.2; omega))⟩ z (hS.put z oq (by have := hG.1; have := haz.1; show s.heap.size ≤ a; omega))
  show H1[a]? = some (vp_cell _ _)
  rw [e]
  rw [vp_cell_q, vp_cell_q, arrV_store]
  congr 2
  funext q
  by_cases hq : q = i.toNatClampNeg
  · subst hq
    simp [updV, va_up, va_rf]
  · simp [updV, va_up, hq]
theorem lw_ald (hexec : p.tables.exec = Jvm.exec) (hb : c0.code = cc) (hE : lw_E D d cB cW b N xs s) {a n v : Nat} {f : Nat → Option Nat} (ha : va_at D vwCl (a, .inl (cW, n, .inr (.inr (.inr (.inr f))))) H) {q : Nat} (hq : q < n) (hq2 : q < 2 ^ 31) (hv : f q = some v) (hdg : decode cc pc = .ok (.aaload, 1))
    (kk : W p l e R s m args below meth c0 H locs cells slots Q (F0 m (pc + 1) ls (.ref v :: rest))) : W p l e R s m args below meth c0 H locs cells slots Q (F0 m pc ls (.int (nI q) :: .ref a :: rest)) := by
  have hlt : (nI q).toNatClampNeg < n := by rw [nI_clamp hq2]; exact hq
  have hin : ¬ (nI q < 0 ∨ n ≤ (nI q).toNatClampNeg) := by
    rintro (z | z)
    · exact nI_pos hq2 z
    · omega
  exact W.aald (v := .ref v) (ty := .object RX4) hexec hb ha ((hE.2.2.1.2 0 _ rfl).1 n (fun j => va_rf (f j))) rfl (fun q => by cases q) (by show ¬ (nI q < 0 ∨ (arrV _ _ _).slots.size ≤ _); rw [arrV_size]; exact hin) (by show (arrV _ _ _).slots[_]? = _; rw [arrV_read _ _ hlt, nI_clamp hq2, hv]; rfl) rfl rfl hdg kk
theorem lw_len (hexec : p.tables.exec = Jvm.exec) (hb : c0.code = cc) (hE : lw_E D d cB cW b N xs s) {a n : Nat} {f : Nat → Option Nat} (ha : va_at D vwCl (a, .inl (cW, n, .inr (.inr (.inr (.inr f))))) H) (hdg : decode cc pc = .ok (.arraylength, 1))
    (kk : W p l e R s m args below meth c0 H locs cells slots Q (F0 m (pc + 1) ls (.int (nI n) :: rest))) : W p l e R s m args below meth c0 H locs cells slots Q (F0 m pc ls (.ref a :: rest)) := va_alen hexec hb hE.2.2.1 (lw_P1 ha) 0 0 rfl rfl rfl hdg kk
end LWR
