/-! THE FIGURE: work, wear, tour -/
theorem sp_inw {x : Int32} (h : ∃ j, j ≤ 6 ∧ x = nI j) (c : ¬ 6 ≤ x) : vp_in x 6 := by
  obtain ⟨j, hj, rfl⟩ := h
  refine vp_in_nI (Nat.lt_of_not_le fun q => c ?_) (by decide)
  rw [sp_six]
  exact nI_le q (by omega)
def sp_left (σ : hs_St) (f : Nat) : Int32 := if 6 ≤ σ 9 f 2 then 0 else hs_wk (σ 9 f 2).toNatClampNeg - σ 9 f 3
def sp_add : Nat → Nat → Int32 → Int32
  | 0, _, x => x
  | k + 1, n, x => sp_add k (n + 1) (x + hs_wk n)
def sp_days (σ : hs_St) (f : Nat) : Int32 := if sp_isDone σ f = 0 then (if σ 9 f 7 = 7 then -1 else if 0 < σ 9 f 4 then (sp_add (6 - (σ 9 f 2).toNatClampNeg) (σ 9 f 2).toNatClampNeg (- σ 9 f 3) + σ 9 f 4 - 1) / σ 9 f 4 else -1) else 0
def sp_put (τ : hs_St) (f : Nat) : hs_St := hs_sg (hs_sg τ 9 f 3 (τ 9 f 3 - hs_wk (τ 9 f 2).toNatClampNeg)) 9 f 2 (τ 9 f 2 + 1)
def sp_step (τ : hs_St) (f : Nat) : hs_St := if τ 9 f 2 + 1 = 1 then hs_sg (sp_put τ f) 9 f 5 (sp_doubt (sp_put τ f) (τ 9 f 0).toNatClampNeg) else sp_put τ f
def sp_climb (f : Nat) : Nat → hs_St → hs_St
  | 0, τ => τ
  | k + 1, τ => if 6 ≤ τ 9 f 2 then τ else if τ 9 f 3 < hs_wk (τ 9 f 2).toNatClampNeg then τ else sp_climb f k (sp_step τ f)
def sp_fin (τ : hs_St) (f : Nat) : Int32 × hs_St := if 6 ≤ τ 9 f 2 then (1, hs_sg (hs_sg τ 9 f 3 0) 9 f 4 0) else (0, τ)
def sp_wd (σ : hs_St) (f : Nat) : Int32 × hs_St := if 6 ≤ σ 9 f 2 then (0, σ) else if σ 9 f 7 = 7 then (0, σ) else sp_fin (sp_climb f (6 - (σ 9 f 2).toNatClampNeg) (hs_sg σ 9 f 3 (σ 9 f 3 + σ 9 f 4))) f
def sp_heat (y z : Int32) : Int32 := if z ≤ 25 then 0 else (z - 25) * y / 10
def sp_worn (σ : hs_St) (f : Nat) (x y z : Int32) : hs_St :=
  let τ := hs_sg (hs_sg σ 9 f 10 (σ 9 f 10 + x)) 4 (σ 9 f 0).toNatClampNeg 6 (σ 4 (σ 9 f 0).toNatClampNeg 6 + x / 100)
  hs_sg τ 9 f 6 (if 100 < σ 9 f 6 + x / 50 + y / 3 + sp_heat y z then 100 else σ 9 f 6 + x / 50 + y / 3 + sp_heat y z)
def sp_wear (σ : hs_St) (f : Nat) (x y z : Int32) : Int32 × hs_St := if 100 ≤ sp_worn σ f x y z 9 f 6 then (1, sp_melt (sp_worn σ f x y z) f) else (0, sp_worn σ f x y z)
def sp_earn (σ : hs_St) (f : Nat) : Int32 := if σ 9 f 8 < 0 then 0 else if 3 ≤ σ 9 f 8 then 0 else σ 5 (σ 9 f 0).toNatClampNeg (σ 9 f 8).toNatClampNeg * sp_likeness σ f / 1000
def sp_tour (σ : hs_St) (f : Nat) : hs_St :=
  let τ := hs_sg (hs_sg σ 9 f 6 (if 99 < σ 9 f 6 + 2 then 99 else σ 9 f 6 + 2)) 9 f 9 (σ 9 f 9 - 1)
  if 0 < σ 9 f 9 - 1 then τ else hs_sg (hs_sg τ 9 f 9 0) 9 f 7 5
theorem sp_put_at (τ : hs_St) (f : Nat) : sp_put τ f 9 f 2 = τ 9 f 2 + 1 := by simp [sp_put, hs_sg]
theorem sp_step_at (τ : hs_St) (f : Nat) : sp_step τ f 9 f 2 = τ 9 f 2 + 1 := by
  unfold sp_step
  split
  · simp [sp_put, hs_sg]
  · exact sp_put_at τ f
theorem sp_step_off (τ : hs_St) (f k i j : Nat) (h : ¬ (k = 9 ∧ i = f) ∨ ¬ (j = 2 ∨ j = 3 ∨ j = 5)) : sp_step τ f k i j = τ k i j := by
  unfold sp_step sp_put
  split
  · simp only [hs_sg]
    rw [if_neg (by omega), if_neg (by omega), if_neg (by omega)]
  · simp only [hs_sg]
    rw [if_neg (by omega), if_neg (by omega)]
theorem sp_step_hd {τ : hs_St} {f : Nat} (hh : hs_hd τ) : hs_hd (sp_step τ f) := fun i hi => by
  rw [sp_step_off τ f 9 i 0 (Or.inr (by omega)), sp_step_off τ f 9 i 1 (Or.inr (by omega))]
  exact hh i hi
theorem sp_inl {x : Int32} (h : ¬ x < 0) (h2 : ¬ 3 ≤ x) : ¬ (x < 0 ∨ 3 ≤ x.toNatClampNeg) := by
  obtain ⟨j, hj, rfl⟩ := nI_of h
  rw [nI_clamp hj]
  intro q
  rcases q with q | q
  · exact h q
  · exact h2 (by rw [sp_three]; exact nI_le q hj)
set_option maxHeartbeats 4000000 in
set_option maxRecDepth 100000 in
/-- workLeftInStep -/
theorem kX0_workLeftInStep (l : Launch) (D : va_G) (d : hs_Dm) (L : hs_Lo) (σ : hs_St) (A : Nat → Prop) (f : Nat) (hf : f < 8) (hj : ∃ j, j ≤ 6 ∧ σ 9 f 2 = nI j) : hs_Mi l yX0_workLeftInStep wsX0_workLeftInStep ({ frames := 0, cells := 0, slots := 0, locals := 0 }) D d L σ A [.ref (L 9 f)] (fun r τ => sp_left σ f = r ∧ σ = τ) := by
  refine Met.ofW (cc := cX0_workLeftInStep) (maxL := 1) (ret := (some .int)) (by decide) rfl ?_
  intro p e s m args below meth c s₁ B hml hv
  obtain ⟨rfl, ⟨hW, hK⟩, hE⟩ := hv
  have hx := B.exec
  have hb := B.bytes
  have hr := B.returns
  have hts := atoms_spec (ws := wsX0_workLeftInStep) B.pre
  have hown : s.vm.findClass RX0 = some m.cls := findClass_of_methodNamed B.named
  have hlocks := B.notSynchronized
  have hS : va_S A s.heap s.heap [] := va_S.rf
  have hW : hs_W D d L σ A s.heap := hW
  have hl := lv_entry ([.ref (L 9 f)]) (n := 1) (Nat.le_of_ble_eq_true rfl)
  rw [lg_entry_eq]
  generalize (lg_sl ([.ref (L 9 f)]) ++ List.replicate (1 - (lg_sl ([.ref (L 9 f)])).length) Slot.unset).toArray = ls at hl ⊢
  have hl : lv_has ls 1 [(0, .ref (L 9 f))] := hl
  refine lv_aload_n hx hb dX0_workLeftInStep_0 rfl (lv_at hl 0 rfl) ?_
  refine va_get (D := D) (ci := cFi) (C := RX0) (T := TX0) (N := 11) (ws := [(L 9 f, hs_ct d L σ 9 f)]) (v := .int (σ 9 f 2)) hx hb hts (by decide +kernel) hown hK (hW.one (hs_ix9 hf)) 0 rfl rfl 2 (by decide) (hts (.fieldLink RX0 22 "Waxrow$Figure" "step" "I") (by decide +kernel)) (fun _ h9 => h9) rfl dX0_workLeftInStep_1 ?_
  refine va_getsN hx hb hE.2.2.2.1 hS hown (va_Nw.use rfl hE.2.2.1) (fun _ h9 => h9) dX0_workLeftInStep_4 ?_
  refine va_tlen hx hb hE.2.2.2.2 hS (v := 6) (by decide) dX0_workLeftInStep_7 ?_
  refine lv_icmp_ge (tgt := 27) hx hb dX0_workLeftInStep_8 (by decide) (fun c_8 => ?_) (fun c_8 => ?_)
  · refine lv_iconst (v := 0) hx hb dX0_workLeftInStep_27 (by decide) ?_
    exact W.iret (v := 0) hx hb hr (fun t ht hW9 => ⟨⟨0, σ, rfl, ⟨by first | (simp only [sp_left, c_8, eq_self, ↓reduceIte]; done) | (simp [sp_left, c_8]; done), rfl⟩, ⟨by rw [ht]; exact hW, va_K.moved hW9.alike hK⟩⟩, hS.F ht⟩) hS.2.2 dX0_workLeftInStep_28
  · refine va_getsN hx hb hE.2.2.2.1 hS hown (va_Nw.use rfl hE.2.2.1) (fun _ h9 => h9) dX0_workLeftInStep_11 ?_
    refine lv_aload_n hx hb dX0_workLeftInStep_14 rfl (lv_at hl 0 rfl) ?_
    refine va_get (D := D) (ci := cFi) (C := RX0) (T := TX0) (N := 11) (ws := [(L 9 f, hs_ct d L σ 9 f)]) (v := .int (σ 9 f 2)) hx hb hts (by decide +kernel) hown hK (hW.one (hs_ix9 hf)) 0 rfl rfl 2 (by decide) (hts (.fieldLink RX0 22 "Waxrow$Figure" "step" "I") (by decide +kernel)) (fun _ h9 => h9) rfl dX0_workLeftInStep_15 ?_
    refine va_ti hx hb hE.2.2.2.2 hS (sp_inw hj c_8) (v := .int (hs_wk (σ 9 f 2).toNatClampNeg)) rfl dX0_workLeftInStep_18 ?_
    refine lv_aload_n hx hb dX0_workLeftInStep_19 rfl (lv_at hl 0 rfl) ?_
    refine va_get (D := D) (ci := cFi) (C := RX0) (T := TX0) (N := 11) (ws := [(L 9 f, hs_ct d L σ 9 f)]) (v := .int (σ 9 f 3)) hx hb hts (by decide +kernel) hown hK (hW.one (hs_ix9 hf)) 0 rfl rfl 3 (by decide) (hts (.fieldLink RX0 25 "Waxrow$Figure" "workInStep" "I") (by decide +kernel)) (fun _ h9 => h9) rfl dX0_workLeftInStep_20 ?_
    refine lv_isub hx hb dX0_workLeftInStep_23 ?_
    refine lv_goto (tgt := 28) hx hb dX0_workLeftInStep_24 (by decide) ?_
    exact W.iret (v := (hs_wk (σ 9 f 2).toNatClampNeg) - (σ 9 f 3)) hx hb hr (fun t ht hW9 => ⟨⟨((hs_wk (σ 9 f 2).toNatClampNeg) - (σ 9 f 3)), σ, rfl, ⟨by first | (simp only [sp_left, c_8, eq_self, ↓reduceIte]; done) | (simp [sp_left, c_8]; done), rfl⟩, ⟨by rw [ht]; exact hW, va_K.moved hW9.alike hK⟩⟩, hS.F ht⟩) hS.2.2 dX0_workLeftInStep_28
set_option maxHeartbeats 4000000 in
set_option maxRecDepth 100000 in
/-- daysTillDone: the loop at 38 -/
theorem lkX0_daysTillDone (l : Launch) (D : va_G) (d : hs_Dm) (L : hs_Lo) (σ : hs_St) (A : Nat → Prop) {p : Program} {e : Env} {s : State} {m : MethodId} {args : Array Value} {below : List Frame} {meth : Method} {c : Code} (f : Nat) (hf : f < 8) (hp0 : 0 < σ 9 f 4)  (hx : p.tables.exec = Jvm.exec) (hb : c.code = cX0_daysTillDone) (hr : meth.sig.returnType = (some .int)) (hts : ∀ w ∈ wsX0_daysTillDone, w.before args s = true) (hown : s.vm.findClass RX0 = some m.cls) (hlocks : meth.locks = false) (hml : c.maxLocals = 3) (hK : va_K D vwCl (hs_ty d) s) (hE : hs_E d.2.2.2.2 A s)  : ∀ (k n : Nat), n + k = 6 → ∀ (x : Int32), ∀ (H : Heap) (locs : List Loc), hs_W D d L σ A H → va_S A s.heap H locs → ∀ ls : Array Slot, lv_has ls 3 [(0, .ref (L 9 f)), (1, .int x), (2, .int (nI n))] → W p l e ({ frames := 1, cells := 0, slots := 0, locals := 20 } : Room) s m args below meth c H locs 0 0 (MQ below (va_Qi (fun r τ => (sp_add k n x + σ 9 f 4 - 1) / σ 9 f 4 = r ∧ σ = τ) (fun τ t => hs_B D d L τ A t) A) args s 0 0 A) (F0 m 38 ls []) := by
  intro k
  induction k with
  | zero =>
    intro n hn x H locs hW hS ls hl
    have hnN : n = 6 := by omega
    refine lv_iload_n hx hb dX0_daysTillDone_38 rfl (lv_at hl 2 rfl) ?_
    refine va_getsN hx hb hE.2.2.2.1 hS hown (va_Nw.use rfl hE.2.2.1) (fun _ h9 => h9) dX0_daysTillDone_39 ?_
    refine va_tlen hx hb hE.2.2.2.2 hS (v := 6) (by decide) dX0_daysTillDone_42 ?_
    refine lv_icmp_ge (tgt := 60) hx hb dX0_daysTillDone_43 (by decide) (fun c_43 => ?_) (fun c_43 => ?_)
    · refine lv_iload_n hx hb dX0_daysTillDone_60 rfl (lv_at hl 1 rfl) ?_
      refine lv_aload_n hx hb dX0_daysTillDone_61 rfl (lv_at hl 0 rfl) ?_
      refine va_get (D := D) (ci := cFi) (C := RX0) (T := TX0) (N := 11) (ws := [(L 9 f, hs_ct d L σ 9 f)]) (v := .int (σ 9 f 4)) hx hb hts (by decide +kernel) hown hK (hW.one (hs_ix9 hf)) 0 rfl rfl 4 (by decide) (hts (.fieldLink RX0 28 "Waxrow$Figure" "hands" "I") (by decide +kernel)) (fun _ h9 => h9) rfl dX0_daysTillDone_62 ?_
      refine lv_iadd hx hb dX0_daysTillDone_65 ?_
      refine lv_iconst (v := 1) hx hb dX0_daysTillDone_66 (by decide) ?_
      refine lv_isub hx hb dX0_daysTillDone_67 ?_
      refine lv_aload_n hx hb dX0_daysTillDone_68 rfl (lv_at hl 0 rfl) ?_
      refine va_get (D := D) (ci := cFi) (C := RX0) (T := TX0) (N := 11) (ws := [(L 9 f, hs_ct d L σ 9 f)]) (v := .int (σ 9 f 4)) hx hb hts (by decide +kernel) hown hK (hW.one (hs_ix9 hf)) 0 rfl rfl 4 (by decide) (hts (.fieldLink RX0 28 "Waxrow$Figure" "hands" "I") (by decide +kernel)) (fun _ h9 => h9) rfl dX0_daysTillDone_69 ?_
      refine lv_idiv hx hb dX0_daysTillDone_72 (fun q => by rw [q] at hp0; exact absurd hp0 (by decide)) ?_
      exact W.iret (v := ((x + (σ 9 f 4)) - 1) / (σ 9 f 4)) hx hb hr (fun t ht hW9 => ⟨⟨(((x + (σ 9 f 4)) - 1) / (σ 9 f 4)), σ, rfl, ⟨rfl, rfl⟩, ⟨by rw [ht]; exact hW, va_K.moved hW9.alike hK⟩⟩, hS.F ht⟩) hS.2.2 dX0_daysTillDone_73
    · exact absurd (by rw [sp_six, hnN]; exact nI_le (Nat.le_refl _) (by omega)) c_43
  | succ k ih =>
    intro n hn x H locs hW hS ls hl
    have hnN : n < 6 := by omega
    refine lv_iload_n hx hb dX0_daysTillDone_38 rfl (lv_at hl 2 rfl) ?_
    refine va_getsN hx hb hE.2.2.2.1 hS hown (va_Nw.use rfl hE.2.2.1) (fun _ h9 => h9) dX0_daysTillDone_39 ?_
    refine va_tlen hx hb hE.2.2.2.2 hS (v := 6) (by decide) dX0_daysTillDone_42 ?_
    refine lv_icmp_ge (tgt := 60) hx hb dX0_daysTillDone_43 (by decide) (fun c_43 => ?_) (fun c_43 => ?_)
    · exact absurd (by rw [sp_six] at c_43; exact c_43) (nI_ge hnN (by omega))
    · refine lv_iload_n hx hb dX0_daysTillDone_46 rfl (lv_at hl 1 rfl) ?_
      refine va_getsN hx hb hE.2.2.2.1 hS hown (va_Nw.use rfl hE.2.2.1) (fun _ h9 => h9) dX0_daysTillDone_47 ?_
      refine lv_iload_n hx hb dX0_daysTillDone_50 rfl (lv_at hl 2 rfl) ?_
      refine va_ti hx hb hE.2.2.2.2 hS (vp_in_nI hnN (by decide)) (v := .int (hs_wk n)) (by rw [nI_clamp (show n < 2 ^ 31 by omega)]) dX0_daysTillDone_51 ?_
      refine lv_iadd hx hb dX0_daysTillDone_52 ?_
      refine lv_istore_n (lv' := [(1, .int (x + (hs_wk n))), (0, .ref (L 9 f)), (2, .int (nI n))]) hx hb dX0_daysTillDone_53 rfl hl (by decide) rfl (fun ls hl => ?_)
      refine lv_iinc (v := nI (n + 1)) (lv' := [(2, .int (nI (n + 1))), (1, .int (x + (hs_wk n))), (0, .ref (L 9 f))]) hx hb dX0_daysTillDone_54 hl (k := 2) rfl (nI_succ _).symm (by decide) rfl (fun ls hl => ?_)
      refine lv_goto (tgt := 38) hx hb dX0_daysTillDone_57 (by decide) ?_
      rw [show sp_add (k + 1) n x = sp_add k (n + 1) (x + hs_wk n) from rfl]
      exact ih (n + 1) (by omega) _ _ _ hW hS ls (lv_sub hl [2, 1, 0] rfl)
set_option maxHeartbeats 4000000 in
set_option maxRecDepth 100000 in
/-- daysTillDone -/
theorem kX0_daysTillDone (l : Launch) (D : va_G) (d : hs_Dm) (L : hs_Lo) (σ : hs_St) (A : Nat → Prop) (f : Nat) (hf : f < 8) (hj : ∃ j, j ≤ 6 ∧ σ 9 f 2 = nI j) : hs_Mi l yX0_daysTillDone wsX0_daysTillDone ({ frames := 1, cells := 0, slots := 0, locals := 20 }) D d L σ A [.ref (L 9 f)] (fun r τ => sp_days σ f = r ∧ σ = τ) := by
  refine Met.ofW (cc := cX0_daysTillDone) (maxL := 3) (ret := (some .int)) (by decide) rfl ?_
  intro p e s m args below meth c s₁ B hml hv
  obtain ⟨rfl, ⟨hW, hK⟩, hE⟩ := hv
  have hx := B.exec
  have hb := B.bytes
  have hr := B.returns
  have hts := atoms_spec (ws := wsX0_daysTillDone) B.pre
  have hown : s.vm.findClass RX0 = some m.cls := findClass_of_methodNamed B.named
  have hlocks := B.notSynchronized
  have hS : va_S A s.heap s.heap [] := va_S.rf
  have hW : hs_W D d L σ A s.heap := hW
  have hl := lv_entry ([.ref (L 9 f)]) (n := 3) (Nat.le_of_ble_eq_true rfl)
  rw [lg_entry_eq]
  generalize (lg_sl ([.ref (L 9 f)]) ++ List.replicate (3 - (lg_sl ([.ref (L 9 f)])).length) Slot.unset).toArray = ls at hl ⊢
  have hl : lv_has ls 3 [(0, .ref (L 9 f))] := hl
  refine lv_aload_n hx hb dX0_daysTillDone_0 rfl (lv_at hl 0 rfl) ?_
  refine hs_calli (As := []) ⟨hx, hb, hml, hown, hts⟩ (kX0_isDone l D d L σ A f hf) (cwV 0 hts gX0_daysTillDone_X0_isDone rfl rfl rfl (by decide +kernel) ⟨Nat.le_of_ble_eq_true rfl, Nat.le_of_ble_eq_true rfl⟩) hK hE hW hS (hs_ix9 hf) (ci := cFi) (r := (RX0, TX0, 11)) rfl rfl rfl rfl hl.1 (Nat.le_of_ble_eq_true rfl) dX0_daysTillDone_1 ⟨Nat.zero_le _, Nat.zero_le _⟩ rfl (fun r_ τ_ H locs hp hW hS => ?_)
  obtain ⟨rfl, rfl⟩ := hp
  refine lv_if_eq (tgt := 9) hx hb dX0_daysTillDone_4 (by decide) (fun c_4 => ?_) (fun c_4 => ?_)
  · refine lv_aload_n hx hb dX0_daysTillDone_9 rfl (lv_at hl 0 rfl) ?_
    refine va_get (D := D) (ci := cFi) (C := RX0) (T := TX0) (N := 11) (ws := [(L 9 f, hs_ct d L σ 9 f)]) (v := .int (σ 9 f 7)) hx hb hts (by decide +kernel) hown hK (hW.one (hs_ix9 hf)) 0 rfl rfl 7 (by decide) (hts (.fieldLink RX0 18 "Waxrow$Figure" "place" "I") (by decide +kernel)) (fun _ h9 => h9) rfl dX0_daysTillDone_10 ?_
    refine lv_bipush (v := 7) hx hb dX0_daysTillDone_13 (by decide) ?_
    refine lv_icmp_eq (tgt := 25) hx hb dX0_daysTillDone_15 (by decide) (fun c_15 => ?_) (fun c_15 => ?_)
    · refine lv_iconst (v := (-1)) hx hb dX0_daysTillDone_25 (by decide) ?_
      exact W.iret (v := (-1)) hx hb hr (fun t ht hW9 => ⟨⟨(-1), σ, rfl, ⟨by first | (simp only [sp_days, c_4, c_15, eq_self, ↓reduceIte]; done) | (simp [sp_days, c_4, c_15]; done), rfl⟩, ⟨by rw [ht]; exact hW, va_K.moved hW9.alike hK⟩⟩, hS.F ht⟩) hS.2.2 dX0_daysTillDone_26
    · refine lv_aload_n hx hb dX0_daysTillDone_18 rfl (lv_at hl 0 rfl) ?_
      refine va_get (D := D) (ci := cFi) (C := RX0) (T := TX0) (N := 11) (ws := [(L 9 f, hs_ct d L σ 9 f)]) (v := .int (σ 9 f 4)) hx hb hts (by decide +kernel) hown hK (hW.one (hs_ix9 hf)) 0 rfl rfl 4 (by decide) (hts (.fieldLink RX0 28 "Waxrow$Figure" "hands" "I") (by decide +kernel)) (fun _ h9 => h9) rfl dX0_daysTillDone_19 ?_
      refine lv_if_gt (tgt := 27) hx hb dX0_daysTillDone_22 (by decide) (fun c_22 => ?_) (fun c_22 => ?_)
      · refine lv_aload_n hx hb dX0_daysTillDone_27 rfl (lv_at hl 0 rfl) ?_
        refine va_get (D := D) (ci := cFi) (C := RX0) (T := TX0) (N := 11) (ws := [(L 9 f, hs_ct d L σ 9 f)]) (v := .int (σ 9 f 3)) hx hb hts (by decide +kernel) hown hK (hW.one (hs_ix9 hf)) 0 rfl rfl 3 (by decide) (hts (.fieldLink RX0 25 "Waxrow$Figure" "workInStep" "I") (by decide +kernel)) (fun _ h9 => h9) rfl dX0_daysTillDone_28 ?_
        refine lv_ineg hx hb dX0_daysTillDone_31 ?_
        refine lv_istore_n (lv' := [(1, .int (- (σ 9 f 3))), (0, .ref (L 9 f))]) hx hb dX0_daysTillDone_32 rfl hl (by decide) rfl (fun ls hl => ?_)
        refine lv_aload_n hx hb dX0_daysTillDone_33 rfl (lv_at hl 1 rfl) ?_
        refine va_get (D := D) (ci := cFi) (C := RX0) (T := TX0) (N := 11) (ws := [(L 9 f, hs_ct d L σ 9 f)]) (v := .int (σ 9 f 2)) hx hb hts (by decide +kernel) hown hK (hW.one (hs_ix9 hf)) 0 rfl rfl 2 (by decide) (hts (.fieldLink RX0 22 "Waxrow$Figure" "step" "I") (by decide +kernel)) (fun _ h9 => h9) rfl dX0_daysTillDone_34 ?_
        refine lv_istore_n (lv' := [(2, .int (σ 9 f 2)), (1, .int (- (σ 9 f 3))), (0, .ref (L 9 f))]) hx hb dX0_daysTillDone_37 rfl hl (by decide) rfl (fun ls hl => ?_)
        obtain ⟨j, hj6, ej⟩ := hj
        have e_j : (σ 9 f 2).toNatClampNeg = j := by rw [ej]; exact nI_clamp (by omega)
        have e_p : sp_days σ f = (sp_add (6 - j) j (- σ 9 f 3) + σ 9 f 4 - 1) / σ 9 f 4 := by simp only [sp_days, e_j, c_4, c_15, c_22, ↓reduceIte]
        rw [e_p]
        rw [ej] at hl
        exact lkX0_daysTillDone l D d L σ A f hf c_22 hx hb hr hts hown hlocks hml hK hE (6 - j) j (by omega) _ _ _ hW hS ls (lv_sub hl [2, 1, 0] rfl)
      · refine lv_iconst (v := (-1)) hx hb dX0_daysTillDone_25 (by decide) ?_
        exact W.iret (v := (-1)) hx hb hr (fun t ht hW9 => ⟨⟨(-1), σ, rfl, ⟨by first | (simp only [sp_days, c_4, c_15, c_22, eq_self, ↓reduceIte]; done) | (simp [sp_days, c_4, c_15, c_22]; done), rfl⟩, ⟨by rw [ht]; exact hW, va_K.moved hW9.alike hK⟩⟩, hS.F ht⟩) hS.2.2 dX0_daysTillDone_26
  · refine lv_iconst (v := 0) hx hb dX0_daysTillDone_7 (by decide) ?_
    exact W.iret (v := 0) hx hb hr (fun t ht hW9 => ⟨⟨0, σ, rfl, ⟨by first | (simp only [sp_days, c_4, eq_self, ↓reduceIte]; done) | (simp [sp_days, c_4]; done), rfl⟩, ⟨by rw [ht]; exact hW, va_K.moved hW9.alike hK⟩⟩, hS.F ht⟩) hS.2.2 dX0_daysTillDone_8
set_option maxHeartbeats 4000000 in
set_option maxRecDepth 100000 in
/-- workDay: the loop at 33 -/
theorem lkX0_workDay (l : Launch) (D : va_G) (d : hs_Dm) (L : hs_Lo) (σ : hs_St) (A : Nat → Prop) {p : Program} {e : Env} {s : State} {m : MethodId} {args : Array Value} {below : List Frame} {meth : Method} {c : Code} (f : Nat) (hf : f < 8)  (hx : p.tables.exec = Jvm.exec) (hb : c.code = cX0_workDay) (hr : meth.sig.returnType = (some .boolean)) (hts : ∀ w ∈ wsX0_workDay, w.before args s = true) (hown : s.vm.findClass RX0 = some m.cls) (hlocks : meth.locks = false) (hml : c.maxLocals = 1) (hK : va_K D vwCl (hs_ty d) s) (hE : hs_E d.2.2.2.2 A s)  : ∀ (k n : Nat), n + k = 6 → ∀ (τ : hs_St), τ 9 f 2 = nI n → hs_hd τ → ∀ (H : Heap) (locs : List Loc), hs_W D d L τ A H → va_S A s.heap H locs → ∀ ls : Array Slot, lv_has ls 1 [(0, .ref (L 9 f))] → W p l e ({ frames := 1, cells := 0, slots := 0, locals := 22 } : Room) s m args below meth c H locs 0 0 (MQ below (va_Qi (fun r τ_ => (sp_fin (sp_climb f k τ) f).1 = r ∧ (sp_fin (sp_climb f k τ) f).2 = τ_) (fun τ t => hs_B D d L τ A t) A) args s 0 0 A) (F0 m 33 ls []) := by
  intro k
  induction k with
  | zero =>
    intro n hn τ hj hh H locs hW hS ls hl
    have hnN : n = 6 := by omega
    refine lv_aload_n hx hb dX0_workDay_33 rfl (lv_at hl 0 rfl) ?_
    refine va_get (D := D) (ci := cFi) (C := RX0) (T := TX0) (N := 11) (ws := [(L 9 f, hs_ct d L τ 9 f)]) (v := .int (τ 9 f 2)) hx hb hts (by decide +kernel) hown hK (hW.one (hs_ix9 hf)) 0 rfl rfl 2 (by decide) (hts (.fieldLink RX0 22 "Waxrow$Figure" "step" "I") (by decide +kernel)) (fun _ h9 => h9) rfl dX0_workDay_34 ?_
    refine va_getsN hx hb hE.2.2.2.1 hS hown (va_Nw.use rfl hE.2.2.1) (fun _ h9 => h9) dX0_workDay_37 ?_
    refine va_tlen hx hb hE.2.2.2.2 hS (v := 6) (by decide) dX0_workDay_40 ?_
    refine lv_icmp_ge (tgt := 108) hx hb dX0_workDay_41 (by decide) (fun c_41 => ?_) (fun c_41 => ?_)
    · refine lv_aload_n hx hb dX0_workDay_108 rfl (lv_at hl 0 rfl) ?_
      refine va_get (D := D) (ci := cFi) (C := RX0) (T := TX0) (N := 11) (ws := [(L 9 f, hs_ct d L τ 9 f)]) (v := .int (τ 9 f 2)) hx hb hts (by decide +kernel) hown hK (hW.one (hs_ix9 hf)) 0 rfl rfl 2 (by decide) (hts (.fieldLink RX0 22 "Waxrow$Figure" "step" "I") (by decide +kernel)) (fun _ h9 => h9) rfl dX0_workDay_109 ?_
      refine lv_bipush (v := 6) hx hb dX0_workDay_112 (by decide) ?_
      refine lv_icmp_ge (tgt := 119) hx hb dX0_workDay_114 (by decide) (fun c_114 => ?_) (fun c_114 => ?_)
      · refine lv_aload_n hx hb dX0_workDay_119 rfl (lv_at hl 0 rfl) ?_
        refine lv_iconst (v := 0) hx hb dX0_workDay_120 (by decide) ?_
        refine hs_put (ci := cFi) (C := RX0) (T := TX0) (N := 11) (ty := .int) hx hb hts (by decide +kernel) tyX0 tyX0_ok nmX0 hown hK hW hS 9 f (hs_ix9 hf) rfl rfl 3 (by decide) (hts (.fieldLink RX0 25 "Waxrow$Figure" "workInStep" "I") (by decide +kernel)) (fun _ h9 => h9) rfl (by decide +kernel) rfl rfl (Nat.le_of_ble_eq_true rfl) (hs_sg τ 9 f 3 0) (by simp [hs_ct, hs_sg]) (hs_off _ _ _ _ _) dX0_workDay_121 (fun H locs hW hS => ?_)
        refine lv_aload_n hx hb dX0_workDay_124 rfl (lv_at hl 0 rfl) ?_
        refine lv_iconst (v := 0) hx hb dX0_workDay_125 (by decide) ?_
        refine hs_put (ci := cFi) (C := RX0) (T := TX0) (N := 11) (ty := .int) hx hb hts (by decide +kernel) tyX0 tyX0_ok nmX0 hown hK hW hS 9 f (hs_ix9 hf) rfl rfl 4 (by decide) (hts (.fieldLink RX0 28 "Waxrow$Figure" "hands" "I") (by decide +kernel)) (fun _ h9 => h9) rfl (by decide +kernel) rfl rfl (Nat.le_of_ble_eq_true rfl) (hs_sg (hs_sg τ 9 f 3 0) 9 f 4 0) (by simp [hs_ct, hs_sg]) (hs_off _ _ _ _ _) dX0_workDay_126 (fun H locs hW hS => ?_)
        refine lv_iconst (v := 1) hx hb dX0_workDay_129 (by decide) ?_
        exact W.zret (v := 1) (ty := .boolean) hx hb hr rfl (fun t ht hW9 => ⟨⟨1, (hs_sg (hs_sg τ 9 f 3 0) 9 f 4 0), rfl, ⟨by simp only [sp_climb, sp_fin, c_41, c_114, ↓reduceIte], by simp only [sp_climb, sp_fin, c_41, c_114, ↓reduceIte]⟩, ⟨by rw [ht]; exact hW, va_K.moved hW9.alike hK⟩⟩, hS.F ht⟩) hS.2.2 dX0_workDay_130
      · exact absurd c_41 c_114
    · exact absurd (by rw [hj, hnN]; decide +kernel) c_41
  | succ k ih =>
    intro n hn τ hj hh H locs hW hS ls hl
    have hnN : n < 6 := by omega
    refine lv_aload_n hx hb dX0_workDay_33 rfl (lv_at hl 0 rfl) ?_
    refine va_get (D := D) (ci := cFi) (C := RX0) (T := TX0) (N := 11) (ws := [(L 9 f, hs_ct d L τ 9 f)]) (v := .int (τ 9 f 2)) hx hb hts (by decide +kernel) hown hK (hW.one (hs_ix9 hf)) 0 rfl rfl 2 (by decide) (hts (.fieldLink RX0 22 "Waxrow$Figure" "step" "I") (by decide +kernel)) (fun _ h9 => h9) rfl dX0_workDay_34 ?_
    refine va_getsN hx hb hE.2.2.2.1 hS hown (va_Nw.use rfl hE.2.2.1) (fun _ h9 => h9) dX0_workDay_37 ?_
    refine va_tlen hx hb hE.2.2.2.2 hS (v := 6) (by decide) dX0_workDay_40 ?_
    refine lv_icmp_ge (tgt := 108) hx hb dX0_workDay_41 (by decide) (fun c_41 => ?_) (fun c_41 => ?_)
    · exact absurd (by rw [hj, sp_six] at c_41; exact c_41) (nI_ge hnN (by omega))
    · refine lv_aload_n hx hb dX0_workDay_44 rfl (lv_at hl 0 rfl) ?_
      refine va_get (D := D) (ci := cFi) (C := RX0) (T := TX0) (N := 11) (ws := [(L 9 f, hs_ct d L τ 9 f)]) (v := .int (τ 9 f 3)) hx hb hts (by decide +kernel) hown hK (hW.one (hs_ix9 hf)) 0 rfl rfl 3 (by decide) (hts (.fieldLink RX0 25 "Waxrow$Figure" "workInStep" "I") (by decide +kernel)) (fun _ h9 => h9) rfl dX0_workDay_45 ?_
      refine va_getsN hx hb hE.2.2.2.1 hS hown (va_Nw.use rfl hE.2.2.1) (fun _ h9 => h9) dX0_workDay_48 ?_
      refine lv_aload_n hx hb dX0_workDay_51 rfl (lv_at hl 0 rfl) ?_
      refine va_get (D := D) (ci := cFi) (C := RX0) (T := TX0) (N := 11) (ws := [(L 9 f, hs_ct d L τ 9 f)]) (v := .int (τ 9 f 2)) hx hb hts (by decide +kernel) hown hK (hW.one (hs_ix9 hf)) 0 rfl rfl 2 (by decide) (hts (.fieldLink RX0 22 "Waxrow$Figure" "step" "I") (by decide +kernel)) (fun _ h9 => h9) rfl dX0_workDay_52 ?_
      refine va_ti hx hb hE.2.2.2.2 hS (by rw [hj]; exact vp_in_nI hnN (by decide)) (v := .int (hs_wk (τ 9 f 2).toNatClampNeg)) rfl dX0_workDay_55 ?_
      refine lv_icmp_lt (tgt := 108) hx hb dX0_workDay_56 (by decide) (fun c_56 => ?_) (fun c_56 => ?_)
      · refine lv_aload_n hx hb dX0_workDay_108 rfl (lv_at hl 0 rfl) ?_
        refine va_get (D := D) (ci := cFi) (C := RX0) (T := TX0) (N := 11) (ws := [(L 9 f, hs_ct d L τ 9 f)]) (v := .int (τ 9 f 2)) hx hb hts (by decide +kernel) hown hK (hW.one (hs_ix9 hf)) 0 rfl rfl 2 (by decide) (hts (.fieldLink RX0 22 "Waxrow$Figure" "step" "I") (by decide +kernel)) (fun _ h9 => h9) rfl dX0_workDay_109 ?_
        refine lv_bipush (v := 6) hx hb dX0_workDay_112 (by decide) ?_
        refine lv_icmp_ge (tgt := 119) hx hb dX0_workDay_114 (by decide) (fun c_114 => ?_) (fun c_114 => ?_)
        · exact absurd c_114 c_41
        · refine lv_iconst (v := 0) hx hb dX0_workDay_117 (by decide) ?_
          exact W.zret (v := 0) (ty := .boolean) hx hb hr rfl (fun t ht hW9 => ⟨⟨0, τ, rfl, ⟨by simp only [sp_climb, sp_fin, c_41, c_56, c_114, ↓reduceIte], by simp only [sp_climb, sp_fin, c_41, c_56, c_114, ↓reduceIte]⟩, ⟨by rw [ht]; exact hW, va_K.moved hW9.alike hK⟩⟩, hS.F ht⟩) hS.2.2 dX0_workDay_118
      · refine lv_aload_n hx hb dX0_workDay_59 rfl (lv_at hl 0 rfl) ?_
        refine lv_dup hx hb dX0_workDay_60 rfl ?_
        refine va_get (D := D) (ci := cFi) (C := RX0) (T := TX0) (N := 11) (ws := [(L 9 f, hs_ct d L τ 9 f)]) (v := .int (τ 9 f 3)) hx hb hts (by decide +kernel) hown hK (hW.one (hs_ix9 hf)) 0 rfl rfl 3 (by decide) (hts (.fieldLink RX0 25 "Waxrow$Figure" "workInStep" "I") (by decide +kernel)) (fun _ h9 => h9) rfl dX0_workDay_61 ?_
        refine va_getsN hx hb hE.2.2.2.1 hS hown (va_Nw.use rfl hE.2.2.1) (fun _ h9 => h9) dX0_workDay_64 ?_
        refine lv_aload_n hx hb dX0_workDay_67 rfl (lv_at hl 0 rfl) ?_
        refine va_get (D := D) (ci := cFi) (C := RX0) (T := TX0) (N := 11) (ws := [(L 9 f, hs_ct d L τ 9 f)]) (v := .int (τ 9 f 2)) hx hb hts (by decide +kernel) hown hK (hW.one (hs_ix9 hf)) 0 rfl rfl 2 (by decide) (hts (.fieldLink RX0 22 "Waxrow$Figure" "step" "I") (by decide +kernel)) (fun _ h9 => h9) rfl dX0_workDay_68 ?_
        refine va_ti hx hb hE.2.2.2.2 hS (by rw [hj]; exact vp_in_nI hnN (by decide)) (v := .int (hs_wk (τ 9 f 2).toNatClampNeg)) rfl dX0_workDay_71 ?_
        refine lv_isub hx hb dX0_workDay_72 ?_
        refine hs_put (ci := cFi) (C := RX0) (T := TX0) (N := 11) (ty := .int) hx hb hts (by decide +kernel) tyX0 tyX0_ok nmX0 hown hK hW hS 9 f (hs_ix9 hf) rfl rfl 3 (by decide) (hts (.fieldLink RX0 25 "Waxrow$Figure" "workInStep" "I") (by decide +kernel)) (fun _ h9 => h9) rfl (by decide +kernel) rfl rfl (Nat.le_of_ble_eq_true rfl) (hs_sg τ 9 f 3 ((τ 9 f 3) - (hs_wk (τ 9 f 2).toNatClampNeg))) (by simp [hs_ct, hs_sg]) (hs_off _ _ _ _ _) dX0_workDay_73 (fun H locs hW hS => ?_)
        refine lv_aload_n hx hb dX0_workDay_76 rfl (lv_at hl 0 rfl) ?_
        refine lv_dup hx hb dX0_workDay_77 rfl ?_
        refine va_get (D := D) (ci := cFi) (C := RX0) (T := TX0) (N := 11) (ws := [(L 9 f, hs_ct d L (hs_sg τ 9 f 3 ((τ 9 f 3) - (hs_wk (τ 9 f 2).toNatClampNeg))) 9 f)]) (v := .int (τ 9 f 2)) hx hb hts (by decide +kernel) hown hK (hW.one (hs_ix9 hf)) 0 rfl rfl 2 (by decide) (hts (.fieldLink RX0 22 "Waxrow$Figure" "step" "I") (by decide +kernel)) (fun _ h9 => h9) (by simp [hs_sg]) dX0_workDay_78 ?_
        refine lv_iconst (v := 1) hx hb dX0_workDay_81 (by decide) ?_
        refine lv_iadd hx hb dX0_workDay_82 ?_
        refine hs_put (ci := cFi) (C := RX0) (T := TX0) (N := 11) (ty := .int) hx hb hts (by decide +kernel) tyX0 tyX0_ok nmX0 hown hK hW hS 9 f (hs_ix9 hf) rfl rfl 2 (by decide) (hts (.fieldLink RX0 22 "Waxrow$Figure" "step" "I") (by decide +kernel)) (fun _ h9 => h9) rfl (by decide +kernel) rfl rfl (Nat.le_of_ble_eq_true rfl) (hs_sg (hs_sg τ 9 f 3 ((τ 9 f 3) - (hs_wk (τ 9 f 2).toNatClampNeg))) 9 f 2 ((τ 9 f 2) + 1)) (by simp [hs_ct, hs_sg]) (hs_off _ _ _ _ _) dX0_workDay_83 (fun H locs hW hS => ?_)
        refine lv_aload_n hx hb dX0_workDay_86 rfl (lv_at hl 0 rfl) ?_
        refine va_get (D := D) (ci := cFi) (C := RX0) (T := TX0) (N := 11) (ws := [(L 9 f, hs_ct d L (hs_sg (hs_sg τ 9 f 3 ((τ 9 f 3) - (hs_wk (τ 9 f 2).toNatClampNeg))) 9 f 2 ((τ 9 f 2) + 1)) 9 f)]) (v := .int ((τ 9 f 2) + 1)) hx hb hts (by decide +kernel) hown hK (hW.one (hs_ix9 hf)) 0 rfl rfl 2 (by decide) (hts (.fieldLink RX0 22 "Waxrow$Figure" "step" "I") (by decide +kernel)) (fun _ h9 => h9) (by simp [hs_sg]) dX0_workDay_87 ?_
        refine lv_iconst (v := 1) hx hb dX0_workDay_90 (by decide) ?_
        refine lv_icmp_ne (tgt := 33) hx hb dX0_workDay_91 (by decide) (fun c_91 => ?_) (fun c_91 => ?_)
        · have e_s : (hs_sg (hs_sg τ 9 f 3 ((τ 9 f 3) - (hs_wk (τ 9 f 2).toNatClampNeg))) 9 f 2 ((τ 9 f 2) + 1)) = sp_step τ f := by first | (simp only [sp_step, sp_put, c_91, eq_self, ↓reduceIte]; done) | (simp [sp_step, sp_put, c_91]; done)
          rw [e_s] at hW
          have e_p : sp_climb f (k + 1) τ = sp_climb f k (sp_step τ f) := by simp only [sp_climb, c_41, c_56, ↓reduceIte]
          rw [e_p]
          exact ih (n + 1) (by omega) (sp_step τ f) (by rw [sp_step_at, hj, nI_1]) (sp_step_hd hh) _ _ hW hS ls (lv_sub hl [0] rfl)
        · refine lv_aload_n hx hb dX0_workDay_94 rfl (lv_at hl 0 rfl) ?_
          refine lv_aload_n hx hb dX0_workDay_95 rfl (lv_at hl 0 rfl) ?_
          refine va_get (D := D) (ci := cFi) (C := RX0) (T := TX0) (N := 11) (ws := [(L 9 f, hs_ct d L (hs_sg (hs_sg τ 9 f 3 ((τ 9 f 3) - (hs_wk (τ 9 f 2).toNatClampNeg))) 9 f 2 ((τ 9 f 2) + 1)) 9 f)]) (v := .ref (L 4 ((τ 9 f 0).toNatClampNeg))) hx hb hts (by decide +kernel) hown hK (hW.one (hs_ix9 hf)) 0 rfl rfl 0 (by decide) (hts (.fieldLink RX0 9 "Waxrow$Figure" "head" "LWaxrow$Person;") (by decide +kernel)) (fun _ h9 => h9) (by simp [hs_sg]) dX0_workDay_96 ?_
          refine hs_calli (As := []) ⟨hx, hb, hml, hown, hts⟩ (kX2_doubt l D d L (hs_sg (hs_sg τ 9 f 3 ((τ 9 f 3) - (hs_wk (τ 9 f 2).toNatClampNeg))) 9 f 2 ((τ 9 f 2) + 1)) A ((τ 9 f 0).toNatClampNeg) (hh f hf).1) (cwV 0 hts gX0_workDay_X2_doubt rfl rfl rfl (by decide +kernel) ⟨Nat.le_of_ble_eq_true rfl, Nat.le_of_ble_eq_true rfl⟩) hK hE hW hS (hs_ix4 ((hh f hf).1)) (ci := cPe) (r := (RX2, TX2, 8)) rfl rfl rfl rfl hl.1 (Nat.le_of_ble_eq_true rfl) dX0_workDay_99 ⟨Nat.zero_le _, Nat.zero_le _⟩ rfl (fun r_ τ_ H locs hp hW hS => ?_)
          obtain ⟨rfl, rfl⟩ := hp
          refine hs_put (ci := cFi) (C := RX0) (T := TX0) (N := 11) (ty := .int) hx hb hts (by decide +kernel) tyX0 tyX0_ok nmX0 hown hK hW hS 9 f (hs_ix9 hf) rfl rfl 5 (by decide) (hts (.fieldLink RX0 31 "Waxrow$Figure" "flaw" "I") (by decide +kernel)) (fun _ h9 => h9) rfl (by decide +kernel) rfl rfl (Nat.le_of_ble_eq_true rfl) (hs_sg (hs_sg (hs_sg τ 9 f 3 ((τ 9 f 3) - (hs_wk (τ 9 f 2).toNatClampNeg))) 9 f 2 ((τ 9 f 2) + 1)) 9 f 5 (sp_doubt (hs_sg (hs_sg τ 9 f 3 ((τ 9 f 3) - (hs_wk (τ 9 f 2).toNatClampNeg))) 9 f 2 ((τ 9 f 2) + 1)) ((τ 9 f 0).toNatClampNeg))) (by simp [hs_ct, hs_sg]) (hs_off _ _ _ _ _) dX0_workDay_102 (fun H locs hW hS => ?_)
          refine lv_goto (tgt := 33) hx hb dX0_workDay_105 (by decide) ?_
          have e_s : (hs_sg (hs_sg (hs_sg τ 9 f 3 ((τ 9 f 3) - (hs_wk (τ 9 f 2).toNatClampNeg))) 9 f 2 ((τ 9 f 2) + 1)) 9 f 5 (sp_doubt (hs_sg (hs_sg τ 9 f 3 ((τ 9 f 3) - (hs_wk (τ 9 f 2).toNatClampNeg))) 9 f 2 ((τ 9 f 2) + 1)) ((τ 9 f 0).toNatClampNeg))) = sp_step τ f := by first | (simp only [sp_step, sp_put, c_91, eq_self, ↓reduceIte]; done) | (simp [sp_step, sp_put, c_91]; done)
          rw [e_s] at hW
          have e_p : sp_climb f (k + 1) τ = sp_climb f k (sp_step τ f) := by simp only [sp_climb, c_41, c_56, ↓reduceIte]
          rw [e_p]
          exact ih (n + 1) (by omega) (sp_step τ f) (by rw [sp_step_at, hj, nI_1]) (sp_step_hd hh) _ _ hW hS ls (lv_sub hl [0] rfl)
set_option maxHeartbeats 4000000 in
set_option maxRecDepth 100000 in
/-- workDay -/
theorem kX0_workDay (l : Launch) (D : va_G) (d : hs_Dm) (L : hs_Lo) (σ : hs_St) (A : Nat → Prop) (f : Nat) (hf : f < 8) (hh : hs_hd σ) (hj : ∃ j, j ≤ 6 ∧ σ 9 f 2 = nI j) : hs_Mi l yX0_workDay wsX0_workDay ({ frames := 1, cells := 0, slots := 0, locals := 22 }) D d L σ A [.ref (L 9 f)] (fun r τ => (sp_wd σ f).1 = r ∧ (sp_wd σ f).2 = τ) := by
  refine Met.ofW (cc := cX0_workDay) (maxL := 1) (ret := (some .boolean)) (by decide) rfl ?_
  intro p e s m args below meth c s₁ B hml hv
  obtain ⟨rfl, ⟨hW, hK⟩, hE⟩ := hv
  have hx := B.exec
  have hb := B.bytes
  have hr := B.returns
  have hts := atoms_spec (ws := wsX0_workDay) B.pre
  have hown : s.vm.findClass RX0 = some m.cls := findClass_of_methodNamed B.named
  have hlocks := B.notSynchronized
  have hS : va_S A s.heap s.heap [] := va_S.rf
  have hW : hs_W D d L σ A s.heap := hW
  have hl := lv_entry ([.ref (L 9 f)]) (n := 1) (Nat.le_of_ble_eq_true rfl)
  rw [lg_entry_eq]
  generalize (lg_sl ([.ref (L 9 f)]) ++ List.replicate (1 - (lg_sl ([.ref (L 9 f)])).length) Slot.unset).toArray = ls at hl ⊢
  have hl : lv_has ls 1 [(0, .ref (L 9 f))] := hl
  refine lv_aload_n hx hb dX0_workDay_0 rfl (lv_at hl 0 rfl) ?_
  refine va_get (D := D) (ci := cFi) (C := RX0) (T := TX0) (N := 11) (ws := [(L 9 f, hs_ct d L σ 9 f)]) (v := .int (σ 9 f 2)) hx hb hts (by decide +kernel) hown hK (hW.one (hs_ix9 hf)) 0 rfl rfl 2 (by decide) (hts (.fieldLink RX0 22 "Waxrow$Figure" "step" "I") (by decide +kernel)) (fun _ h9 => h9) rfl dX0_workDay_1 ?_
  refine lv_bipush (v := 6) hx hb dX0_workDay_4 (by decide) ?_
  refine lv_icmp_ge (tgt := 18) hx hb dX0_workDay_6 (by decide) (fun c_6 => ?_) (fun c_6 => ?_)
  · refine lv_iconst (v := 0) hx hb dX0_workDay_18 (by decide) ?_
    exact W.zret (v := 0) (ty := .boolean) hx hb hr rfl (fun t ht hW9 => ⟨⟨0, σ, rfl, ⟨by first | (simp only [sp_wd, c_6, eq_self, ↓reduceIte]; done) | (simp [sp_wd, c_6]; done), by first | (simp only [sp_wd, c_6, eq_self, ↓reduceIte]; done) | (simp [sp_wd, c_6]; done)⟩, ⟨by rw [ht]; exact hW, va_K.moved hW9.alike hK⟩⟩, hS.F ht⟩) hS.2.2 dX0_workDay_19
  · refine lv_aload_n hx hb dX0_workDay_9 rfl (lv_at hl 0 rfl) ?_
    refine va_get (D := D) (ci := cFi) (C := RX0) (T := TX0) (N := 11) (ws := [(L 9 f, hs_ct d L σ 9 f)]) (v := .int (σ 9 f 7)) hx hb hts (by decide +kernel) hown hK (hW.one (hs_ix9 hf)) 0 rfl rfl 7 (by decide) (hts (.fieldLink RX0 18 "Waxrow$Figure" "place" "I") (by decide +kernel)) (fun _ h9 => h9) rfl dX0_workDay_10 ?_
    refine lv_bipush (v := 7) hx hb dX0_workDay_13 (by decide) ?_
    refine lv_icmp_ne (tgt := 20) hx hb dX0_workDay_15 (by decide) (fun c_15 => ?_) (fun c_15 => ?_)
    · refine lv_aload_n hx hb dX0_workDay_20 rfl (lv_at hl 0 rfl) ?_
      refine lv_dup hx hb dX0_workDay_21 rfl ?_
      refine va_get (D := D) (ci := cFi) (C := RX0) (T := TX0) (N := 11) (ws := [(L 9 f, hs_ct d L σ 9 f)]) (v := .int (σ 9 f 3)) hx hb hts (by decide +kernel) hown hK (hW.one (hs_ix9 hf)) 0 rfl rfl 3 (by decide) (hts (.fieldLink RX0 25 "Waxrow$Figure" "workInStep" "I") (by decide +kernel)) (fun _ h9 => h9) rfl dX0_workDay_22 ?_
      refine lv_aload_n hx hb dX0_workDay_25 rfl (lv_at hl 0 rfl) ?_
      refine va_get (D := D) (ci := cFi) (C := RX0) (T := TX0) (N := 11) (ws := [(L 9 f, hs_ct d L σ 9 f)]) (v := .int (σ 9 f 4)) hx hb hts (by decide +kernel) hown hK (hW.one (hs_ix9 hf)) 0 rfl rfl 4 (by decide) (hts (.fieldLink RX0 28 "Waxrow$Figure" "hands" "I") (by decide +kernel)) (fun _ h9 => h9) rfl dX0_workDay_26 ?_
      refine lv_iadd hx hb dX0_workDay_29 ?_
      refine hs_put (ci := cFi) (C := RX0) (T := TX0) (N := 11) (ty := .int) hx hb hts (by decide +kernel) tyX0 tyX0_ok nmX0 hown hK hW hS 9 f (hs_ix9 hf) rfl rfl 3 (by decide) (hts (.fieldLink RX0 25 "Waxrow$Figure" "workInStep" "I") (by decide +kernel)) (fun _ h9 => h9) rfl (by decide +kernel) rfl rfl (Nat.le_of_ble_eq_true rfl) (hs_sg σ 9 f 3 ((σ 9 f 3) + (σ 9 f 4))) (by simp [hs_ct, hs_sg]) (hs_off _ _ _ _ _) dX0_workDay_30 (fun H locs hW hS => ?_)
      obtain ⟨j, hj6, ej⟩ := hj
      have e_j : (σ 9 f 2).toNatClampNeg = j := by rw [ej]; exact nI_clamp (by omega)
      have e_p : sp_wd σ f = sp_fin (sp_climb f (6 - j) (hs_sg σ 9 f 3 ((σ 9 f 3) + (σ 9 f 4)))) f := by simp only [sp_wd, e_j, c_6, c_15, ↓reduceIte]
      rw [e_p]
      exact lkX0_workDay l D d L σ A f hf hx hb hr hts hown hlocks hml hK hE (6 - j) j (by omega) (hs_sg σ 9 f 3 ((σ 9 f 3) + (σ 9 f 4))) (by simp [hs_sg, ej]) (fun i hi => by simpa [hs_sg] using hh i hi) _ _ hW hS ls (lv_sub hl [0] rfl)
    · refine lv_iconst (v := 0) hx hb dX0_workDay_18 (by decide) ?_
      exact W.zret (v := 0) (ty := .boolean) hx hb hr rfl (fun t ht hW9 => ⟨⟨0, σ, rfl, ⟨by first | (simp only [sp_wd, c_6, c_15, eq_self, ↓reduceIte]; done) | (simp [sp_wd, c_6, c_15]; done), by first | (simp only [sp_wd, c_6, c_15, eq_self, ↓reduceIte]; done) | (simp [sp_wd, c_6, c_15]; done)⟩, ⟨by rw [ht]; exact hW, va_K.moved hW9.alike hK⟩⟩, hS.F ht⟩) hS.2.2 dX0_workDay_19
set_option maxHeartbeats 4000000 in
set_option maxRecDepth 100000 in
/-- wearDay -/
theorem kX0_wearDay (l : Launch) (D : va_G) (d : hs_Dm) (L : hs_Lo) (σ : hs_St) (A : Nat → Prop) (f : Nat) (hf : f < 8) (hh : hs_hd σ) (x y z : Int32) : hs_Mi l yX0_wearDay wsX0_wearDay ({ frames := 1, cells := 0, slots := 0, locals := 20 }) D d L σ A [.ref (L 9 f), .int x, .int y, .int z] (fun r τ => (sp_wear σ f x y z).1 = r ∧ (sp_wear σ f x y z).2 = τ) := by
  refine Met.ofW (cc := cX0_wearDay) (maxL := 5) (ret := (some .boolean)) (by decide) rfl ?_
  intro p e s m args below meth c s₁ B hml hv
  obtain ⟨rfl, ⟨hW, hK⟩, hE⟩ := hv
  have hx := B.exec
  have hb := B.bytes
  have hr := B.returns
  have hts := atoms_spec (ws := wsX0_wearDay) B.pre
  have hown : s.vm.findClass RX0 = some m.cls := findClass_of_methodNamed B.named
  have hlocks := B.notSynchronized
  have hS : va_S A s.heap s.heap [] := va_S.rf
  have hW : hs_W D d L σ A s.heap := hW
  have hl := lv_entry ([.ref (L 9 f), .int x, .int y, .int z]) (n := 5) (Nat.le_of_ble_eq_true rfl)
  rw [lg_entry_eq]
  generalize (lg_sl ([.ref (L 9 f), .int x, .int y, .int z]) ++ List.replicate (5 - (lg_sl ([.ref (L 9 f), .int x, .int y, .int z])).length) Slot.unset).toArray = ls at hl ⊢
  have hl : lv_has ls 5 [(0, .ref (L 9 f)), (1, .int x), (2, .int y), (3, .int z)] := hl
  refine lv_aload_n hx hb dX0_wearDay_0 rfl (lv_at hl 0 rfl) ?_
  refine lv_dup hx hb dX0_wearDay_1 rfl ?_
  refine va_get (D := D) (ci := cFi) (C := RX0) (T := TX0) (N := 11) (ws := [(L 9 f, hs_ct d L σ 9 f)]) (v := .int (σ 9 f 10)) hx hb hts (by decide +kernel) hown hK (hW.one (hs_ix9 hf)) 0 rfl rfl 10 (by decide) (hts (.fieldLink RX0 43 "Waxrow$Figure" "touched" "I") (by decide +kernel)) (fun _ h9 => h9) rfl dX0_wearDay_2 ?_
  refine lv_iload_n hx hb dX0_wearDay_5 rfl (lv_at hl 1 rfl) ?_
  refine lv_iadd hx hb dX0_wearDay_6 ?_
  refine hs_put (ci := cFi) (C := RX0) (T := TX0) (N := 11) (ty := .int) hx hb hts (by decide +kernel) tyX0 tyX0_ok nmX0 hown hK hW hS 9 f (hs_ix9 hf) rfl rfl 10 (by decide) (hts (.fieldLink RX0 43 "Waxrow$Figure" "touched" "I") (by decide +kernel)) (fun _ h9 => h9) rfl (by decide +kernel) rfl rfl (Nat.le_of_ble_eq_true rfl) (hs_sg σ 9 f 10 ((σ 9 f 10) + x)) (by simp [hs_ct, hs_sg]) (hs_off _ _ _ _ _) dX0_wearDay_7 (fun H locs hW hS => ?_)
  refine lv_aload_n hx hb dX0_wearDay_10 rfl (lv_at hl 0 rfl) ?_
  refine va_get (D := D) (ci := cFi) (C := RX0) (T := TX0) (N := 11) (ws := [(L 9 f, hs_ct d L (hs_sg σ 9 f 10 ((σ 9 f 10) + x)) 9 f)]) (v := .ref (L 4 ((σ 9 f 0).toNatClampNeg))) hx hb hts (by decide +kernel) hown hK (hW.one (hs_ix9 hf)) 0 rfl rfl 0 (by decide) (hts (.fieldLink RX0 9 "Waxrow$Figure" "head" "LWaxrow$Person;") (by decide +kernel)) (fun _ h9 => h9) (by simp [hs_sg]) dX0_wearDay_11 ?_
  refine lv_dup hx hb dX0_wearDay_14 rfl ?_
  refine va_get (D := D) (ci := cPe) (C := RX2) (T := TX2) (N := 8) (ws := [(L 4 ((σ 9 f 0).toNatClampNeg), hs_ct d L (hs_sg σ 9 f 10 ((σ 9 f 10) + x)) 4 ((σ 9 f 0).toNatClampNeg))]) (v := .int (σ 4 ((σ 9 f 0).toNatClampNeg) 6)) hx hb hts (by decide +kernel) hown hK (hW.one (hs_ix4 ((hh f (by omega)).1))) 0 rfl rfl 6 (by decide) (hts (.fieldLink RX0 72 "Waxrow$Person" "due" "I") (by decide +kernel)) (fun _ h9 => h9) (by simp [hs_sg]) dX0_wearDay_15 ?_
  refine lv_iload_n hx hb dX0_wearDay_18 rfl (lv_at hl 1 rfl) ?_
  refine lv_bipush (v := 100) hx hb dX0_wearDay_19 (by decide) ?_
  refine lv_idiv hx hb dX0_wearDay_21 (by decide) ?_
  refine lv_iadd hx hb dX0_wearDay_22 ?_
  refine hs_put (ci := cPe) (C := RX2) (T := TX2) (N := 8) (ty := .int) hx hb hts (by decide +kernel) tyX2 tyX2_ok nmX2 hown hK hW hS 4 ((σ 9 f 0).toNatClampNeg) (hs_ix4 ((hh f (by omega)).1)) rfl rfl 6 (by decide) (hts (.fieldLink RX0 72 "Waxrow$Person" "due" "I") (by decide +kernel)) (fun _ h9 => h9) rfl (by decide +kernel) rfl rfl (Nat.le_of_ble_eq_true rfl) (hs_sg (hs_sg σ 9 f 10 ((σ 9 f 10) + x)) 4 ((σ 9 f 0).toNatClampNeg) 6 ((σ 4 ((σ 9 f 0).toNatClampNeg) 6) + (x / 100))) (by simp [hs_ct, hs_sg]) (hs_off _ _ _ _ _) dX0_wearDay_23 (fun H locs hW hS => ?_)
  refine lv_iload_n hx hb dX0_wearDay_26 rfl (lv_at hl 3 rfl) ?_
  refine lv_bipush (v := 25) hx hb dX0_wearDay_27 (by decide) ?_
  refine lv_icmp_le (tgt := 44) hx hb dX0_wearDay_29 (by decide) (fun c_29 => ?_) (fun c_29 => ?_)
  · refine lv_iconst (v := 0) hx hb dX0_wearDay_44 (by decide) ?_
    refine lv_istore (lv' := [(4, .int 0), (0, .ref (L 9 f)), (1, .int x), (2, .int y), (3, .int z)]) hx hb dX0_wearDay_45 hl (by decide) rfl (fun ls hl => ?_)
    refine lv_aload_n hx hb dX0_wearDay_47 rfl (lv_at hl 1 rfl) ?_
    refine lv_aload_n hx hb dX0_wearDay_48 rfl (lv_at hl 1 rfl) ?_
    refine va_get (D := D) (ci := cFi) (C := RX0) (T := TX0) (N := 11) (ws := [(L 9 f, hs_ct d L (hs_sg (hs_sg σ 9 f 10 ((σ 9 f 10) + x)) 4 ((σ 9 f 0).toNatClampNeg) 6 ((σ 4 ((σ 9 f 0).toNatClampNeg) 6) + (x / 100))) 9 f)]) (v := .int (σ 9 f 6)) hx hb hts (by decide +kernel) hown hK (hW.one (hs_ix9 hf)) 0 rfl rfl 6 (by decide) (hts (.fieldLink RX0 34 "Waxrow$Figure" "wear" "I") (by decide +kernel)) (fun _ h9 => h9) (by simp [hs_sg]) dX0_wearDay_49 ?_
    refine lv_iload_n hx hb dX0_wearDay_52 rfl (lv_at hl 2 rfl) ?_
    refine lv_bipush (v := 50) hx hb dX0_wearDay_53 (by decide) ?_
    refine lv_idiv hx hb dX0_wearDay_55 (by decide) ?_
    refine lv_iadd hx hb dX0_wearDay_56 ?_
    refine lv_iload_n hx hb dX0_wearDay_57 rfl (lv_at hl 3 rfl) ?_
    refine lv_iconst (v := 3) hx hb dX0_wearDay_58 (by decide) ?_
    refine lv_idiv hx hb dX0_wearDay_59 (by decide) ?_
    refine lv_iadd hx hb dX0_wearDay_60 ?_
    refine lv_iload hx hb dX0_wearDay_61 (lv_at hl 0 rfl) ?_
    refine lv_iadd hx hb dX0_wearDay_63 ?_
    refine lv_bipush (v := 100) hx hb dX0_wearDay_64 (by decide) ?_
    refine va_mmin hx hb (hml.trans hl.1.symm) hown (hts (.methodLink RX0 75 Lib.Math.min.name) (by decide +kernel)) (hts (.static Lib.Math.min.name) (by decide +kernel)) (hts (.initialized "java/lang/Math") (by decide +kernel)) (hts (.code Lib.Math.min.name Lib.Math.min.code 2 (some .int)) (by decide +kernel)) (Nat.le_of_ble_eq_true rfl) (Nat.le_of_ble_eq_true rfl) (Nat.zero_le _) (Nat.zero_le _) dX0_wearDay_66 ?_
    refine hs_put (ci := cFi) (C := RX0) (T := TX0) (N := 11) (ty := .int) hx hb hts (by decide +kernel) tyX0 tyX0_ok nmX0 hown hK hW hS 9 f (hs_ix9 hf) rfl rfl 6 (by decide) (hts (.fieldLink RX0 34 "Waxrow$Figure" "wear" "I") (by decide +kernel)) (fun _ h9 => h9) rfl (by decide +kernel) rfl rfl (Nat.le_of_ble_eq_true rfl) (hs_sg (hs_sg (hs_sg σ 9 f 10 ((σ 9 f 10) + x)) 4 ((σ 9 f 0).toNatClampNeg) 6 ((σ 4 ((σ 9 f 0).toNatClampNeg) 6) + (x / 100))) 9 f 6 (if 100 < ((((σ 9 f 6) + (x / 50)) + (y / 3)) + 0) then 100 else ((((σ 9 f 6) + (x / 50)) + (y / 3)) + 0))) (by simp [hs_ct, hs_sg]) (hs_off _ _ _ _ _) dX0_wearDay_69 (fun H locs hW hS => ?_)
    refine lv_aload_n hx hb dX0_wearDay_72 rfl (lv_at hl 1 rfl) ?_
    refine va_get (D := D) (ci := cFi) (C := RX0) (T := TX0) (N := 11) (ws := [(L 9 f, hs_ct d L (hs_sg (hs_sg (hs_sg σ 9 f 10 ((σ 9 f 10) + x)) 4 ((σ 9 f 0).toNatClampNeg) 6 ((σ 4 ((σ 9 f 0).toNatClampNeg) 6) + (x / 100))) 9 f 6 (if 100 < ((((σ 9 f 6) + (x / 50)) + (y / 3)) + 0) then 100 else ((((σ 9 f 6) + (x / 50)) + (y / 3)) + 0))) 9 f)]) (v := .int (if 100 < ((((σ 9 f 6) + (x / 50)) + (y / 3)) + 0) then 100 else ((((σ 9 f 6) + (x / 50)) + (y / 3)) + 0))) hx hb hts (by decide +kernel) hown hK (hW.one (hs_ix9 hf)) 0 rfl rfl 6 (by decide) (hts (.fieldLink RX0 34 "Waxrow$Figure" "wear" "I") (by decide +kernel)) (fun _ h9 => h9) (by simp [hs_sg]) dX0_wearDay_73 ?_
    refine lv_bipush (v := 100) hx hb dX0_wearDay_76 (by decide) ?_
    refine lv_icmp_ge (tgt := 83) hx hb dX0_wearDay_78 (by decide) (fun c_78 => ?_) (fun c_78 => ?_)
    · refine lv_aload_n hx hb dX0_wearDay_83 rfl (lv_at hl 1 rfl) ?_
      refine hs_callv (As := []) ⟨hx, hb, hml, hown, hts⟩ (kX0_becomeMelted l D d L (hs_sg (hs_sg (hs_sg σ 9 f 10 ((σ 9 f 10) + x)) 4 ((σ 9 f 0).toNatClampNeg) 6 ((σ 4 ((σ 9 f 0).toNatClampNeg) 6) + (x / 100))) 9 f 6 (if 100 < ((((σ 9 f 6) + (x / 50)) + (y / 3)) + 0) then 100 else ((((σ 9 f 6) + (x / 50)) + (y / 3)) + 0))) A f hf) (cwV 0 hts gX0_wearDay_X0_becomeMelted rfl rfl rfl (by decide +kernel) ⟨Nat.le_of_ble_eq_true rfl, Nat.le_of_ble_eq_true rfl⟩) hK hE hW hS (hs_ix9 hf) (ci := cFi) (r := (RX0, TX0, 11)) rfl rfl rfl rfl hl.1 (Nat.le_of_ble_eq_true rfl) dX0_wearDay_84 ⟨Nat.zero_le _, Nat.zero_le _⟩ rfl (fun τ_ H locs hp hW hS => ?_)
      obtain rfl := hp
      refine lv_iconst (v := 1) hx hb dX0_wearDay_87 (by decide) ?_
      exact W.zret (v := 1) (ty := .boolean) hx hb hr rfl (fun t ht hW9 => ⟨⟨1, (sp_melt (hs_sg (hs_sg (hs_sg σ 9 f 10 ((σ 9 f 10) + x)) 4 ((σ 9 f 0).toNatClampNeg) 6 ((σ 4 ((σ 9 f 0).toNatClampNeg) 6) + (x / 100))) 9 f 6 (if 100 < ((((σ 9 f 6) + (x / 50)) + (y / 3)) + 0) then 100 else ((((σ 9 f 6) + (x / 50)) + (y / 3)) + 0))) f), rfl, ⟨by first | (simp only [sp_wear, sp_worn, sp_heat, sp_melt, hs_sg, and_self, true_and, and_true, and_false, c_29, c_78, eq_self, ↓reduceIte]; done) | (simp [sp_wear, sp_worn, sp_heat, sp_melt, hs_sg, and_self, true_and, and_true, and_false, c_29, c_78]; done), by first | (simp only [sp_wear, sp_worn, sp_heat, sp_melt, hs_sg, and_self, true_and, and_true, and_false, c_29, c_78, eq_self, ↓reduceIte]; done) | (simp [sp_wear, sp_worn, sp_heat, sp_melt, hs_sg, and_self, true_and, and_true, and_false, c_29, c_78]; done)⟩, ⟨by rw [ht]; exact hW, va_K.moved hW9.alike hK⟩⟩, hS.F ht⟩) hS.2.2 dX0_wearDay_88
    · refine lv_iconst (v := 0) hx hb dX0_wearDay_81 (by decide) ?_
      exact W.zret (v := 0) (ty := .boolean) hx hb hr rfl (fun t ht hW9 => ⟨⟨0, (hs_sg (hs_sg (hs_sg σ 9 f 10 ((σ 9 f 10) + x)) 4 ((σ 9 f 0).toNatClampNeg) 6 ((σ 4 ((σ 9 f 0).toNatClampNeg) 6) + (x / 100))) 9 f 6 (if 100 < ((((σ 9 f 6) + (x / 50)) + (y / 3)) + 0) then 100 else ((((σ 9 f 6) + (x / 50)) + (y / 3)) + 0))), rfl, ⟨by first | (simp only [sp_wear, sp_worn, sp_heat, sp_melt, hs_sg, and_self, true_and, and_true, and_false, c_29, c_78, eq_self, ↓reduceIte]; done) | (simp [sp_wear, sp_worn, sp_heat, sp_melt, hs_sg, and_self, true_and, and_true, and_false, c_29, c_78]; done), by first | (simp only [sp_wear, sp_worn, sp_heat, sp_melt, hs_sg, and_self, true_and, and_true, and_false, c_29, c_78, eq_self, ↓reduceIte]; done) | (simp [sp_wear, sp_worn, sp_heat, sp_melt, hs_sg, and_self, true_and, and_true, and_false, c_29, c_78]; done)⟩, ⟨by rw [ht]; exact hW, va_K.moved hW9.alike hK⟩⟩, hS.F ht⟩) hS.2.2 dX0_wearDay_82
  · refine lv_iload_n hx hb dX0_wearDay_32 rfl (lv_at hl 3 rfl) ?_
    refine lv_bipush (v := 25) hx hb dX0_wearDay_33 (by decide) ?_
    refine lv_isub hx hb dX0_wearDay_35 ?_
    refine lv_iload_n hx hb dX0_wearDay_36 rfl (lv_at hl 2 rfl) ?_
    refine lv_imul hx hb dX0_wearDay_37 ?_
    refine lv_bipush (v := 10) hx hb dX0_wearDay_38 (by decide) ?_
    refine lv_idiv hx hb dX0_wearDay_40 (by decide) ?_
    refine lv_goto (tgt := 45) hx hb dX0_wearDay_41 (by decide) ?_
    refine lv_istore (lv' := [(4, .int (((z - 25) * y) / 10)), (0, .ref (L 9 f)), (1, .int x), (2, .int y), (3, .int z)]) hx hb dX0_wearDay_45 hl (by decide) rfl (fun ls hl => ?_)
    refine lv_aload_n hx hb dX0_wearDay_47 rfl (lv_at hl 1 rfl) ?_
    refine lv_aload_n hx hb dX0_wearDay_48 rfl (lv_at hl 1 rfl) ?_
    refine va_get (D := D) (ci := cFi) (C := RX0) (T := TX0) (N := 11) (ws := [(L 9 f, hs_ct d L (hs_sg (hs_sg σ 9 f 10 ((σ 9 f 10) + x)) 4 ((σ 9 f 0).toNatClampNeg) 6 ((σ 4 ((σ 9 f 0).toNatClampNeg) 6) + (x / 100))) 9 f)]) (v := .int (σ 9 f 6)) hx hb hts (by decide +kernel) hown hK (hW.one (hs_ix9 hf)) 0 rfl rfl 6 (by decide) (hts (.fieldLink RX0 34 "Waxrow$Figure" "wear" "I") (by decide +kernel)) (fun _ h9 => h9) (by simp [hs_sg]) dX0_wearDay_49 ?_
    refine lv_iload_n hx hb dX0_wearDay_52 rfl (lv_at hl 2 rfl) ?_
    refine lv_bipush (v := 50) hx hb dX0_wearDay_53 (by decide) ?_
    refine lv_idiv hx hb dX0_wearDay_55 (by decide) ?_
    refine lv_iadd hx hb dX0_wearDay_56 ?_
    refine lv_iload_n hx hb dX0_wearDay_57 rfl (lv_at hl 3 rfl) ?_
    refine lv_iconst (v := 3) hx hb dX0_wearDay_58 (by decide) ?_
    refine lv_idiv hx hb dX0_wearDay_59 (by decide) ?_
    refine lv_iadd hx hb dX0_wearDay_60 ?_
    refine lv_iload hx hb dX0_wearDay_61 (lv_at hl 0 rfl) ?_
    refine lv_iadd hx hb dX0_wearDay_63 ?_
    refine lv_bipush (v := 100) hx hb dX0_wearDay_64 (by decide) ?_
    refine va_mmin hx hb (hml.trans hl.1.symm) hown (hts (.methodLink RX0 75 Lib.Math.min.name) (by decide +kernel)) (hts (.static Lib.Math.min.name) (by decide +kernel)) (hts (.initialized "java/lang/Math") (by decide +kernel)) (hts (.code Lib.Math.min.name Lib.Math.min.code 2 (some .int)) (by decide +kernel)) (Nat.le_of_ble_eq_true rfl) (Nat.le_of_ble_eq_true rfl) (Nat.zero_le _) (Nat.zero_le _) dX0_wearDay_66 ?_
    refine hs_put (ci := cFi) (C := RX0) (T := TX0) (N := 11) (ty := .int) hx hb hts (by decide +kernel) tyX0 tyX0_ok nmX0 hown hK hW hS 9 f (hs_ix9 hf) rfl rfl 6 (by decide) (hts (.fieldLink RX0 34 "Waxrow$Figure" "wear" "I") (by decide +kernel)) (fun _ h9 => h9) rfl (by decide +kernel) rfl rfl (Nat.le_of_ble_eq_true rfl) (hs_sg (hs_sg (hs_sg σ 9 f 10 ((σ 9 f 10) + x)) 4 ((σ 9 f 0).toNatClampNeg) 6 ((σ 4 ((σ 9 f 0).toNatClampNeg) 6) + (x / 100))) 9 f 6 (if 100 < ((((σ 9 f 6) + (x / 50)) + (y / 3)) + (((z - 25) * y) / 10)) then 100 else ((((σ 9 f 6) + (x / 50)) + (y / 3)) + (((z - 25) * y) / 10)))) (by simp [hs_ct, hs_sg]) (hs_off _ _ _ _ _) dX0_wearDay_69 (fun H locs hW hS => ?_)
    refine lv_aload_n hx hb dX0_wearDay_72 rfl (lv_at hl 1 rfl) ?_
    refine va_get (D := D) (ci := cFi) (C := RX0) (T := TX0) (N := 11) (ws := [(L 9 f, hs_ct d L (hs_sg (hs_sg (hs_sg σ 9 f 10 ((σ 9 f 10) + x)) 4 ((σ 9 f 0).toNatClampNeg) 6 ((σ 4 ((σ 9 f 0).toNatClampNeg) 6) + (x / 100))) 9 f 6 (if 100 < ((((σ 9 f 6) + (x / 50)) + (y / 3)) + (((z - 25) * y) / 10)) then 100 else ((((σ 9 f 6) + (x / 50)) + (y / 3)) + (((z - 25) * y) / 10)))) 9 f)]) (v := .int (if 100 < ((((σ 9 f 6) + (x / 50)) + (y / 3)) + (((z - 25) * y) / 10)) then 100 else ((((σ 9 f 6) + (x / 50)) + (y / 3)) + (((z - 25) * y) / 10)))) hx hb hts (by decide +kernel) hown hK (hW.one (hs_ix9 hf)) 0 rfl rfl 6 (by decide) (hts (.fieldLink RX0 34 "Waxrow$Figure" "wear" "I") (by decide +kernel)) (fun _ h9 => h9) (by simp [hs_sg]) dX0_wearDay_73 ?_
    refine lv_bipush (v := 100) hx hb dX0_wearDay_76 (by decide) ?_
    refine lv_icmp_ge (tgt := 83) hx hb dX0_wearDay_78 (by decide) (fun c_78 => ?_) (fun c_78 => ?_)
    · refine lv_aload_n hx hb dX0_wearDay_83 rfl (lv_at hl 1 rfl) ?_
      refine hs_callv (As := []) ⟨hx, hb, hml, hown, hts⟩ (kX0_becomeMelted l D d L (hs_sg (hs_sg (hs_sg σ 9 f 10 ((σ 9 f 10) + x)) 4 ((σ 9 f 0).toNatClampNeg) 6 ((σ 4 ((σ 9 f 0).toNatClampNeg) 6) + (x / 100))) 9 f 6 (if 100 < ((((σ 9 f 6) + (x / 50)) + (y / 3)) + (((z - 25) * y) / 10)) then 100 else ((((σ 9 f 6) + (x / 50)) + (y / 3)) + (((z - 25) * y) / 10)))) A f hf) (cwV 0 hts gX0_wearDay_X0_becomeMelted rfl rfl rfl (by decide +kernel) ⟨Nat.le_of_ble_eq_true rfl, Nat.le_of_ble_eq_true rfl⟩) hK hE hW hS (hs_ix9 hf) (ci := cFi) (r := (RX0, TX0, 11)) rfl rfl rfl rfl hl.1 (Nat.le_of_ble_eq_true rfl) dX0_wearDay_84 ⟨Nat.zero_le _, Nat.zero_le _⟩ rfl (fun τ_ H locs hp hW hS => ?_)
      obtain rfl := hp
      refine lv_iconst (v := 1) hx hb dX0_wearDay_87 (by decide) ?_
      exact W.zret (v := 1) (ty := .boolean) hx hb hr rfl (fun t ht hW9 => ⟨⟨1, (sp_melt (hs_sg (hs_sg (hs_sg σ 9 f 10 ((σ 9 f 10) + x)) 4 ((σ 9 f 0).toNatClampNeg) 6 ((σ 4 ((σ 9 f 0).toNatClampNeg) 6) + (x / 100))) 9 f 6 (if 100 < ((((σ 9 f 6) + (x / 50)) + (y / 3)) + (((z - 25) * y) / 10)) then 100 else ((((σ 9 f 6) + (x / 50)) + (y / 3)) + (((z - 25) * y) / 10)))) f), rfl, ⟨by first | (simp only [sp_wear, sp_worn, sp_heat, sp_melt, hs_sg, and_self, true_and, and_true, and_false, c_29, c_78, eq_self, ↓reduceIte]; done) | (simp [sp_wear, sp_worn, sp_heat, sp_melt, hs_sg, and_self, true_and, and_true, and_false, c_29, c_78]; done), by first | (simp only [sp_wear, sp_worn, sp_heat, sp_melt, hs_sg, and_self, true_and, and_true, and_false, c_29, c_78, eq_self, ↓reduceIte]; done) | (simp [sp_wear, sp_worn, sp_heat, sp_melt, hs_sg, and_self, true_and, and_true, and_false, c_29, c_78]; done)⟩, ⟨by rw [ht]; exact hW, va_K.moved hW9.alike hK⟩⟩, hS.F ht⟩) hS.2.2 dX0_wearDay_88
    · refine lv_iconst (v := 0) hx hb dX0_wearDay_81 (by decide) ?_
      exact W.zret (v := 0) (ty := .boolean) hx hb hr rfl (fun t ht hW9 => ⟨⟨0, (hs_sg (hs_sg (hs_sg σ 9 f 10 ((σ 9 f 10) + x)) 4 ((σ 9 f 0).toNatClampNeg) 6 ((σ 4 ((σ 9 f 0).toNatClampNeg) 6) + (x / 100))) 9 f 6 (if 100 < ((((σ 9 f 6) + (x / 50)) + (y / 3)) + (((z - 25) * y) / 10)) then 100 else ((((σ 9 f 6) + (x / 50)) + (y / 3)) + (((z - 25) * y) / 10)))), rfl, ⟨by first | (simp only [sp_wear, sp_worn, sp_heat, sp_melt, hs_sg, and_self, true_and, and_true, and_false, c_29, c_78, eq_self, ↓reduceIte]; done) | (simp [sp_wear, sp_worn, sp_heat, sp_melt, hs_sg, and_self, true_and, and_true, and_false, c_29, c_78]; done), by first | (simp only [sp_wear, sp_worn, sp_heat, sp_melt, hs_sg, and_self, true_and, and_true, and_false, c_29, c_78, eq_self, ↓reduceIte]; done) | (simp [sp_wear, sp_worn, sp_heat, sp_melt, hs_sg, and_self, true_and, and_true, and_false, c_29, c_78]; done)⟩, ⟨by rw [ht]; exact hW, va_K.moved hW9.alike hK⟩⟩, hS.F ht⟩) hS.2.2 dX0_wearDay_82
set_option maxHeartbeats 4000000 in
set_option maxRecDepth 100000 in
/-- tourDay -/
theorem kX0_tourDay (l : Launch) (D : va_G) (d : hs_Dm) (L : hs_Lo) (σ : hs_St) (A : Nat → Prop) (f : Nat) (hf : f < 8) (hh : hs_hd σ) : hs_Mi l yX0_tourDay wsX0_tourDay ({ frames := 2, cells := 0, slots := 0, locals := 43 }) D d L σ A [.ref (L 9 f)] (fun r τ => sp_earn σ f = r ∧ sp_tour σ f = τ) := by
  refine Met.ofW (cc := cX0_tourDay) (maxL := 2) (ret := (some .int)) (by decide) rfl ?_
  intro p e s m args below meth c s₁ B hml hv
  obtain ⟨rfl, ⟨hW, hK⟩, hE⟩ := hv
  have hx := B.exec
  have hb := B.bytes
  have hr := B.returns
  have hts := atoms_spec (ws := wsX0_tourDay) B.pre
  have hown : s.vm.findClass RX0 = some m.cls := findClass_of_methodNamed B.named
  have hlocks := B.notSynchronized
  have hS : va_S A s.heap s.heap [] := va_S.rf
  have hW : hs_W D d L σ A s.heap := hW
  have hl := lv_entry ([.ref (L 9 f)]) (n := 2) (Nat.le_of_ble_eq_true rfl)
  rw [lg_entry_eq]
  generalize (lg_sl ([.ref (L 9 f)]) ++ List.replicate (2 - (lg_sl ([.ref (L 9 f)])).length) Slot.unset).toArray = ls at hl ⊢
  have hl : lv_has ls 2 [(0, .ref (L 9 f))] := hl
  refine lv_iconst (v := 0) hx hb dX0_tourDay_0 (by decide) ?_
  refine lv_istore_n (lv' := [(1, .int 0), (0, .ref (L 9 f))]) hx hb dX0_tourDay_1 rfl hl (by decide) rfl (fun ls hl => ?_)
  refine lv_aload_n hx hb dX0_tourDay_2 rfl (lv_at hl 1 rfl) ?_
  refine va_get (D := D) (ci := cFi) (C := RX0) (T := TX0) (N := 11) (ws := [(L 9 f, hs_ct d L σ 9 f)]) (v := .int (σ 9 f 8)) hx hb hts (by decide +kernel) hown hK (hW.one (hs_ix9 hf)) 0 rfl rfl 8 (by decide) (hts (.fieldLink RX0 37 "Waxrow$Figure" "tourLand" "I") (by decide +kernel)) (fun _ h9 => h9) rfl dX0_tourDay_3 ?_
  refine lv_if_lt (tgt := 39) hx hb dX0_tourDay_6 (by decide) (fun c_6 => ?_) (fun c_6 => ?_)
  · refine lv_aload_n hx hb dX0_tourDay_39 rfl (lv_at hl 1 rfl) ?_
    refine lv_aload_n hx hb dX0_tourDay_40 rfl (lv_at hl 1 rfl) ?_
    refine va_get (D := D) (ci := cFi) (C := RX0) (T := TX0) (N := 11) (ws := [(L 9 f, hs_ct d L σ 9 f)]) (v := .int (σ 9 f 6)) hx hb hts (by decide +kernel) hown hK (hW.one (hs_ix9 hf)) 0 rfl rfl 6 (by decide) (hts (.fieldLink RX0 34 "Waxrow$Figure" "wear" "I") (by decide +kernel)) (fun _ h9 => h9) rfl dX0_tourDay_41 ?_
    refine lv_iconst (v := 2) hx hb dX0_tourDay_44 (by decide) ?_
    refine lv_iadd hx hb dX0_tourDay_45 ?_
    refine lv_bipush (v := 99) hx hb dX0_tourDay_46 (by decide) ?_
    refine va_mmin hx hb (hml.trans hl.1.symm) hown (hts (.methodLink RX0 75 Lib.Math.min.name) (by decide +kernel)) (hts (.static Lib.Math.min.name) (by decide +kernel)) (hts (.initialized "java/lang/Math") (by decide +kernel)) (hts (.code Lib.Math.min.name Lib.Math.min.code 2 (some .int)) (by decide +kernel)) (Nat.le_of_ble_eq_true rfl) (Nat.le_of_ble_eq_true rfl) (Nat.zero_le _) (Nat.zero_le _) dX0_tourDay_48 ?_
    refine hs_put (ci := cFi) (C := RX0) (T := TX0) (N := 11) (ty := .int) hx hb hts (by decide +kernel) tyX0 tyX0_ok nmX0 hown hK hW hS 9 f (hs_ix9 hf) rfl rfl 6 (by decide) (hts (.fieldLink RX0 34 "Waxrow$Figure" "wear" "I") (by decide +kernel)) (fun _ h9 => h9) rfl (by decide +kernel) rfl rfl (Nat.le_of_ble_eq_true rfl) (hs_sg σ 9 f 6 (if 99 < ((σ 9 f 6) + 2) then 99 else ((σ 9 f 6) + 2))) (by simp [hs_ct, hs_sg]) (hs_off _ _ _ _ _) dX0_tourDay_51 (fun H locs hW hS => ?_)
    refine lv_aload_n hx hb dX0_tourDay_54 rfl (lv_at hl 1 rfl) ?_
    refine lv_dup hx hb dX0_tourDay_55 rfl ?_
    refine va_get (D := D) (ci := cFi) (C := RX0) (T := TX0) (N := 11) (ws := [(L 9 f, hs_ct d L (hs_sg σ 9 f 6 (if 99 < ((σ 9 f 6) + 2) then 99 else ((σ 9 f 6) + 2))) 9 f)]) (v := .int (σ 9 f 9)) hx hb hts (by decide +kernel) hown hK (hW.one (hs_ix9 hf)) 0 rfl rfl 9 (by decide) (hts (.fieldLink RX0 40 "Waxrow$Figure" "tourDays" "I") (by decide +kernel)) (fun _ h9 => h9) (by simp [hs_sg]) dX0_tourDay_56 ?_
    refine lv_iconst (v := 1) hx hb dX0_tourDay_59 (by decide) ?_
    refine lv_isub hx hb dX0_tourDay_60 ?_
    refine hs_put (ci := cFi) (C := RX0) (T := TX0) (N := 11) (ty := .int) hx hb hts (by decide +kernel) tyX0 tyX0_ok nmX0 hown hK hW hS 9 f (hs_ix9 hf) rfl rfl 9 (by decide) (hts (.fieldLink RX0 40 "Waxrow$Figure" "tourDays" "I") (by decide +kernel)) (fun _ h9 => h9) rfl (by decide +kernel) rfl rfl (Nat.le_of_ble_eq_true rfl) (hs_sg (hs_sg σ 9 f 6 (if 99 < ((σ 9 f 6) + 2) then 99 else ((σ 9 f 6) + 2))) 9 f 9 ((σ 9 f 9) - 1)) (by simp [hs_ct, hs_sg]) (hs_off _ _ _ _ _) dX0_tourDay_61 (fun H locs hW hS => ?_)
    refine lv_aload_n hx hb dX0_tourDay_64 rfl (lv_at hl 1 rfl) ?_
    refine va_get (D := D) (ci := cFi) (C := RX0) (T := TX0) (N := 11) (ws := [(L 9 f, hs_ct d L (hs_sg (hs_sg σ 9 f 6 (if 99 < ((σ 9 f 6) + 2) then 99 else ((σ 9 f 6) + 2))) 9 f 9 ((σ 9 f 9) - 1)) 9 f)]) (v := .int ((σ 9 f 9) - 1)) hx hb hts (by decide +kernel) hown hK (hW.one (hs_ix9 hf)) 0 rfl rfl 9 (by decide) (hts (.fieldLink RX0 40 "Waxrow$Figure" "tourDays" "I") (by decide +kernel)) (fun _ h9 => h9) (by simp [hs_sg]) dX0_tourDay_65 ?_
    refine lv_if_gt (tgt := 81) hx hb dX0_tourDay_68 (by decide) (fun c_68 => ?_) (fun c_68 => ?_)
    · refine lv_iload_n hx hb dX0_tourDay_81 rfl (lv_at hl 0 rfl) ?_
      exact W.iret (v := 0) hx hb hr (fun t ht hW9 => ⟨⟨0, (hs_sg (hs_sg σ 9 f 6 (if 99 < ((σ 9 f 6) + 2) then 99 else ((σ 9 f 6) + 2))) 9 f 9 ((σ 9 f 9) - 1)), rfl, ⟨by first | (simp only [sp_earn, c_6, eq_self, ↓reduceIte]; done) | (simp [sp_earn, c_6]; done), by first | (simp only [sp_tour, c_68, eq_self, ↓reduceIte]; done) | (simp [sp_tour, c_68]; done)⟩, ⟨by rw [ht]; exact hW, va_K.moved hW9.alike hK⟩⟩, hS.F ht⟩) hS.2.2 dX0_tourDay_82
    · refine lv_aload_n hx hb dX0_tourDay_71 rfl (lv_at hl 1 rfl) ?_
      refine lv_iconst (v := 0) hx hb dX0_tourDay_72 (by decide) ?_
      refine hs_put (ci := cFi) (C := RX0) (T := TX0) (N := 11) (ty := .int) hx hb hts (by decide +kernel) tyX0 tyX0_ok nmX0 hown hK hW hS 9 f (hs_ix9 hf) rfl rfl 9 (by decide) (hts (.fieldLink RX0 40 "Waxrow$Figure" "tourDays" "I") (by decide +kernel)) (fun _ h9 => h9) rfl (by decide +kernel) rfl rfl (Nat.le_of_ble_eq_true rfl) (hs_sg (hs_sg (hs_sg σ 9 f 6 (if 99 < ((σ 9 f 6) + 2) then 99 else ((σ 9 f 6) + 2))) 9 f 9 ((σ 9 f 9) - 1)) 9 f 9 0) (by simp [hs_ct, hs_sg]) (hs_off _ _ _ _ _) dX0_tourDay_73 (fun H locs hW hS => ?_)
      refine lv_aload_n hx hb dX0_tourDay_76 rfl (lv_at hl 1 rfl) ?_
      refine lv_iconst (v := 5) hx hb dX0_tourDay_77 (by decide) ?_
      refine hs_put (ci := cFi) (C := RX0) (T := TX0) (N := 11) (ty := .int) hx hb hts (by decide +kernel) tyX0 tyX0_ok nmX0 hown hK hW hS 9 f (hs_ix9 hf) rfl rfl 7 (by decide) (hts (.fieldLink RX0 18 "Waxrow$Figure" "place" "I") (by decide +kernel)) (fun _ h9 => h9) rfl (by decide +kernel) rfl rfl (Nat.le_of_ble_eq_true rfl) (hs_sg (hs_sg (hs_sg (hs_sg σ 9 f 6 (if 99 < ((σ 9 f 6) + 2) then 99 else ((σ 9 f 6) + 2))) 9 f 9 ((σ 9 f 9) - 1)) 9 f 9 0) 9 f 7 5) (by simp [hs_ct, hs_sg]) (hs_off _ _ _ _ _) dX0_tourDay_78 (fun H locs hW hS => ?_)
      refine lv_iload_n hx hb dX0_tourDay_81 rfl (lv_at hl 0 rfl) ?_
      exact W.iret (v := 0) hx hb hr (fun t ht hW9 => ⟨⟨0, (hs_sg (hs_sg (hs_sg (hs_sg σ 9 f 6 (if 99 < ((σ 9 f 6) + 2) then 99 else ((σ 9 f 6) + 2))) 9 f 9 ((σ 9 f 9) - 1)) 9 f 9 0) 9 f 7 5), rfl, ⟨by first | (simp only [sp_earn, c_6, eq_self, ↓reduceIte]; done) | (simp [sp_earn, c_6]; done), by first | (simp only [sp_tour, c_68, eq_self, ↓reduceIte]; done) | (simp [sp_tour, c_68]; done)⟩, ⟨by rw [ht]; exact hW, va_K.moved hW9.alike hK⟩⟩, hS.F ht⟩) hS.2.2 dX0_tourDay_82
  · refine lv_aload_n hx hb dX0_tourDay_9 rfl (lv_at hl 1 rfl) ?_
    refine va_get (D := D) (ci := cFi) (C := RX0) (T := TX0) (N := 11) (ws := [(L 9 f, hs_ct d L σ 9 f)]) (v := .int (σ 9 f 8)) hx hb hts (by decide +kernel) hown hK (hW.one (hs_ix9 hf)) 0 rfl rfl 8 (by decide) (hts (.fieldLink RX0 37 "Waxrow$Figure" "tourLand" "I") (by decide +kernel)) (fun _ h9 => h9) rfl dX0_tourDay_10 ?_
    refine lv_iconst (v := 3) hx hb dX0_tourDay_13 (by decide) ?_
    refine lv_icmp_ge (tgt := 39) hx hb dX0_tourDay_14 (by decide) (fun c_14 => ?_) (fun c_14 => ?_)
    · refine lv_aload_n hx hb dX0_tourDay_39 rfl (lv_at hl 1 rfl) ?_
      refine lv_aload_n hx hb dX0_tourDay_40 rfl (lv_at hl 1 rfl) ?_
      refine va_get (D := D) (ci := cFi) (C := RX0) (T := TX0) (N := 11) (ws := [(L 9 f, hs_ct d L σ 9 f)]) (v := .int (σ 9 f 6)) hx hb hts (by decide +kernel) hown hK (hW.one (hs_ix9 hf)) 0 rfl rfl 6 (by decide) (hts (.fieldLink RX0 34 "Waxrow$Figure" "wear" "I") (by decide +kernel)) (fun _ h9 => h9) rfl dX0_tourDay_41 ?_
      refine lv_iconst (v := 2) hx hb dX0_tourDay_44 (by decide) ?_
      refine lv_iadd hx hb dX0_tourDay_45 ?_
      refine lv_bipush (v := 99) hx hb dX0_tourDay_46 (by decide) ?_
      refine va_mmin hx hb (hml.trans hl.1.symm) hown (hts (.methodLink RX0 75 Lib.Math.min.name) (by decide +kernel)) (hts (.static Lib.Math.min.name) (by decide +kernel)) (hts (.initialized "java/lang/Math") (by decide +kernel)) (hts (.code Lib.Math.min.name Lib.Math.min.code 2 (some .int)) (by decide +kernel)) (Nat.le_of_ble_eq_true rfl) (Nat.le_of_ble_eq_true rfl) (Nat.zero_le _) (Nat.zero_le _) dX0_tourDay_48 ?_
      refine hs_put (ci := cFi) (C := RX0) (T := TX0) (N := 11) (ty := .int) hx hb hts (by decide +kernel) tyX0 tyX0_ok nmX0 hown hK hW hS 9 f (hs_ix9 hf) rfl rfl 6 (by decide) (hts (.fieldLink RX0 34 "Waxrow$Figure" "wear" "I") (by decide +kernel)) (fun _ h9 => h9) rfl (by decide +kernel) rfl rfl (Nat.le_of_ble_eq_true rfl) (hs_sg σ 9 f 6 (if 99 < ((σ 9 f 6) + 2) then 99 else ((σ 9 f 6) + 2))) (by simp [hs_ct, hs_sg]) (hs_off _ _ _ _ _) dX0_tourDay_51 (fun H locs hW hS => ?_)
      refine lv_aload_n hx hb dX0_tourDay_54 rfl (lv_at hl 1 rfl) ?_
      refine lv_dup hx hb dX0_tourDay_55 rfl ?_
      refine va_get (D := D) (ci := cFi) (C := RX0) (T := TX0) (N := 11) (ws := [(L 9 f, hs_ct d L (hs_sg σ 9 f 6 (if 99 < ((σ 9 f 6) + 2) then 99 else ((σ 9 f 6) + 2))) 9 f)]) (v := .int (σ 9 f 9)) hx hb hts (by decide +kernel) hown hK (hW.one (hs_ix9 hf)) 0 rfl rfl 9 (by decide) (hts (.fieldLink RX0 40 "Waxrow$Figure" "tourDays" "I") (by decide +kernel)) (fun _ h9 => h9) (by simp [hs_sg]) dX0_tourDay_56 ?_
      refine lv_iconst (v := 1) hx hb dX0_tourDay_59 (by decide) ?_
      refine lv_isub hx hb dX0_tourDay_60 ?_
      refine hs_put (ci := cFi) (C := RX0) (T := TX0) (N := 11) (ty := .int) hx hb hts (by decide +kernel) tyX0 tyX0_ok nmX0 hown hK hW hS 9 f (hs_ix9 hf) rfl rfl 9 (by decide) (hts (.fieldLink RX0 40 "Waxrow$Figure" "tourDays" "I") (by decide +kernel)) (fun _ h9 => h9) rfl (by decide +kernel) rfl rfl (Nat.le_of_ble_eq_true rfl) (hs_sg (hs_sg σ 9 f 6 (if 99 < ((σ 9 f 6) + 2) then 99 else ((σ 9 f 6) + 2))) 9 f 9 ((σ 9 f 9) - 1)) (by simp [hs_ct, hs_sg]) (hs_off _ _ _ _ _) dX0_tourDay_61 (fun H locs hW hS => ?_)
      refine lv_aload_n hx hb dX0_tourDay_64 rfl (lv_at hl 1 rfl) ?_
      refine va_get (D := D) (ci := cFi) (C := RX0) (T := TX0) (N := 11) (ws := [(L 9 f, hs_ct d L (hs_sg (hs_sg σ 9 f 6 (if 99 < ((σ 9 f 6) + 2) then 99 else ((σ 9 f 6) + 2))) 9 f 9 ((σ 9 f 9) - 1)) 9 f)]) (v := .int ((σ 9 f 9) - 1)) hx hb hts (by decide +kernel) hown hK (hW.one (hs_ix9 hf)) 0 rfl rfl 9 (by decide) (hts (.fieldLink RX0 40 "Waxrow$Figure" "tourDays" "I") (by decide +kernel)) (fun _ h9 => h9) (by simp [hs_sg]) dX0_tourDay_65 ?_
      refine lv_if_gt (tgt := 81) hx hb dX0_tourDay_68 (by decide) (fun c_68 => ?_) (fun c_68 => ?_)
      · refine lv_iload_n hx hb dX0_tourDay_81 rfl (lv_at hl 0 rfl) ?_
        exact W.iret (v := 0) hx hb hr (fun t ht hW9 => ⟨⟨0, (hs_sg (hs_sg σ 9 f 6 (if 99 < ((σ 9 f 6) + 2) then 99 else ((σ 9 f 6) + 2))) 9 f 9 ((σ 9 f 9) - 1)), rfl, ⟨by first | (simp only [sp_earn, c_6, c_14, eq_self, ↓reduceIte]; done) | (simp [sp_earn, c_6, c_14]; done), by first | (simp only [sp_tour, c_68, eq_self, ↓reduceIte]; done) | (simp [sp_tour, c_68]; done)⟩, ⟨by rw [ht]; exact hW, va_K.moved hW9.alike hK⟩⟩, hS.F ht⟩) hS.2.2 dX0_tourDay_82
      · refine lv_aload_n hx hb dX0_tourDay_71 rfl (lv_at hl 1 rfl) ?_
        refine lv_iconst (v := 0) hx hb dX0_tourDay_72 (by decide) ?_
        refine hs_put (ci := cFi) (C := RX0) (T := TX0) (N := 11) (ty := .int) hx hb hts (by decide +kernel) tyX0 tyX0_ok nmX0 hown hK hW hS 9 f (hs_ix9 hf) rfl rfl 9 (by decide) (hts (.fieldLink RX0 40 "Waxrow$Figure" "tourDays" "I") (by decide +kernel)) (fun _ h9 => h9) rfl (by decide +kernel) rfl rfl (Nat.le_of_ble_eq_true rfl) (hs_sg (hs_sg (hs_sg σ 9 f 6 (if 99 < ((σ 9 f 6) + 2) then 99 else ((σ 9 f 6) + 2))) 9 f 9 ((σ 9 f 9) - 1)) 9 f 9 0) (by simp [hs_ct, hs_sg]) (hs_off _ _ _ _ _) dX0_tourDay_73 (fun H locs hW hS => ?_)
        refine lv_aload_n hx hb dX0_tourDay_76 rfl (lv_at hl 1 rfl) ?_
        refine lv_iconst (v := 5) hx hb dX0_tourDay_77 (by decide) ?_
        refine hs_put (ci := cFi) (C := RX0) (T := TX0) (N := 11) (ty := .int) hx hb hts (by decide +kernel) tyX0 tyX0_ok nmX0 hown hK hW hS 9 f (hs_ix9 hf) rfl rfl 7 (by decide) (hts (.fieldLink RX0 18 "Waxrow$Figure" "place" "I") (by decide +kernel)) (fun _ h9 => h9) rfl (by decide +kernel) rfl rfl (Nat.le_of_ble_eq_true rfl) (hs_sg (hs_sg (hs_sg (hs_sg σ 9 f 6 (if 99 < ((σ 9 f 6) + 2) then 99 else ((σ 9 f 6) + 2))) 9 f 9 ((σ 9 f 9) - 1)) 9 f 9 0) 9 f 7 5) (by simp [hs_ct, hs_sg]) (hs_off _ _ _ _ _) dX0_tourDay_78 (fun H locs hW hS => ?_)
        refine lv_iload_n hx hb dX0_tourDay_81 rfl (lv_at hl 0 rfl) ?_
        exact W.iret (v := 0) hx hb hr (fun t ht hW9 => ⟨⟨0, (hs_sg (hs_sg (hs_sg (hs_sg σ 9 f 6 (if 99 < ((σ 9 f 6) + 2) then 99 else ((σ 9 f 6) + 2))) 9 f 9 ((σ 9 f 9) - 1)) 9 f 9 0) 9 f 7 5), rfl, ⟨by first | (simp only [sp_earn, c_6, c_14, eq_self, ↓reduceIte]; done) | (simp [sp_earn, c_6, c_14]; done), by first | (simp only [sp_tour, c_68, eq_self, ↓reduceIte]; done) | (simp [sp_tour, c_68]; done)⟩, ⟨by rw [ht]; exact hW, va_K.moved hW9.alike hK⟩⟩, hS.F ht⟩) hS.2.2 dX0_tourDay_82
    · refine lv_aload_n hx hb dX0_tourDay_17 rfl (lv_at hl 1 rfl) ?_
      refine va_get (D := D) (ci := cFi) (C := RX0) (T := TX0) (N := 11) (ws := [(L 9 f, hs_ct d L σ 9 f)]) (v := .ref (L 4 ((σ 9 f 0).toNatClampNeg))) hx hb hts (by decide +kernel) hown hK (hW.one (hs_ix9 hf)) 0 rfl rfl 0 (by decide) (hts (.fieldLink RX0 9 "Waxrow$Figure" "head" "LWaxrow$Person;") (by decide +kernel)) (fun _ h9 => h9) rfl dX0_tourDay_18 ?_
      refine va_get (D := D) (ci := cPe) (C := RX2) (T := TX2) (N := 8) (ws := [(L 4 ((σ 9 f 0).toNatClampNeg), hs_ct d L σ 4 ((σ 9 f 0).toNatClampNeg))]) (v := .ref (L 5 ((σ 9 f 0).toNatClampNeg))) hx hb hts (by decide +kernel) hown hK (hW.one (hs_ix4 ((hh f (by omega)).1))) 0 rfl rfl 1 (by decide) (hts (.fieldLink RX0 66 "Waxrow$Person" "fame" "[I") (by decide +kernel)) (fun _ h9 => h9) rfl dX0_tourDay_21 ?_
      refine lv_aload_n hx hb dX0_tourDay_24 rfl (lv_at hl 1 rfl) ?_
      refine va_get (D := D) (ci := cFi) (C := RX0) (T := TX0) (N := 11) (ws := [(L 9 f, hs_ct d L σ 9 f)]) (v := .int (σ 9 f 8)) hx hb hts (by decide +kernel) hown hK (hW.one (hs_ix9 hf)) 0 rfl rfl 8 (by decide) (hts (.fieldLink RX0 37 "Waxrow$Figure" "tourLand" "I") (by decide +kernel)) (fun _ h9 => h9) rfl dX0_tourDay_25 ?_
      refine hs_iald (n := 3) (f := σ 5 ((σ 9 f 0).toNatClampNeg)) hx hb hK hW 5 ((σ 9 f 0).toNatClampNeg) (hs_ix5 ((hh f (by omega)).1)) rfl (show ¬ (σ 9 f 8 < 0 ∨ 3 ≤ (σ 9 f 8).toNatClampNeg) from sp_inl c_6 c_14) dX0_tourDay_28 ?_
      refine lv_aload_n hx hb dX0_tourDay_29 rfl (lv_at hl 1 rfl) ?_
      refine hs_calli (As := []) ⟨hx, hb, hml, hown, hts⟩ (kX0_likeness l D d L σ A f hf hh) (cwV 0 hts gX0_tourDay_X0_likeness rfl rfl rfl (by decide +kernel) ⟨Nat.le_of_ble_eq_true rfl, Nat.le_of_ble_eq_true rfl⟩) hK hE hW hS (hs_ix9 hf) (ci := cFi) (r := (RX0, TX0, 11)) rfl rfl rfl rfl hl.1 (Nat.le_of_ble_eq_true rfl) dX0_tourDay_30 ⟨Nat.zero_le _, Nat.zero_le _⟩ rfl (fun r_ τ_ H locs hp hW hS => ?_)
      obtain ⟨rfl, rfl⟩ := hp
      refine lv_imul hx hb dX0_tourDay_33 ?_
      refine lv_sipush (v := 1000) hx hb dX0_tourDay_34 (by decide) ?_
      refine lv_idiv hx hb dX0_tourDay_37 (by decide) ?_
      refine lv_istore_n (lv' := [(1, .int (((σ 5 ((σ 9 f 0).toNatClampNeg) (σ 9 f 8).toNatClampNeg) * (sp_likeness σ f)) / 1000)), (0, .ref (L 9 f))]) hx hb dX0_tourDay_38 rfl hl (by decide) rfl (fun ls hl => ?_)
      refine lv_aload_n hx hb dX0_tourDay_39 rfl (lv_at hl 1 rfl) ?_
      refine lv_aload_n hx hb dX0_tourDay_40 rfl (lv_at hl 1 rfl) ?_
      refine va_get (D := D) (ci := cFi) (C := RX0) (T := TX0) (N := 11) (ws := [(L 9 f, hs_ct d L σ 9 f)]) (v := .int (σ 9 f 6)) hx hb hts (by decide +kernel) hown hK (hW.one (hs_ix9 hf)) 0 rfl rfl 6 (by decide) (hts (.fieldLink RX0 34 "Waxrow$Figure" "wear" "I") (by decide +kernel)) (fun _ h9 => h9) rfl dX0_tourDay_41 ?_
      refine lv_iconst (v := 2) hx hb dX0_tourDay_44 (by decide) ?_
      refine lv_iadd hx hb dX0_tourDay_45 ?_
      refine lv_bipush (v := 99) hx hb dX0_tourDay_46 (by decide) ?_
      refine va_mmin hx hb (hml.trans hl.1.symm) hown (hts (.methodLink RX0 75 Lib.Math.min.name) (by decide +kernel)) (hts (.static Lib.Math.min.name) (by decide +kernel)) (hts (.initialized "java/lang/Math") (by decide +kernel)) (hts (.code Lib.Math.min.name Lib.Math.min.code 2 (some .int)) (by decide +kernel)) (Nat.le_of_ble_eq_true rfl) (Nat.le_of_ble_eq_true rfl) (Nat.zero_le _) (Nat.zero_le _) dX0_tourDay_48 ?_
      refine hs_put (ci := cFi) (C := RX0) (T := TX0) (N := 11) (ty := .int) hx hb hts (by decide +kernel) tyX0 tyX0_ok nmX0 hown hK hW hS 9 f (hs_ix9 hf) rfl rfl 6 (by decide) (hts (.fieldLink RX0 34 "Waxrow$Figure" "wear" "I") (by decide +kernel)) (fun _ h9 => h9) rfl (by decide +kernel) rfl rfl (Nat.le_of_ble_eq_true rfl) (hs_sg σ 9 f 6 (if 99 < ((σ 9 f 6) + 2) then 99 else ((σ 9 f 6) + 2))) (by simp [hs_ct, hs_sg]) (hs_off _ _ _ _ _) dX0_tourDay_51 (fun H locs hW hS => ?_)
      refine lv_aload_n hx hb dX0_tourDay_54 rfl (lv_at hl 1 rfl) ?_
      refine lv_dup hx hb dX0_tourDay_55 rfl ?_
      refine va_get (D := D) (ci := cFi) (C := RX0) (T := TX0) (N := 11) (ws := [(L 9 f, hs_ct d L (hs_sg σ 9 f 6 (if 99 < ((σ 9 f 6) + 2) then 99 else ((σ 9 f 6) + 2))) 9 f)]) (v := .int (σ 9 f 9)) hx hb hts (by decide +kernel) hown hK (hW.one (hs_ix9 hf)) 0 rfl rfl 9 (by decide) (hts (.fieldLink RX0 40 "Waxrow$Figure" "tourDays" "I") (by decide +kernel)) (fun _ h9 => h9) (by simp [hs_sg]) dX0_tourDay_56 ?_
      refine lv_iconst (v := 1) hx hb dX0_tourDay_59 (by decide) ?_
      refine lv_isub hx hb dX0_tourDay_60 ?_
      refine hs_put (ci := cFi) (C := RX0) (T := TX0) (N := 11) (ty := .int) hx hb hts (by decide +kernel) tyX0 tyX0_ok nmX0 hown hK hW hS 9 f (hs_ix9 hf) rfl rfl 9 (by decide) (hts (.fieldLink RX0 40 "Waxrow$Figure" "tourDays" "I") (by decide +kernel)) (fun _ h9 => h9) rfl (by decide +kernel) rfl rfl (Nat.le_of_ble_eq_true rfl) (hs_sg (hs_sg σ 9 f 6 (if 99 < ((σ 9 f 6) + 2) then 99 else ((σ 9 f 6) + 2))) 9 f 9 ((σ 9 f 9) - 1)) (by simp [hs_ct, hs_sg]) (hs_off _ _ _ _ _) dX0_tourDay_61 (fun H locs hW hS => ?_)
      refine lv_aload_n hx hb dX0_tourDay_64 rfl (lv_at hl 1 rfl) ?_
      refine va_get (D := D) (ci := cFi) (C := RX0) (T := TX0) (N := 11) (ws := [(L 9 f, hs_ct d L (hs_sg (hs_sg σ 9 f 6 (if 99 < ((σ 9 f 6) + 2) then 99 else ((σ 9 f 6) + 2))) 9 f 9 ((σ 9 f 9) - 1)) 9 f)]) (v := .int ((σ 9 f 9) - 1)) hx hb hts (by decide +kernel) hown hK (hW.one (hs_ix9 hf)) 0 rfl rfl 9 (by decide) (hts (.fieldLink RX0 40 "Waxrow$Figure" "tourDays" "I") (by decide +kernel)) (fun _ h9 => h9) (by simp [hs_sg]) dX0_tourDay_65 ?_
      refine lv_if_gt (tgt := 81) hx hb dX0_tourDay_68 (by decide) (fun c_68 => ?_) (fun c_68 => ?_)
      · refine lv_iload_n hx hb dX0_tourDay_81 rfl (lv_at hl 0 rfl) ?_
        exact W.iret (v := ((σ 5 ((σ 9 f 0).toNatClampNeg) (σ 9 f 8).toNatClampNeg) * (sp_likeness σ f)) / 1000) hx hb hr (fun t ht hW9 => ⟨⟨(((σ 5 ((σ 9 f 0).toNatClampNeg) (σ 9 f 8).toNatClampNeg) * (sp_likeness σ f)) / 1000), (hs_sg (hs_sg σ 9 f 6 (if 99 < ((σ 9 f 6) + 2) then 99 else ((σ 9 f 6) + 2))) 9 f 9 ((σ 9 f 9) - 1)), rfl, ⟨by first | (simp only [sp_earn, c_6, c_14, eq_self, ↓reduceIte]; done) | (simp [sp_earn, c_6, c_14]; done), by first | (simp only [sp_tour, c_68, eq_self, ↓reduceIte]; done) | (simp [sp_tour, c_68]; done)⟩, ⟨by rw [ht]; exact hW, va_K.moved hW9.alike hK⟩⟩, hS.F ht⟩) hS.2.2 dX0_tourDay_82
      · refine lv_aload_n hx hb dX0_tourDay_71 rfl (lv_at hl 1 rfl) ?_
        refine lv_iconst (v := 0) hx hb dX0_tourDay_72 (by decide) ?_
        refine hs_put (ci := cFi) (C := RX0) (T := TX0) (N := 11) (ty := .int) hx hb hts (by decide +kernel) tyX0 tyX0_ok nmX0 hown hK hW hS 9 f (hs_ix9 hf) rfl rfl 9 (by decide) (hts (.fieldLink RX0 40 "Waxrow$Figure" "tourDays" "I") (by decide +kernel)) (fun _ h9 => h9) rfl (by decide +kernel) rfl rfl (Nat.le_of_ble_eq_true rfl) (hs_sg (hs_sg (hs_sg σ 9 f 6 (if 99 < ((σ 9 f 6) + 2) then 99 else ((σ 9 f 6) + 2))) 9 f 9 ((σ 9 f 9) - 1)) 9 f 9 0) (by simp [hs_ct, hs_sg]) (hs_off _ _ _ _ _) dX0_tourDay_73 (fun H locs hW hS => ?_)
        refine lv_aload_n hx hb dX0_tourDay_76 rfl (lv_at hl 1 rfl) ?_
        refine lv_iconst (v := 5) hx hb dX0_tourDay_77 (by decide) ?_
        refine hs_put (ci := cFi) (C := RX0) (T := TX0) (N := 11) (ty := .int) hx hb hts (by decide +kernel) tyX0 tyX0_ok nmX0 hown hK hW hS 9 f (hs_ix9 hf) rfl rfl 7 (by decide) (hts (.fieldLink RX0 18 "Waxrow$Figure" "place" "I") (by decide +kernel)) (fun _ h9 => h9) rfl (by decide +kernel) rfl rfl (Nat.le_of_ble_eq_true rfl) (hs_sg (hs_sg (hs_sg (hs_sg σ 9 f 6 (if 99 < ((σ 9 f 6) + 2) then 99 else ((σ 9 f 6) + 2))) 9 f 9 ((σ 9 f 9) - 1)) 9 f 9 0) 9 f 7 5) (by simp [hs_ct, hs_sg]) (hs_off _ _ _ _ _) dX0_tourDay_78 (fun H locs hW hS => ?_)
        refine lv_iload_n hx hb dX0_tourDay_81 rfl (lv_at hl 0 rfl) ?_
        exact W.iret (v := ((σ 5 ((σ 9 f 0).toNatClampNeg) (σ 9 f 8).toNatClampNeg) * (sp_likeness σ f)) / 1000) hx hb hr (fun t ht hW9 => ⟨⟨(((σ 5 ((σ 9 f 0).toNatClampNeg) (σ 9 f 8).toNatClampNeg) * (sp_likeness σ f)) / 1000), (hs_sg (hs_sg (hs_sg (hs_sg σ 9 f 6 (if 99 < ((σ 9 f 6) + 2) then 99 else ((σ 9 f 6) + 2))) 9 f 9 ((σ 9 f 9) - 1)) 9 f 9 0) 9 f 7 5), rfl, ⟨by first | (simp only [sp_earn, c_6, c_14, eq_self, ↓reduceIte]; done) | (simp [sp_earn, c_6, c_14]; done), by first | (simp only [sp_tour, c_68, eq_self, ↓reduceIte]; done) | (simp [sp_tour, c_68]; done)⟩, ⟨by rw [ht]; exact hW, va_K.moved hW9.alike hK⟩⟩, hS.F ht⟩) hS.2.2 dX0_tourDay_82
