/-! THE CLASS: heads swapped, fame changed, a room cleaned -/
def sp_swap (σ : hs_St) (f g : Nat) : hs_St := hs_sg (hs_sg (hs_sg (hs_sg σ 9 f 0 (nI (σ 9 g 0).toNatClampNeg)) 9 f 5 (σ 9 g 5)) 9 g 0 (nI (σ 9 f 0).toNatClampNeg)) 9 g 5 (σ 9 f 5)
def sp_news (σ : hs_St) (q : Nat) (y : Int32) : Nat → hs_St
  | 0 => σ
  | n + 1 => hs_sg (sp_news σ q y n) 5 q n (sp_held (sp_news σ q y n 5 q n + y))
def sp_clean (σ : hs_St) (x : Int32) : Nat → hs_St
  | 0 => σ
  | n + 1 => if sp_clean σ x n 9 n 7 = x then hs_sg (sp_clean σ x n) 9 n 6 (if sp_clean σ x n 9 n 6 - 6 < 0 then 0 else sp_clean σ x n 9 n 6 - 6) else sp_clean σ x n
theorem sp_clean_0 (σ : hs_St) (x : Int32) (i j : Nat) : ∀ n, sp_clean σ x n 0 i j = σ 0 i j
  | 0 => rfl
  | n + 1 => by
    have ih := sp_clean_0 σ x i j n
    unfold sp_clean
    split
    · simp only [hs_sg]
      rw [if_neg (by omega)]
      exact ih
    · exact ih
set_option maxHeartbeats 4000000 in
set_option maxRecDepth 100000 in
/-- swapHeadWith -/
theorem kX0_swapHeadWith (l : Launch) (D : va_G) (d : hs_Dm) (L : hs_Lo) (σ : hs_St) (A : Nat → Prop) (f g : Nat) (hf : f < 8) (hg : g < 8) (hgf : ¬ g = f) (hh : hs_hd σ) : hs_Mv l yX0_swapHeadWith wsX0_swapHeadWith ({ frames := 0, cells := 0, slots := 0, locals := 0 }) D d L σ A [.ref (L 9 f), .ref (L 9 g)] (fun τ => sp_swap σ f g = τ) := by
  refine Met.ofW (cc := cX0_swapHeadWith) (maxL := 4) (ret := none) (by decide) rfl ?_
  intro p e s m args below meth c s₁ B hml hv
  obtain ⟨rfl, ⟨hW, hK⟩, hE⟩ := hv
  have hx := B.exec
  have hb := B.bytes
  have hr := B.returns
  have hts := atoms_spec (ws := wsX0_swapHeadWith) B.pre
  have hown : s.vm.findClass RX0 = some m.cls := findClass_of_methodNamed B.named
  have hlocks := B.notSynchronized
  have hS : va_S A s.heap s.heap [] := va_S.rf
  have hW : hs_W D d L σ A s.heap := hW
  have hl := lv_entry ([.ref (L 9 f), .ref (L 9 g)]) (n := 4) (Nat.le_of_ble_eq_true rfl)
  rw [lg_entry_eq]
  generalize (lg_sl ([.ref (L 9 f), .ref (L 9 g)]) ++ List.replicate (4 - (lg_sl ([.ref (L 9 f), .ref (L 9 g)])).length) Slot.unset).toArray = ls at hl ⊢
  have hl : lv_has ls 4 [(0, .ref (L 9 f)), (1, .ref (L 9 g))] := hl
  have hf0 : (σ 9 f 0).toNatClampNeg < 10 := (hh f hf).1
  have hg0 : (σ 9 g 0).toNatClampNeg < 10 := (hh g hg).1
  have hfg : ¬ f = g := fun z => hgf z.symm
  refine lv_aload_n hx hb dX0_swapHeadWith_0 rfl (lv_at hl 0 rfl) ?_
  refine va_get (D := D) (ci := cFi) (C := RX0) (T := TX0) (N := 11) (ws := [(L 9 f, hs_ct d L σ 9 f)]) (v := .ref (L 4 ((σ 9 f 0).toNatClampNeg))) hx hb hts (by decide +kernel) hown hK (hW.one (hs_ix9 hf)) 0 rfl rfl 0 (by decide) (hts (.fieldLink RX0 9 "Waxrow$Figure" "head" "LWaxrow$Person;") (by decide +kernel)) (fun _ h9 => h9) rfl dX0_swapHeadWith_1 ?_
  refine lv_astore_n (lv' := [(2, .ref (L 4 ((σ 9 f 0).toNatClampNeg))), (0, .ref (L 9 f)), (1, .ref (L 9 g))]) hx hb dX0_swapHeadWith_4 rfl hl (by decide) rfl (fun ls hl => ?_)
  refine lv_aload_n hx hb dX0_swapHeadWith_5 rfl (lv_at hl 1 rfl) ?_
  refine va_get (D := D) (ci := cFi) (C := RX0) (T := TX0) (N := 11) (ws := [(L 9 f, hs_ct d L σ 9 f)]) (v := .int (σ 9 f 5)) hx hb hts (by decide +kernel) hown hK (hW.one (hs_ix9 hf)) 0 rfl rfl 5 (by decide) (hts (.fieldLink RX0 31 "Waxrow$Figure" "flaw" "I") (by decide +kernel)) (fun _ h9 => h9) rfl dX0_swapHeadWith_6 ?_
  refine lv_istore_n (lv' := [(3, .int (σ 9 f 5)), (2, .ref (L 4 ((σ 9 f 0).toNatClampNeg))), (0, .ref (L 9 f)), (1, .ref (L 9 g))]) hx hb dX0_swapHeadWith_9 rfl hl (by decide) rfl (fun ls hl => ?_)
  refine lv_aload_n hx hb dX0_swapHeadWith_10 rfl (lv_at hl 2 rfl) ?_
  refine lv_aload_n hx hb dX0_swapHeadWith_11 rfl (lv_at hl 3 rfl) ?_
  refine va_get (D := D) (ci := cFi) (C := RX0) (T := TX0) (N := 11) (ws := [(L 9 g, hs_ct d L σ 9 g)]) (v := .ref (L 4 ((σ 9 g 0).toNatClampNeg))) hx hb hts (by decide +kernel) hown hK (hW.one (hs_ix9 hg)) 0 rfl rfl 0 (by decide) (hts (.fieldLink RX0 9 "Waxrow$Figure" "head" "LWaxrow$Person;") (by decide +kernel)) (fun _ h9 => h9) rfl dX0_swapHeadWith_12 ?_
  refine hs_put (ci := cFi) (C := RX0) (T := TX0) (N := 11) (ty := (.object "Waxrow$Person")) hx hb hts (by decide +kernel) tyX0 tyX0_ok nmX0 hown hK hW hS 9 f (hs_ix9 hf) rfl rfl 0 (by decide) (hts (.fieldLink RX0 9 "Waxrow$Figure" "head" "LWaxrow$Person;") (by decide +kernel)) (fun _ h9 => h9) rfl (by decide +kernel) rfl rfl (Nat.le_of_ble_eq_true rfl) (hs_sg σ 9 f 0 (nI ((σ 9 g 0).toNatClampNeg))) (by simp [hs_ct, hs_sg, nI_clamp (show (σ 9 g 0).toNatClampNeg < 2 ^ 31 by omega)]) (hs_off _ _ _ _ _) dX0_swapHeadWith_15 (fun H locs hW hS => ?_)
  refine lv_aload_n hx hb dX0_swapHeadWith_18 rfl (lv_at hl 2 rfl) ?_
  refine lv_aload_n hx hb dX0_swapHeadWith_19 rfl (lv_at hl 3 rfl) ?_
  refine va_get (D := D) (ci := cFi) (C := RX0) (T := TX0) (N := 11) (ws := [(L 9 g, hs_ct d L (hs_sg σ 9 f 0 (nI ((σ 9 g 0).toNatClampNeg))) 9 g)]) (v := .int (σ 9 g 5)) hx hb hts (by decide +kernel) hown hK (hW.one (hs_ix9 hg)) 0 rfl rfl 5 (by decide) (hts (.fieldLink RX0 31 "Waxrow$Figure" "flaw" "I") (by decide +kernel)) (fun _ h9 => h9) (by simp [hs_sg, hgf, hfg]) dX0_swapHeadWith_20 ?_
  refine hs_put (ci := cFi) (C := RX0) (T := TX0) (N := 11) (ty := .int) hx hb hts (by decide +kernel) tyX0 tyX0_ok nmX0 hown hK hW hS 9 f (hs_ix9 hf) rfl rfl 5 (by decide) (hts (.fieldLink RX0 31 "Waxrow$Figure" "flaw" "I") (by decide +kernel)) (fun _ h9 => h9) rfl (by decide +kernel) rfl rfl (Nat.le_of_ble_eq_true rfl) (hs_sg (hs_sg σ 9 f 0 (nI ((σ 9 g 0).toNatClampNeg))) 9 f 5 (σ 9 g 5)) (by simp [hs_ct, hs_sg]) (hs_off _ _ _ _ _) dX0_swapHeadWith_23 (fun H locs hW hS => ?_)
  refine lv_aload_n hx hb dX0_swapHeadWith_26 rfl (lv_at hl 3 rfl) ?_
  refine lv_aload_n hx hb dX0_swapHeadWith_27 rfl (lv_at hl 1 rfl) ?_
  refine hs_put (ci := cFi) (C := RX0) (T := TX0) (N := 11) (ty := (.object "Waxrow$Person")) hx hb hts (by decide +kernel) tyX0 tyX0_ok nmX0 hown hK hW hS 9 g (hs_ix9 hg) rfl rfl 0 (by decide) (hts (.fieldLink RX0 9 "Waxrow$Figure" "head" "LWaxrow$Person;") (by decide +kernel)) (fun _ h9 => h9) rfl (by decide +kernel) rfl rfl (Nat.le_of_ble_eq_true rfl) (hs_sg (hs_sg (hs_sg σ 9 f 0 (nI ((σ 9 g 0).toNatClampNeg))) 9 f 5 (σ 9 g 5)) 9 g 0 (nI ((σ 9 f 0).toNatClampNeg))) (by simp [hs_ct, hs_sg, hgf, hfg, nI_clamp (show (σ 9 f 0).toNatClampNeg < 2 ^ 31 by omega)]) (hs_off _ _ _ _ _) dX0_swapHeadWith_28 (fun H locs hW hS => ?_)
  refine lv_aload_n hx hb dX0_swapHeadWith_31 rfl (lv_at hl 3 rfl) ?_
  refine lv_iload_n hx hb dX0_swapHeadWith_32 rfl (lv_at hl 0 rfl) ?_
  refine hs_put (ci := cFi) (C := RX0) (T := TX0) (N := 11) (ty := .int) hx hb hts (by decide +kernel) tyX0 tyX0_ok nmX0 hown hK hW hS 9 g (hs_ix9 hg) rfl rfl 5 (by decide) (hts (.fieldLink RX0 31 "Waxrow$Figure" "flaw" "I") (by decide +kernel)) (fun _ h9 => h9) rfl (by decide +kernel) rfl rfl (Nat.le_of_ble_eq_true rfl) (hs_sg (hs_sg (hs_sg (hs_sg σ 9 f 0 (nI ((σ 9 g 0).toNatClampNeg))) 9 f 5 (σ 9 g 5)) 9 g 0 (nI ((σ 9 f 0).toNatClampNeg))) 9 g 5 (σ 9 f 5)) (by simp [hs_ct, hs_sg]) (hs_off _ _ _ _ _) dX0_swapHeadWith_33 (fun H locs hW hS => ?_)
  exact W.vret hx hb hr (fun t ht hW9 => ⟨⟨(hs_sg (hs_sg (hs_sg (hs_sg σ 9 f 0 (nI ((σ 9 g 0).toNatClampNeg))) 9 f 5 (σ 9 g 5)) 9 g 0 (nI ((σ 9 f 0).toNatClampNeg))) 9 g 5 (σ 9 f 5)), rfl, rfl, ⟨by rw [ht]; exact hW, va_K.moved hW9.alike hK⟩⟩, hS.F ht⟩) hS.2.2 dX0_swapHeadWith_36
set_option maxHeartbeats 4000000 in
set_option maxRecDepth 100000 in
/-- changeFame: the loop at 2 -/
theorem lkX2_changeFame (l : Launch) (D : va_G) (d : hs_Dm) (L : hs_Lo) (σ : hs_St) (A : Nat → Prop) {p : Program} {e : Env} {s : State} {m : MethodId} {args : Array Value} {below : List Frame} {meth : Method} {c : Code} (q : Nat) (hq : q < 10) (y : Int32)  (hx : p.tables.exec = Jvm.exec) (hb : c.code = cX2_changeFame) (hr : meth.sig.returnType = none) (hts : ∀ w ∈ wsX2_changeFame, w.before args s = true) (hown : s.vm.findClass RX2 = some m.cls) (hlocks : meth.locks = false) (hml : c.maxLocals = 3) (hK : va_K D vwCl (hs_ty d) s) (hE : hs_E d.2.2.2.2 A s)  : ∀ (k n : Nat), n + k = 3 → ∀ (H : Heap) (locs : List Loc), hs_W D d L (sp_news σ q y n) A H → va_S A s.heap H locs → ∀ ls : Array Slot, lv_has ls 3 [(0, .ref (L 4 q)), (1, .int y), (2, .int (nI n))] → W p l e ({ frames := 1, cells := 0, slots := 0, locals := 20 } : Room) s m args below meth c H locs 0 0 (MQ below (va_Qv (fun τ => sp_news σ q y 3 = τ) (fun τ t => hs_B D d L τ A t) A) args s 0 0 A) (F0 m 2 ls []) := by
  intro k
  induction k with
  | zero =>
    intro n hn H locs hW hS ls hl
    have hnN : n = 3 := by omega
    refine lv_iload_n hx hb dX2_changeFame_2 rfl (lv_at hl 2 rfl) ?_
    refine lv_iconst (v := 3) hx hb dX2_changeFame_3 (by decide) ?_
    refine lv_icmp_ge (tgt := 30) hx hb dX2_changeFame_4 (by decide) (fun c_4 => ?_) (fun c_4 => ?_)
    · exact W.vret hx hb hr (fun t ht hW9 => ⟨⟨(sp_news σ q y n), rfl, (by rw [hnN]), ⟨by rw [ht]; exact hW, va_K.moved hW9.alike hK⟩⟩, hS.F ht⟩) hS.2.2 dX2_changeFame_30
    · exact absurd (by rw [sp_three, hnN]; exact nI_le (Nat.le_refl _) (by omega)) c_4
  | succ k ih =>
    intro n hn H locs hW hS ls hl
    have hnN : n < 3 := by omega
    refine lv_iload_n hx hb dX2_changeFame_2 rfl (lv_at hl 2 rfl) ?_
    refine lv_iconst (v := 3) hx hb dX2_changeFame_3 (by decide) ?_
    refine lv_icmp_ge (tgt := 30) hx hb dX2_changeFame_4 (by decide) (fun c_4 => ?_) (fun c_4 => ?_)
    · exact absurd (by rw [sp_three] at c_4; exact c_4) (nI_ge hnN (by omega))
    · refine lv_aload_n hx hb dX2_changeFame_7 rfl (lv_at hl 0 rfl) ?_
      refine va_get (D := D) (ci := cPe) (C := RX2) (T := TX2) (N := 8) (ws := [(L 4 q, hs_ct d L (sp_news σ q y n) 4 q)]) (v := .ref (L 5 q)) hx hb hts (by decide +kernel) hown hK (hW.one (hs_ix4 hq)) 0 rfl rfl 1 (by decide) (hts (.fieldLink RX2 15 "Waxrow$Person" "fame" "[I") (by decide +kernel)) (fun _ h9 => h9) rfl dX2_changeFame_8 ?_
      refine lv_iload_n hx hb dX2_changeFame_11 rfl (lv_at hl 2 rfl) ?_
      refine lv_aload_n hx hb dX2_changeFame_12 rfl (lv_at hl 0 rfl) ?_
      refine va_get (D := D) (ci := cPe) (C := RX2) (T := TX2) (N := 8) (ws := [(L 4 q, hs_ct d L (sp_news σ q y n) 4 q)]) (v := .ref (L 5 q)) hx hb hts (by decide +kernel) hown hK (hW.one (hs_ix4 hq)) 0 rfl rfl 1 (by decide) (hts (.fieldLink RX2 15 "Waxrow$Person" "fame" "[I") (by decide +kernel)) (fun _ h9 => h9) rfl dX2_changeFame_13 ?_
      refine lv_iload_n hx hb dX2_changeFame_16 rfl (lv_at hl 2 rfl) ?_
      refine hs_iald (n := 3) (f := (sp_news σ q y n) 5 q) hx hb hK hW 5 q (hs_ix5 hq) rfl (vp_in_nI (show n < 3 by omega) (by decide)) dX2_changeFame_17 ?_
      rw [show (sp_news σ q y n) 5 q (nI n : Int32).toNatClampNeg = (sp_news σ q y n) 5 q n from by simp [hs_sg, nI_clamp (show n < 2 ^ 31 by omega)]]
      refine lv_iload_n hx hb dX2_changeFame_18 rfl (lv_at hl 1 rfl) ?_
      refine lv_iadd hx hb dX2_changeFame_19 ?_
      refine hs_runi (As := [.int (((sp_news σ q y n) 5 q n) + y)]) ⟨hx, hb, hml, hown, hts⟩ (kX2_heldFame l D d L (sp_news σ q y n) A (((sp_news σ q y n) 5 q n) + y)) (va_cwS 1 hts gX2_changeFame_X2_heldFame rfl rfl rfl (by decide +kernel) ⟨Nat.le_of_ble_eq_true rfl, Nat.le_of_ble_eq_true rfl⟩) hK hE hW hS rfl hl.1 (Nat.le_of_ble_eq_true rfl) dX2_changeFame_20 ⟨Nat.zero_le _, Nat.zero_le _⟩ rfl (fun r_ τ_ H locs hp hW hS => ?_)
      obtain ⟨rfl, rfl⟩ := hp
      refine hs_iast (n := 3) (f := (sp_news σ q y n) 5 q) hx hb hK hW hS 5 q (hs_ix5 hq) rfl (vp_in_nI (show n < 3 by omega) (by decide)) (hs_sg (sp_news σ q y n) 5 q n (sp_held (((sp_news σ q y n) 5 q n) + y))) (by simp only [hs_ct, hs_arr, nI_clamp (show n < 2 ^ 31 by omega)]) (hs_off _ _ _ _ _) dX2_changeFame_23 (fun H locs hW hS => ?_)
      refine lv_iinc (v := nI (n + 1)) (lv' := [(2, .int (nI (n + 1))), (0, .ref (L 4 q)), (1, .int y)]) hx hb dX2_changeFame_24 hl (k := 2) rfl (nI_succ _).symm (by decide) rfl (fun ls hl => ?_)
      refine lv_goto (tgt := 2) hx hb dX2_changeFame_27 (by decide) ?_
      have e_s : (hs_sg (sp_news σ q y n) 5 q n (sp_held (((sp_news σ q y n) 5 q n) + y))) = (sp_news σ q y (n + 1)) := rfl
      rw [e_s] at hW
      exact ih (n + 1) (by omega) _ _ hW hS ls (lv_sub hl [1, 2, 0] rfl)
set_option maxHeartbeats 4000000 in
set_option maxRecDepth 100000 in
/-- changeFame -/
theorem kX2_changeFame (l : Launch) (D : va_G) (d : hs_Dm) (L : hs_Lo) (σ : hs_St) (A : Nat → Prop) (q : Nat) (hq : q < 10) (y : Int32) : hs_Mv l yX2_changeFame wsX2_changeFame ({ frames := 1, cells := 0, slots := 0, locals := 20 }) D d L σ A [.ref (L 4 q), .int y] (fun τ => sp_news σ q y 3 = τ) := by
  refine Met.ofW (cc := cX2_changeFame) (maxL := 3) (ret := none) (by decide) rfl ?_
  intro p e s m args below meth c s₁ B hml hv
  obtain ⟨rfl, ⟨hW, hK⟩, hE⟩ := hv
  have hx := B.exec
  have hb := B.bytes
  have hr := B.returns
  have hts := atoms_spec (ws := wsX2_changeFame) B.pre
  have hown : s.vm.findClass RX2 = some m.cls := findClass_of_methodNamed B.named
  have hlocks := B.notSynchronized
  have hS : va_S A s.heap s.heap [] := va_S.rf
  have hW : hs_W D d L σ A s.heap := hW
  have hl := lv_entry ([.ref (L 4 q), .int y]) (n := 3) (Nat.le_of_ble_eq_true rfl)
  rw [lg_entry_eq]
  generalize (lg_sl ([.ref (L 4 q), .int y]) ++ List.replicate (3 - (lg_sl ([.ref (L 4 q), .int y])).length) Slot.unset).toArray = ls at hl ⊢
  have hl : lv_has ls 3 [(0, .ref (L 4 q)), (1, .int y)] := hl
  refine lv_iconst (v := 0) hx hb dX2_changeFame_0 (by decide) ?_
  refine lv_istore_n (lv' := [(2, .int 0), (0, .ref (L 4 q)), (1, .int y)]) hx hb dX2_changeFame_1 rfl hl (by decide) rfl (fun ls hl => ?_)
  exact lkX2_changeFame l D d L σ A q hq y hx hb hr hts hown hlocks hml hK hE  3 0 (by omega) _ _ hW hS ls (lv_sub hl [1, 2, 0] rfl)
set_option maxHeartbeats 4000000 in
set_option maxRecDepth 100000 in
/-- cleanFiguresIn: the loop at 2 -/
theorem lkX1_cleanFiguresIn (l : Launch) (D : va_G) (d : hs_Dm) (L : hs_Lo) (σ : hs_St) (A : Nat → Prop) {p : Program} {e : Env} {s : State} {m : MethodId} {args : Array Value} {below : List Frame} {meth : Method} {c : Code} (x : Int32) (F : Nat) (hF : σ 0 0 4 = nI F) (hF8 : F ≤ 8)  (hx : p.tables.exec = Jvm.exec) (hb : c.code = cX1_cleanFiguresIn) (hr : meth.sig.returnType = none) (hts : ∀ w ∈ wsX1_cleanFiguresIn, w.before args s = true) (hown : s.vm.findClass RX1 = some m.cls) (hlocks : meth.locks = false) (hml : c.maxLocals = 4) (hK : va_K D vwCl (hs_ty d) s) (hE : hs_E d.2.2.2.2 A s)  : ∀ (k n : Nat), n + k = F → ∀ (H : Heap) (locs : List Loc), hs_W D d L (sp_clean σ x n) A H → va_S A s.heap H locs → ∀ ls : Array Slot, lv_has ls 4 [(0, .ref (L 0 0)), (1, .int x), (2, .int (nI n))] → W p l e ({ frames := 1, cells := 0, slots := 0, locals := 20 } : Room) s m args below meth c H locs 0 0 (MQ below (va_Qv (fun τ => sp_clean σ x F = τ) (fun τ t => hs_B D d L τ A t) A) args s 0 0 A) (F0 m 2 ls []) := by
  intro k
  induction k with
  | zero =>
    intro n hn H locs hW hS ls hl
    have hnN : n = F := by omega
    refine lv_iload_n hx hb dX1_cleanFiguresIn_2 rfl (lv_at hl 2 rfl) ?_
    refine lv_aload_n hx hb dX1_cleanFiguresIn_3 rfl (lv_at hl 0 rfl) ?_
    refine va_get (D := D) (ci := cHo) (C := RX1) (T := TX1) (N := 11) (ws := [(L 0 0, hs_ct d L (sp_clean σ x n) 0 0)]) (v := .int ((sp_clean σ x n) 0 0 4)) hx hb hts (by decide +kernel) hown hK (hW.one hs_ix0) 0 rfl rfl 4 (by decide) (hts (.fieldLink RX1 49 "Waxrow$House" "figureCount" "I") (by decide +kernel)) (fun _ h9 => h9) rfl dX1_cleanFiguresIn_4 ?_
    refine lv_icmp_ge (tgt := 46) hx hb dX1_cleanFiguresIn_7 (by decide) (fun c_7 => ?_) (fun c_7 => ?_)
    · exact W.vret hx hb hr (fun t ht hW9 => ⟨⟨(sp_clean σ x n), rfl, (by rw [hnN]), ⟨by rw [ht]; exact hW, va_K.moved hW9.alike hK⟩⟩, hS.F ht⟩) hS.2.2 dX1_cleanFiguresIn_46
    · exact absurd (by rw [(show sp_clean σ x n 0 0 4 = nI F by rw [sp_clean_0]; exact hF), hnN]; exact nI_le (Nat.le_refl _) (by omega)) c_7
  | succ k ih =>
    intro n hn H locs hW hS ls hl
    have hnN : n < F := by omega
    refine lv_iload_n hx hb dX1_cleanFiguresIn_2 rfl (lv_at hl 2 rfl) ?_
    refine lv_aload_n hx hb dX1_cleanFiguresIn_3 rfl (lv_at hl 0 rfl) ?_
    refine va_get (D := D) (ci := cHo) (C := RX1) (T := TX1) (N := 11) (ws := [(L 0 0, hs_ct d L (sp_clean σ x n) 0 0)]) (v := .int ((sp_clean σ x n) 0 0 4)) hx hb hts (by decide +kernel) hown hK (hW.one hs_ix0) 0 rfl rfl 4 (by decide) (hts (.fieldLink RX1 49 "Waxrow$House" "figureCount" "I") (by decide +kernel)) (fun _ h9 => h9) rfl dX1_cleanFiguresIn_4 ?_
    refine lv_icmp_ge (tgt := 46) hx hb dX1_cleanFiguresIn_7 (by decide) (fun c_7 => ?_) (fun c_7 => ?_)
    · exact absurd (by rw [(show sp_clean σ x n 0 0 4 = nI F by rw [sp_clean_0]; exact hF)] at c_7; exact c_7) (nI_ge hnN (by omega))
    · refine lv_aload_n hx hb dX1_cleanFiguresIn_10 rfl (lv_at hl 0 rfl) ?_
      refine va_get (D := D) (ci := cHo) (C := RX1) (T := TX1) (N := 11) (ws := [(L 0 0, hs_ct d L (sp_clean σ x n) 0 0)]) (v := .ref (L 2 0)) hx hb hts (by decide +kernel) hown hK (hW.one hs_ix0) 0 rfl rfl 1 (by decide) (hts (.fieldLink RX1 22 "Waxrow$House" "figures" "[LWaxrow$Figure;") (by decide +kernel)) (fun _ h9 => h9) rfl dX1_cleanFiguresIn_11 ?_
      refine lv_iload_n hx hb dX1_cleanFiguresIn_14 rfl (lv_at hl 2 rfl) ?_
      refine hs_aald (n := 8) (g := fun j => L 9 j) hx hb hK hW 2 2 hs_ix2 rfl rfl (vp_in_nI (show n < 8 by omega) (by decide)) dX1_cleanFiguresIn_15 ?_
      rw [nI_clamp (show n < 2 ^ 31 by omega)]
      refine lv_astore_n (lv' := [(3, .ref (L 9 n)), (0, .ref (L 0 0)), (1, .int x), (2, .int (nI n))]) hx hb dX1_cleanFiguresIn_16 rfl hl (by decide) rfl (fun ls hl => ?_)
      refine lv_aload_n hx hb dX1_cleanFiguresIn_17 rfl (lv_at hl 0 rfl) ?_
      refine va_get (D := D) (ci := cFi) (C := RX0) (T := TX0) (N := 11) (ws := [(L 9 n, hs_ct d L (sp_clean σ x n) 9 n)]) (v := .int ((sp_clean σ x n) 9 n 7)) hx hb hts (by decide +kernel) hown hK (hW.one (hs_ix9 (show n < 8 by omega))) 0 rfl rfl 7 (by decide) (hts (.fieldLink RX1 107 "Waxrow$Figure" "place" "I") (by decide +kernel)) (fun _ h9 => h9) rfl dX1_cleanFiguresIn_18 ?_
      refine lv_iload_n hx hb dX1_cleanFiguresIn_21 rfl (lv_at hl 2 rfl) ?_
      refine lv_icmp_ne (tgt := 40) hx hb dX1_cleanFiguresIn_22 (by decide) (fun c_22 => ?_) (fun c_22 => ?_)
      · refine lv_iinc (v := nI (n + 1)) (lv' := [(2, .int (nI (n + 1))), (3, .ref (L 9 n)), (0, .ref (L 0 0)), (1, .int x)]) hx hb dX1_cleanFiguresIn_40 hl (k := 3) rfl (nI_succ _).symm (by decide) rfl (fun ls hl => ?_)
        refine lv_goto (tgt := 2) hx hb dX1_cleanFiguresIn_43 (by decide) ?_
        have e_q : sp_clean σ x (n + 1) = (sp_clean σ x n) := by first | (simp only [sp_clean, c_22, eq_self, ↓reduceIte]; done) | (simp [sp_clean, c_22]; done)
        rw [← e_q] at hW
        exact ih (n + 1) (by omega) _ _ hW hS ls (lv_sub hl [2, 3, 0] rfl)
      · refine lv_aload_n hx hb dX1_cleanFiguresIn_25 rfl (lv_at hl 0 rfl) ?_
        refine lv_aload_n hx hb dX1_cleanFiguresIn_26 rfl (lv_at hl 0 rfl) ?_
        refine va_get (D := D) (ci := cFi) (C := RX0) (T := TX0) (N := 11) (ws := [(L 9 n, hs_ct d L (sp_clean σ x n) 9 n)]) (v := .int ((sp_clean σ x n) 9 n 6)) hx hb hts (by decide +kernel) hown hK (hW.one (hs_ix9 (show n < 8 by omega))) 0 rfl rfl 6 (by decide) (hts (.fieldLink RX1 110 "Waxrow$Figure" "wear" "I") (by decide +kernel)) (fun _ h9 => h9) rfl dX1_cleanFiguresIn_27 ?_
        refine lv_bipush (v := 6) hx hb dX1_cleanFiguresIn_30 (by decide) ?_
        refine lv_isub hx hb dX1_cleanFiguresIn_32 ?_
        refine lv_iconst (v := 0) hx hb dX1_cleanFiguresIn_33 (by decide) ?_
        refine va_mmax hx hb (hml.trans hl.1.symm) hown (hts (.methodLink RX1 113 Lib.Math.max.name) (by decide +kernel)) (hts (.static Lib.Math.max.name) (by decide +kernel)) (hts (.initialized "java/lang/Math") (by decide +kernel)) (hts (.code Lib.Math.max.name Lib.Math.max.code 2 (some .int)) (by decide +kernel)) (Nat.le_of_ble_eq_true rfl) (Nat.le_of_ble_eq_true rfl) (Nat.zero_le _) (Nat.zero_le _) dX1_cleanFiguresIn_34 ?_
        refine hs_put (ci := cFi) (C := RX0) (T := TX0) (N := 11) (ty := .int) hx hb hts (by decide +kernel) tyX0 tyX0_ok nmX0 hown hK hW hS 9 n (hs_ix9 (show n < 8 by omega)) rfl rfl 6 (by decide) (hts (.fieldLink RX1 110 "Waxrow$Figure" "wear" "I") (by decide +kernel)) (fun _ h9 => h9) rfl (by decide +kernel) rfl rfl (Nat.le_of_ble_eq_true rfl) (hs_sg (sp_clean σ x n) 9 n 6 (if (((sp_clean σ x n) 9 n 6) - 6) < 0 then 0 else (((sp_clean σ x n) 9 n 6) - 6))) (by simp [hs_ct, hs_sg]) (hs_off _ _ _ _ _) dX1_cleanFiguresIn_37 (fun H locs hW hS => ?_)
        refine lv_iinc (v := nI (n + 1)) (lv' := [(2, .int (nI (n + 1))), (3, .ref (L 9 n)), (0, .ref (L 0 0)), (1, .int x)]) hx hb dX1_cleanFiguresIn_40 hl (k := 3) rfl (nI_succ _).symm (by decide) rfl (fun ls hl => ?_)
        refine lv_goto (tgt := 2) hx hb dX1_cleanFiguresIn_43 (by decide) ?_
        have e_q : sp_clean σ x (n + 1) = (hs_sg (sp_clean σ x n) 9 n 6 (if (((sp_clean σ x n) 9 n 6) - 6) < 0 then 0 else (((sp_clean σ x n) 9 n 6) - 6))) := by first | (simp only [sp_clean, c_22, eq_self, ↓reduceIte]; done) | (simp [sp_clean, c_22]; done)
        rw [← e_q] at hW
        exact ih (n + 1) (by omega) _ _ hW hS ls (lv_sub hl [2, 3, 0] rfl)
set_option maxHeartbeats 4000000 in
set_option maxRecDepth 100000 in
/-- cleanFiguresIn -/
theorem kX1_cleanFiguresIn (l : Launch) (D : va_G) (d : hs_Dm) (L : hs_Lo) (σ : hs_St) (A : Nat → Prop) (x : Int32) (F : Nat) (hF : σ 0 0 4 = nI F) (hF8 : F ≤ 8) : hs_Mv l yX1_cleanFiguresIn wsX1_cleanFiguresIn ({ frames := 1, cells := 0, slots := 0, locals := 20 }) D d L σ A [.ref (L 0 0), .int x] (fun τ => sp_clean σ x F = τ) := by
  refine Met.ofW (cc := cX1_cleanFiguresIn) (maxL := 4) (ret := none) (by decide) rfl ?_
  intro p e s m args below meth c s₁ B hml hv
  obtain ⟨rfl, ⟨hW, hK⟩, hE⟩ := hv
  have hx := B.exec
  have hb := B.bytes
  have hr := B.returns
  have hts := atoms_spec (ws := wsX1_cleanFiguresIn) B.pre
  have hown : s.vm.findClass RX1 = some m.cls := findClass_of_methodNamed B.named
  have hlocks := B.notSynchronized
  have hS : va_S A s.heap s.heap [] := va_S.rf
  have hW : hs_W D d L σ A s.heap := hW
  have hl := lv_entry ([.ref (L 0 0), .int x]) (n := 4) (Nat.le_of_ble_eq_true rfl)
  rw [lg_entry_eq]
  generalize (lg_sl ([.ref (L 0 0), .int x]) ++ List.replicate (4 - (lg_sl ([.ref (L 0 0), .int x])).length) Slot.unset).toArray = ls at hl ⊢
  have hl : lv_has ls 4 [(0, .ref (L 0 0)), (1, .int x)] := hl
  refine lv_iconst (v := 0) hx hb dX1_cleanFiguresIn_0 (by decide) ?_
  refine lv_istore_n (lv' := [(2, .int 0), (0, .ref (L 0 0)), (1, .int x)]) hx hb dX1_cleanFiguresIn_1 rfl hl (by decide) rfl (fun ls hl => ?_)
  exact lkX1_cleanFiguresIn l D d L σ A x F hF hF8 hx hb hr hts hown hlocks hml hK hE  F 0 (by omega) _ _ hW hS ls (lv_sub hl [1, 2, 0] rfl)
set_option maxHeartbeats 4000000 in
set_option maxRecDepth 100000 in
/-- news -/
theorem kX4_news (l : Launch) (D : va_G) (d : hs_Dm) (L : hs_Lo) (σ : hs_St) (A : Nat → Prop) (w : Nat) (L2 : hs_Lo) (hwA : ¬ A w) (P F R : Nat) (hok : hs_ok P F R σ) (q : Nat) (hq : q < P) (y : Int32) (hy0 : ¬ y < -500) (hy9 : y ≤ 500) : wx_Mi l yX4_news wsX4_news ({ frames := 3, cells := 0, slots := 0, locals := 80 }) D d w L L2 σ A [.ref w, .int (nI q), .int y] (fun r τ => sp_news σ q y 3 5 q 0 = r ∧ sp_news σ q y 3 = τ) := by
  refine Met.ofW (cc := cX4_news) (maxL := 4) (ret := (some .int)) (by decide) rfl ?_
  intro p e s m args below meth c s₁ B hml hv
  obtain ⟨rfl, ⟨⟨hW, hK⟩, hX⟩, hV⟩ := hv
  have hE := hX.1
  have hx := B.exec
  have hb := B.bytes
  have hr := B.returns
  have hts := atoms_spec (ws := wsX4_news) B.pre
  have hown : s.vm.findClass RX4 = some m.cls := findClass_of_methodNamed B.named
  have hlocks := B.notSynchronized
  have hS : va_S A s.heap s.heap [] := va_S.rf
  have hW : hs_W D d L σ A s.heap := hW
  have hl := lv_entry ([.ref w, .int (nI q), .int y]) (n := 4) (Nat.le_of_ble_eq_true rfl)
  rw [lg_entry_eq]
  generalize (lg_sl ([.ref w, .int (nI q), .int y]) ++ List.replicate (4 - (lg_sl ([.ref w, .int (nI q), .int y])).length) Slot.unset).toArray = ls at hl ⊢
  have hl : lv_has ls 4 [(0, .ref w), (1, .int (nI q)), (2, .int y)] := hl
  have h10 := hok.1
  have h8 := hok.2.1
  have h5 := hok.2.2.1
  have hd_ := hok.hd
  refine lv_aload_n hx hb dX4_news_0 rfl (lv_at hl 0 rfl) ?_
  refine va_get (D := D) (ci := cWx) (C := RX4) (T := TX4) (N := 2) (ws := [(w, .inr (cWx, [.ref (L 0 0), .ref (L2 0 0)]))]) (v := .ref (L 0 0)) hx hb hts (by decide +kernel) hown hK (wx_one hV hS hwA) 0 rfl rfl 0 (by decide) (hts (.fieldLink RX4 10 "Waxrow" "house" "LWaxrow$House;") (by decide +kernel)) (fun _ h9 => h9) rfl dX4_news_1 ?_
  refine lv_iload_n hx hb dX4_news_4 rfl (lv_at hl 1 rfl) ?_
  refine hs_callr (As := [.int (nI q)]) ⟨hx, hb, hml, hown, hts⟩ (kX1_personAt l D d L σ A q P hok.hP hq hok.1) (cwV 1 hts gX4_news_X1_personAt rfl rfl rfl (by decide +kernel) ⟨Nat.le_of_ble_eq_true rfl, Nat.le_of_ble_eq_true rfl⟩) hK hE hW hS hs_ix0 (ci := cHo) (r := (RX1, TX1, 11)) rfl rfl rfl rfl hl.1 (Nat.le_of_ble_eq_true rfl) dX4_news_5 ⟨Nat.zero_le _, Nat.zero_le _⟩ rfl (fun H locs hW hS => ?_)
  refine lv_astore_n (lv' := [(3, .ref (L 4 q)), (0, .ref w), (1, .int (nI q)), (2, .int y)]) hx hb dX4_news_8 rfl hl (by decide) rfl (fun ls hl => ?_)
  refine lv_iload_n hx hb dX4_news_9 rfl (lv_at hl 3 rfl) ?_
  refine lv_sipush (v := (-500)) hx hb dX4_news_10 (by decide) ?_
  refine lv_sipush (v := 500) hx hb dX4_news_13 (by decide) ?_
  refine hs_runv (As := [.int y, .int (-500), .int 500]) ⟨hx, hb, hml, hown, hts⟩ (kX4_checkArgument l D d L σ A y (-500) 500 hy0 hy9) (va_cwS 3 hts gX4_news_X4_checkArgument rfl rfl rfl (by decide +kernel) ⟨Nat.le_of_ble_eq_true rfl, Nat.le_of_ble_eq_true rfl⟩) hK hE hW hS rfl hl.1 (Nat.le_of_ble_eq_true rfl) dX4_news_16 ⟨Nat.zero_le _, Nat.zero_le _⟩ rfl (fun τ_ H locs hp hW hS => ?_)
  obtain rfl := hp
  refine lv_aload_n hx hb dX4_news_19 rfl (lv_at hl 0 rfl) ?_
  refine lv_iload_n hx hb dX4_news_20 rfl (lv_at hl 3 rfl) ?_
  refine hs_callv (As := [.int y]) ⟨hx, hb, hml, hown, hts⟩ (kX2_changeFame l D d L σ A q (show q < 10 by omega) y) (cwV 1 hts gX4_news_X2_changeFame rfl rfl rfl (by decide +kernel) ⟨Nat.le_of_ble_eq_true rfl, Nat.le_of_ble_eq_true rfl⟩) hK hE hW hS (hs_ix4 (show q < 10 by omega)) (ci := cPe) (r := (RX2, TX2, 8)) rfl rfl rfl rfl hl.1 (Nat.le_of_ble_eq_true rfl) dX4_news_21 ⟨Nat.zero_le _, Nat.zero_le _⟩ rfl (fun τ_ H locs hp hW hS => ?_)
  obtain rfl := hp
  refine lv_aload_n hx hb dX4_news_24 rfl (lv_at hl 0 rfl) ?_
  refine va_get (D := D) (ci := cPe) (C := RX2) (T := TX2) (N := 8) (ws := [(L 4 q, hs_ct d L (sp_news σ q y 3) 4 q)]) (v := .ref (L 5 q)) hx hb hts (by decide +kernel) hown hK (hW.one (hs_ix4 (show q < 10 by omega))) 0 rfl rfl 1 (by decide) (hts (.fieldLink RX4 53 "Waxrow$Person" "fame" "[I") (by decide +kernel)) (fun _ h9 => h9) rfl dX4_news_25 ?_
  refine lv_iconst (v := 0) hx hb dX4_news_28 (by decide) ?_
  refine hs_iald (n := 3) (f := (sp_news σ q y 3) 5 q) hx hb hK hW 5 q (hs_ix5 (show q < 10 by omega)) rfl (show ¬ ((0 : Int32) < 0 ∨ 3 ≤ (0 : Int32).toNatClampNeg) by decide) dX4_news_29 ?_
  rw [show (sp_news σ q y 3) 5 q (0 : Int32).toNatClampNeg = (sp_news σ q y 3) 5 q 0 from congrArg ((sp_news σ q y 3) 5 q) (show (0 : Int32).toNatClampNeg = 0 from rfl)]
  exact W.iret (v := (sp_news σ q y 3) 5 q 0) hx hb hr (fun t ht hW9 => ⟨⟨((sp_news σ q y 3) 5 q 0), (sp_news σ q y 3), rfl, ⟨rfl, rfl⟩, ⟨by rw [ht]; exact hW, va_K.moved hW9.alike hK⟩⟩, hS.F ht⟩) hS.2.2 dX4_news_30
set_option maxHeartbeats 4000000 in
set_option maxRecDepth 100000 in
/-- pay -/
theorem kX4_pay (l : Launch) (D : va_G) (d : hs_Dm) (L : hs_Lo) (σ : hs_St) (A : Nat → Prop) (w : Nat) (L2 : hs_Lo) (hwA : ¬ A w) (P F R : Nat) (hok : hs_ok P F R σ) (q : Nat) (hq : q < P) : wx_Mi l yX4_pay wsX4_pay ({ frames := 2, cells := 0, slots := 0, locals := 60 }) D d w L L2 σ A [.ref w, .int (nI q)] (fun r τ => σ 4 q 6 = r ∧ hs_sg (hs_sg σ 4 q 6 0) 0 0 7 (σ 0 0 7 - σ 4 q 6) = τ) := by
  refine Met.ofW (cc := cX4_pay) (maxL := 4) (ret := (some .int)) (by decide) rfl ?_
  intro p e s m args below meth c s₁ B hml hv
  obtain ⟨rfl, ⟨⟨hW, hK⟩, hX⟩, hV⟩ := hv
  have hE := hX.1
  have hx := B.exec
  have hb := B.bytes
  have hr := B.returns
  have hts := atoms_spec (ws := wsX4_pay) B.pre
  have hown : s.vm.findClass RX4 = some m.cls := findClass_of_methodNamed B.named
  have hlocks := B.notSynchronized
  have hS : va_S A s.heap s.heap [] := va_S.rf
  have hW : hs_W D d L σ A s.heap := hW
  have hl := lv_entry ([.ref w, .int (nI q)]) (n := 4) (Nat.le_of_ble_eq_true rfl)
  rw [lg_entry_eq]
  generalize (lg_sl ([.ref w, .int (nI q)]) ++ List.replicate (4 - (lg_sl ([.ref w, .int (nI q)])).length) Slot.unset).toArray = ls at hl ⊢
  have hl : lv_has ls 4 [(0, .ref w), (1, .int (nI q))] := hl
  have h10 := hok.1
  have h8 := hok.2.1
  have h5 := hok.2.2.1
  have hd_ := hok.hd
  refine lv_aload_n hx hb dX4_pay_0 rfl (lv_at hl 0 rfl) ?_
  refine va_get (D := D) (ci := cWx) (C := RX4) (T := TX4) (N := 2) (ws := [(w, .inr (cWx, [.ref (L 0 0), .ref (L2 0 0)]))]) (v := .ref (L 0 0)) hx hb hts (by decide +kernel) hown hK (wx_one hV hS hwA) 0 rfl rfl 0 (by decide) (hts (.fieldLink RX4 10 "Waxrow" "house" "LWaxrow$House;") (by decide +kernel)) (fun _ h9 => h9) rfl dX4_pay_1 ?_
  refine lv_iload_n hx hb dX4_pay_4 rfl (lv_at hl 1 rfl) ?_
  refine hs_callr (As := [.int (nI q)]) ⟨hx, hb, hml, hown, hts⟩ (kX1_personAt l D d L σ A q P hok.hP hq hok.1) (cwV 1 hts gX4_pay_X1_personAt rfl rfl rfl (by decide +kernel) ⟨Nat.le_of_ble_eq_true rfl, Nat.le_of_ble_eq_true rfl⟩) hK hE hW hS hs_ix0 (ci := cHo) (r := (RX1, TX1, 11)) rfl rfl rfl rfl hl.1 (Nat.le_of_ble_eq_true rfl) dX4_pay_5 ⟨Nat.zero_le _, Nat.zero_le _⟩ rfl (fun H locs hW hS => ?_)
  refine lv_astore_n (lv' := [(2, .ref (L 4 q)), (0, .ref w), (1, .int (nI q))]) hx hb dX4_pay_8 rfl hl (by decide) rfl (fun ls hl => ?_)
  refine lv_aload_n hx hb dX4_pay_9 rfl (lv_at hl 0 rfl) ?_
  refine va_get (D := D) (ci := cPe) (C := RX2) (T := TX2) (N := 8) (ws := [(L 4 q, hs_ct d L σ 4 q)]) (v := .int (σ 4 q 6)) hx hb hts (by decide +kernel) hown hK (hW.one (hs_ix4 (show q < 10 by omega))) 0 rfl rfl 6 (by decide) (hts (.fieldLink RX4 82 "Waxrow$Person" "due" "I") (by decide +kernel)) (fun _ h9 => h9) rfl dX4_pay_10 ?_
  refine lv_istore_n (lv' := [(3, .int (σ 4 q 6)), (2, .ref (L 4 q)), (0, .ref w), (1, .int (nI q))]) hx hb dX4_pay_13 rfl hl (by decide) rfl (fun ls hl => ?_)
  refine lv_aload_n hx hb dX4_pay_14 rfl (lv_at hl 1 rfl) ?_
  refine lv_iconst (v := 0) hx hb dX4_pay_15 (by decide) ?_
  refine hs_put (ci := cPe) (C := RX2) (T := TX2) (N := 8) (ty := .int) hx hb hts (by decide +kernel) tyX2 tyX2_ok nmX2 hown hK hW hS 4 q (hs_ix4 (show q < 10 by omega)) rfl rfl 6 (by decide) (hts (.fieldLink RX4 82 "Waxrow$Person" "due" "I") (by decide +kernel)) (fun _ h9 => h9) rfl (by decide +kernel) rfl rfl (Nat.le_of_ble_eq_true rfl) (hs_sg σ 4 q 6 0) (by simp [hs_ct, hs_sg]) (hs_off _ _ _ _ _) dX4_pay_16 (fun H locs hW hS => ?_)
  refine lv_aload_n hx hb dX4_pay_19 rfl (lv_at hl 2 rfl) ?_
  refine va_get (D := D) (ci := cWx) (C := RX4) (T := TX4) (N := 2) (ws := [(w, .inr (cWx, [.ref (L 0 0), .ref (L2 0 0)]))]) (v := .ref (L 0 0)) hx hb hts (by decide +kernel) hown hK (wx_one hV hS hwA) 0 rfl rfl 0 (by decide) (hts (.fieldLink RX4 10 "Waxrow" "house" "LWaxrow$House;") (by decide +kernel)) (fun _ h9 => h9) rfl dX4_pay_20 ?_
  refine lv_dup hx hb dX4_pay_23 rfl ?_
  refine va_get (D := D) (ci := cHo) (C := RX1) (T := TX1) (N := 11) (ws := [(L 0 0, hs_ct d L (hs_sg σ 4 q 6 0) 0 0)]) (v := .int (σ 0 0 7)) hx hb hts (by decide +kernel) hown hK (hW.one hs_ix0) 0 rfl rfl 7 (by decide) (hts (.fieldLink RX4 85 "Waxrow$House" "money" "I") (by decide +kernel)) (fun _ h9 => h9) (by simp [hs_sg]) dX4_pay_24 ?_
  refine lv_iload_n hx hb dX4_pay_27 rfl (lv_at hl 0 rfl) ?_
  refine lv_isub hx hb dX4_pay_28 ?_
  refine hs_put (ci := cHo) (C := RX1) (T := TX1) (N := 11) (ty := .int) hx hb hts (by decide +kernel) tyX1 tyX1_ok nmX1 hown hK hW hS 0 0 hs_ix0 rfl rfl 7 (by decide) (hts (.fieldLink RX4 85 "Waxrow$House" "money" "I") (by decide +kernel)) (fun _ h9 => h9) rfl (by decide +kernel) rfl rfl (Nat.le_of_ble_eq_true rfl) (hs_sg (hs_sg σ 4 q 6 0) 0 0 7 ((σ 0 0 7) - (σ 4 q 6))) (by simp [hs_ct, hs_sg]) (hs_off _ _ _ _ _) dX4_pay_29 (fun H locs hW hS => ?_)
  refine lv_iload_n hx hb dX4_pay_32 rfl (lv_at hl 0 rfl) ?_
  exact W.iret (v := σ 4 q 6) hx hb hr (fun t ht hW9 => ⟨⟨(σ 4 q 6), (hs_sg (hs_sg σ 4 q 6 0) 0 0 7 ((σ 0 0 7) - (σ 4 q 6))), rfl, ⟨rfl, rfl⟩, ⟨by rw [ht]; exact hW, va_K.moved hW9.alike hK⟩⟩, hS.F ht⟩) hS.2.2 dX4_pay_33
theorem nI_inj {a b : Nat} (ha : a < 2 ^ 31) (hb : b < 2 ^ 31) (h : nI a = nI b) : a = b := by
  have := congrArg Int32.toNatClampNeg h
  rw [nI_clamp ha, nI_clamp hb] at this
  exact this
theorem sp_swap_hd {σ : hs_St} {f g : Nat} (hh : hs_hd σ) (hf : f < 8) (hg : g < 8) : hs_hd (sp_swap σ f g) := by
  intro i hi
  have h1 := hh f hf
  have h2 := hh g hg
  have h3 := hh i hi
  have e1 : sp_swap σ f g 9 i 1 = σ 9 i 1 := by
    unfold sp_swap
    simp only [hs_sg]
    rw [if_neg (by omega), if_neg (by omega), if_neg (by omega), if_neg (by omega)]
  rw [e1]
  refine ⟨?_, h3.2⟩
  have e0 : sp_swap σ f g 9 i 0 = if i = g then nI (σ 9 f 0).toNatClampNeg else if i = f then nI (σ 9 g 0).toNatClampNeg else σ 9 i 0 := by
    unfold sp_swap
    simp only [hs_sg]
    by_cases a : i = g
    · subst a
      rw [if_neg (by omega), if_pos (by simp), if_pos rfl]
    · rw [if_neg (by omega), if_neg (by omega), if_neg a]
      by_cases b : i = f
      · subst b
        rw [if_neg (by omega), if_pos (by simp), if_pos rfl]
      · rw [if_neg (by omega), if_neg (by omega), if_neg b]
  rw [e0]
  split
  · rw [nI_clamp (by omega)]; exact h1.1
  · split
    · rw [nI_clamp (by omega)]; exact h2.1
    · exact h3.1
set_option maxHeartbeats 4000000 in
set_option maxRecDepth 100000 in
/-- swap -/
theorem kX4_swap (l : Launch) (D : va_G) (d : hs_Dm) (L : hs_Lo) (σ : hs_St) (A : Nat → Prop) (w : Nat) (L2 : hs_Lo) (hwA : ¬ A w) (P F R : Nat) (hok : hs_ok P F R σ) (f : Nat) (hf : f < F) (g : Nat) (hg : g < F) (hgf : ¬ g = f) (hr1 : ¬ sp_isReady σ f = 0) (hr2 : ¬ sp_isReady σ g = 0) : wx_Mi l yX4_swap wsX4_swap ({ frames := 3, cells := 0, slots := 0, locals := 80 }) D d w L L2 σ A [.ref w, .int (nI f), .int (nI g)] (fun r τ => sp_swap σ f g = τ ∧ sp_likeness τ f = r) := by
  refine Met.ofW (cc := cX4_swap) (maxL := 5) (ret := (some .int)) (by decide) rfl ?_
  intro p e s m args below meth c s₁ B hml hv
  obtain ⟨rfl, ⟨⟨hW, hK⟩, hX⟩, hV⟩ := hv
  have hE := hX.1
  have hx := B.exec
  have hb := B.bytes
  have hr := B.returns
  have hts := atoms_spec (ws := wsX4_swap) B.pre
  have hown : s.vm.findClass RX4 = some m.cls := findClass_of_methodNamed B.named
  have hlocks := B.notSynchronized
  have hS : va_S A s.heap s.heap [] := va_S.rf
  have hW : hs_W D d L σ A s.heap := hW
  have hl := lv_entry ([.ref w, .int (nI f), .int (nI g)]) (n := 5) (Nat.le_of_ble_eq_true rfl)
  rw [lg_entry_eq]
  generalize (lg_sl ([.ref w, .int (nI f), .int (nI g)]) ++ List.replicate (5 - (lg_sl ([.ref w, .int (nI f), .int (nI g)])).length) Slot.unset).toArray = ls at hl ⊢
  have hl : lv_has ls 5 [(0, .ref w), (1, .int (nI f)), (2, .int (nI g))] := hl
  have h10 := hok.1
  have h8 := hok.2.1
  have h5 := hok.2.2.1
  have hd_ := hok.hd
  refine lv_aload_n hx hb dX4_swap_0 rfl (lv_at hl 0 rfl) ?_
  refine va_get (D := D) (ci := cWx) (C := RX4) (T := TX4) (N := 2) (ws := [(w, .inr (cWx, [.ref (L 0 0), .ref (L2 0 0)]))]) (v := .ref (L 0 0)) hx hb hts (by decide +kernel) hown hK (wx_one hV hS hwA) 0 rfl rfl 0 (by decide) (hts (.fieldLink RX4 10 "Waxrow" "house" "LWaxrow$House;") (by decide +kernel)) (fun _ h9 => h9) rfl dX4_swap_1 ?_
  refine lv_iload_n hx hb dX4_swap_4 rfl (lv_at hl 1 rfl) ?_
  refine hs_callr (As := [.int (nI f)]) ⟨hx, hb, hml, hown, hts⟩ (kX1_figureAt l D d L σ A f F hok.hF hf hok.2.1) (cwV 1 hts gX4_swap_X1_figureAt rfl rfl rfl (by decide +kernel) ⟨Nat.le_of_ble_eq_true rfl, Nat.le_of_ble_eq_true rfl⟩) hK hE hW hS hs_ix0 (ci := cHo) (r := (RX1, TX1, 11)) rfl rfl rfl rfl hl.1 (Nat.le_of_ble_eq_true rfl) dX4_swap_5 ⟨Nat.zero_le _, Nat.zero_le _⟩ rfl (fun H locs hW hS => ?_)
  refine lv_astore_n (lv' := [(3, .ref (L 9 f)), (0, .ref w), (1, .int (nI f)), (2, .int (nI g))]) hx hb dX4_swap_8 rfl hl (by decide) rfl (fun ls hl => ?_)
  refine lv_aload_n hx hb dX4_swap_9 rfl (lv_at hl 1 rfl) ?_
  refine va_get (D := D) (ci := cWx) (C := RX4) (T := TX4) (N := 2) (ws := [(w, .inr (cWx, [.ref (L 0 0), .ref (L2 0 0)]))]) (v := .ref (L 0 0)) hx hb hts (by decide +kernel) hown hK (wx_one hV hS hwA) 0 rfl rfl 0 (by decide) (hts (.fieldLink RX4 10 "Waxrow" "house" "LWaxrow$House;") (by decide +kernel)) (fun _ h9 => h9) rfl dX4_swap_10 ?_
  refine lv_iload_n hx hb dX4_swap_13 rfl (lv_at hl 3 rfl) ?_
  refine hs_callr (As := [.int (nI g)]) ⟨hx, hb, hml, hown, hts⟩ (kX1_figureAt l D d L σ A g F hok.hF hg hok.2.1) (cwV 1 hts gX4_swap_X1_figureAt rfl rfl rfl (by decide +kernel) ⟨Nat.le_of_ble_eq_true rfl, Nat.le_of_ble_eq_true rfl⟩) hK hE hW hS hs_ix0 (ci := cHo) (r := (RX1, TX1, 11)) rfl rfl rfl rfl hl.1 (Nat.le_of_ble_eq_true rfl) dX4_swap_14 ⟨Nat.zero_le _, Nat.zero_le _⟩ rfl (fun H locs hW hS => ?_)
  refine lv_astore (lv' := [(4, .ref (L 9 g)), (3, .ref (L 9 f)), (0, .ref w), (1, .int (nI f)), (2, .int (nI g))]) hx hb dX4_swap_17 hl (by decide) rfl (fun ls hl => ?_)
  refine lv_iload_n hx hb dX4_swap_19 rfl (lv_at hl 3 rfl) ?_
  refine lv_iload_n hx hb dX4_swap_20 rfl (lv_at hl 4 rfl) ?_
  refine lv_icmp_ne (tgt := 34) hx hb dX4_swap_21 (by decide) (fun c_21 => ?_) (fun c_21 => ?_)
  · refine lv_aload_n hx hb dX4_swap_34 rfl (lv_at hl 1 rfl) ?_
    refine hs_calli (As := []) ⟨hx, hb, hml, hown, hts⟩ (kX0_isReadyInStore l D d L σ A f (show f < 8 by omega)) (cwV 0 hts gX4_swap_X0_isReadyInStore rfl rfl rfl (by decide +kernel) ⟨Nat.le_of_ble_eq_true rfl, Nat.le_of_ble_eq_true rfl⟩) hK hE hW hS (hs_ix9 (show f < 8 by omega)) (ci := cFi) (r := (RX0, TX0, 11)) rfl rfl rfl rfl hl.1 (Nat.le_of_ble_eq_true rfl) dX4_swap_35 ⟨Nat.zero_le _, Nat.zero_le _⟩ rfl (fun r_ τ_ H locs hp hW hS => ?_)
    obtain ⟨rfl, rfl⟩ := hp
    refine lv_if_eq (tgt := 53) hx hb dX4_swap_38 (by decide) (fun c_38 => ?_) (fun c_38 => ?_)
    · exact absurd c_38 hr1
    · refine lv_aload hx hb dX4_swap_41 (lv_at hl 0 rfl) ?_
      refine hs_calli (As := []) ⟨hx, hb, hml, hown, hts⟩ (kX0_isReadyInStore l D d L σ A g (show g < 8 by omega)) (cwV 0 hts gX4_swap_X0_isReadyInStore rfl rfl rfl (by decide +kernel) ⟨Nat.le_of_ble_eq_true rfl, Nat.le_of_ble_eq_true rfl⟩) hK hE hW hS (hs_ix9 (show g < 8 by omega)) (ci := cFi) (r := (RX0, TX0, 11)) rfl rfl rfl rfl hl.1 (Nat.le_of_ble_eq_true rfl) dX4_swap_43 ⟨Nat.zero_le _, Nat.zero_le _⟩ rfl (fun r_ τ_ H locs hp hW hS => ?_)
      obtain ⟨rfl, rfl⟩ := hp
      refine lv_if_eq (tgt := 53) hx hb dX4_swap_46 (by decide) (fun c_46 => ?_) (fun c_46 => ?_)
      · exact absurd c_46 hr2
      · refine lv_iconst (v := 1) hx hb dX4_swap_49 (by decide) ?_
        refine lv_goto (tgt := 54) hx hb dX4_swap_50 (by decide) ?_
        refine hs_runv (As := [.int 1]) ⟨hx, hb, hml, hown, hts⟩ (kX4_checkState l D d L σ A 1 (by decide +kernel)) (va_cwS 1 hts gX4_swap_X4_checkState rfl rfl rfl (by decide +kernel) ⟨Nat.le_of_ble_eq_true rfl, Nat.le_of_ble_eq_true rfl⟩) hK hE hW hS rfl hl.1 (Nat.le_of_ble_eq_true rfl) dX4_swap_54 ⟨Nat.zero_le _, Nat.zero_le _⟩ rfl (fun τ_ H locs hp hW hS => ?_)
        obtain rfl := hp
        refine lv_aload_n hx hb dX4_swap_57 rfl (lv_at hl 1 rfl) ?_
        refine lv_aload hx hb dX4_swap_58 (lv_at hl 0 rfl) ?_
        refine hs_callv (As := [.ref (L 9 g)]) ⟨hx, hb, hml, hown, hts⟩ (kX0_swapHeadWith l D d L σ A f g (show f < 8 by omega) (show g < 8 by omega) hgf hok.hd) (cwV 1 hts gX4_swap_X0_swapHeadWith rfl rfl rfl (by decide +kernel) ⟨Nat.le_of_ble_eq_true rfl, Nat.le_of_ble_eq_true rfl⟩) hK hE hW hS (hs_ix9 (show f < 8 by omega)) (ci := cFi) (r := (RX0, TX0, 11)) rfl rfl rfl rfl hl.1 (Nat.le_of_ble_eq_true rfl) dX4_swap_60 ⟨Nat.zero_le _, Nat.zero_le _⟩ rfl (fun τ_ H locs hp hW hS => ?_)
        obtain rfl := hp
        have hd_ : hs_hd (sp_swap σ f g) := sp_swap_hd hok.hd (by omega) (by omega)
        refine lv_aload_n hx hb dX4_swap_63 rfl (lv_at hl 1 rfl) ?_
        refine hs_calli (As := []) ⟨hx, hb, hml, hown, hts⟩ (kX0_likeness l D d L (sp_swap σ f g) A f (show f < 8 by omega) hd_) (cwV 0 hts gX4_swap_X0_likeness rfl rfl rfl (by decide +kernel) ⟨Nat.le_of_ble_eq_true rfl, Nat.le_of_ble_eq_true rfl⟩) hK hE hW hS (hs_ix9 (show f < 8 by omega)) (ci := cFi) (r := (RX0, TX0, 11)) rfl rfl rfl rfl hl.1 (Nat.le_of_ble_eq_true rfl) dX4_swap_64 ⟨Nat.zero_le _, Nat.zero_le _⟩ rfl (fun r_ τ_ H locs hp hW hS => ?_)
        obtain ⟨rfl, rfl⟩ := hp
        exact W.iret (v := sp_likeness (sp_swap σ f g) f) hx hb hr (fun t ht hW9 => ⟨⟨(sp_likeness (sp_swap σ f g) f), (sp_swap σ f g), rfl, ⟨rfl, rfl⟩, ⟨by rw [ht]; exact hW, va_K.moved hW9.alike hK⟩⟩, hS.F ht⟩) hS.2.2 dX4_swap_67
  · exact absurd (nI_inj (by omega) (by omega) c_21).symm hgf
def sp_tens (σ : hs_St) (f : Nat) : Int32 := if σ 0 0 8 / 10 < σ 9 f 6 / 10 then σ 0 0 8 / 10 else σ 9 f 6 / 10
def sp_mend (σ : hs_St) (f : Nat) : hs_St := hs_sg (hs_sg σ 9 f 6 (σ 9 f 6 - sp_tens σ f * 10)) 0 0 8 (σ 0 0 8 - sp_tens σ f * 10)
set_option maxHeartbeats 4000000 in
set_option maxRecDepth 100000 in
/-- mend -/
theorem kX4_mend (l : Launch) (D : va_G) (d : hs_Dm) (L : hs_Lo) (σ : hs_St) (A : Nat → Prop) (w : Nat) (L2 : hs_Lo) (hwA : ¬ A w) (P F R : Nat) (hok : hs_ok P F R σ) (f : Nat) (hf : f < F) (hr1 : ¬ sp_isReady σ f = 0) : wx_Mi l yX4_mend wsX4_mend ({ frames := 2, cells := 0, slots := 0, locals := 60 }) D d w L L2 σ A [.ref w, .int (nI f)] (fun r τ => σ 9 f 6 - sp_tens σ f * 10 = r ∧ sp_mend σ f = τ) := by
  refine Met.ofW (cc := cX4_mend) (maxL := 4) (ret := (some .int)) (by decide) rfl ?_
  intro p e s m args below meth c s₁ B hml hv
  obtain ⟨rfl, ⟨⟨hW, hK⟩, hX⟩, hV⟩ := hv
  have hE := hX.1
  have hx := B.exec
  have hb := B.bytes
  have hr := B.returns
  have hts := atoms_spec (ws := wsX4_mend) B.pre
  have hown : s.vm.findClass RX4 = some m.cls := findClass_of_methodNamed B.named
  have hlocks := B.notSynchronized
  have hS : va_S A s.heap s.heap [] := va_S.rf
  have hW : hs_W D d L σ A s.heap := hW
  have hl := lv_entry ([.ref w, .int (nI f)]) (n := 4) (Nat.le_of_ble_eq_true rfl)
  rw [lg_entry_eq]
  generalize (lg_sl ([.ref w, .int (nI f)]) ++ List.replicate (4 - (lg_sl ([.ref w, .int (nI f)])).length) Slot.unset).toArray = ls at hl ⊢
  have hl : lv_has ls 4 [(0, .ref w), (1, .int (nI f))] := hl
  have h10 := hok.1
  have h8 := hok.2.1
  have h5 := hok.2.2.1
  have hd_ := hok.hd
  refine lv_aload_n hx hb dX4_mend_0 rfl (lv_at hl 0 rfl) ?_
  refine va_get (D := D) (ci := cWx) (C := RX4) (T := TX4) (N := 2) (ws := [(w, .inr (cWx, [.ref (L 0 0), .ref (L2 0 0)]))]) (v := .ref (L 0 0)) hx hb hts (by decide +kernel) hown hK (wx_one hV hS hwA) 0 rfl rfl 0 (by decide) (hts (.fieldLink RX4 10 "Waxrow" "house" "LWaxrow$House;") (by decide +kernel)) (fun _ h9 => h9) rfl dX4_mend_1 ?_
  refine lv_iload_n hx hb dX4_mend_4 rfl (lv_at hl 1 rfl) ?_
  refine hs_callr (As := [.int (nI f)]) ⟨hx, hb, hml, hown, hts⟩ (kX1_figureAt l D d L σ A f F hok.hF hf hok.2.1) (cwV 1 hts gX4_mend_X1_figureAt rfl rfl rfl (by decide +kernel) ⟨Nat.le_of_ble_eq_true rfl, Nat.le_of_ble_eq_true rfl⟩) hK hE hW hS hs_ix0 (ci := cHo) (r := (RX1, TX1, 11)) rfl rfl rfl rfl hl.1 (Nat.le_of_ble_eq_true rfl) dX4_mend_5 ⟨Nat.zero_le _, Nat.zero_le _⟩ rfl (fun H locs hW hS => ?_)
  refine lv_astore_n (lv' := [(2, .ref (L 9 f)), (0, .ref w), (1, .int (nI f))]) hx hb dX4_mend_8 rfl hl (by decide) rfl (fun ls hl => ?_)
  refine lv_aload_n hx hb dX4_mend_9 rfl (lv_at hl 0 rfl) ?_
  refine hs_calli (As := []) ⟨hx, hb, hml, hown, hts⟩ (kX0_isReadyInStore l D d L σ A f (show f < 8 by omega)) (cwV 0 hts gX4_mend_X0_isReadyInStore rfl rfl rfl (by decide +kernel) ⟨Nat.le_of_ble_eq_true rfl, Nat.le_of_ble_eq_true rfl⟩) hK hE hW hS (hs_ix9 (show f < 8 by omega)) (ci := cFi) (r := (RX0, TX0, 11)) rfl rfl rfl rfl hl.1 (Nat.le_of_ble_eq_true rfl) dX4_mend_10 ⟨Nat.zero_le _, Nat.zero_le _⟩ rfl (fun r_ τ_ H locs hp hW hS => ?_)
  obtain ⟨rfl, rfl⟩ := hp
  refine hs_runv (As := [.int (sp_isReady σ f)]) ⟨hx, hb, hml, hown, hts⟩ (kX4_checkState l D d L σ A (sp_isReady σ f) hr1) (va_cwS 1 hts gX4_mend_X4_checkState rfl rfl rfl (by decide +kernel) ⟨Nat.le_of_ble_eq_true rfl, Nat.le_of_ble_eq_true rfl⟩) hK hE hW hS rfl hl.1 (Nat.le_of_ble_eq_true rfl) dX4_mend_13 ⟨Nat.zero_le _, Nat.zero_le _⟩ rfl (fun τ_ H locs hp hW hS => ?_)
  obtain rfl := hp
  refine lv_aload_n hx hb dX4_mend_16 rfl (lv_at hl 0 rfl) ?_
  refine va_get (D := D) (ci := cFi) (C := RX0) (T := TX0) (N := 11) (ws := [(L 9 f, hs_ct d L σ 9 f)]) (v := .int (σ 9 f 6)) hx hb hts (by decide +kernel) hown hK (hW.one (hs_ix9 (show f < 8 by omega))) 0 rfl rfl 6 (by decide) (hts (.fieldLink RX4 131 "Waxrow$Figure" "wear" "I") (by decide +kernel)) (fun _ h9 => h9) rfl dX4_mend_17 ?_
  refine lv_bipush (v := 10) hx hb dX4_mend_20 (by decide) ?_
  refine lv_idiv hx hb dX4_mend_22 (by decide) ?_
  refine lv_aload_n hx hb dX4_mend_23 rfl (lv_at hl 1 rfl) ?_
  refine va_get (D := D) (ci := cWx) (C := RX4) (T := TX4) (N := 2) (ws := [(w, .inr (cWx, [.ref (L 0 0), .ref (L2 0 0)]))]) (v := .ref (L 0 0)) hx hb hts (by decide +kernel) hown hK (wx_one hV hS hwA) 0 rfl rfl 0 (by decide) (hts (.fieldLink RX4 10 "Waxrow" "house" "LWaxrow$House;") (by decide +kernel)) (fun _ h9 => h9) rfl dX4_mend_24 ?_
  refine va_get (D := D) (ci := cHo) (C := RX1) (T := TX1) (N := 11) (ws := [(L 0 0, hs_ct d L σ 0 0)]) (v := .int (σ 0 0 8)) hx hb hts (by decide +kernel) hown hK (hW.one hs_ix0) 0 rfl rfl 8 (by decide) (hts (.fieldLink RX4 134 "Waxrow$House" "wax" "I") (by decide +kernel)) (fun _ h9 => h9) rfl dX4_mend_27 ?_
  refine lv_bipush (v := 10) hx hb dX4_mend_30 (by decide) ?_
  refine lv_idiv hx hb dX4_mend_32 (by decide) ?_
  refine va_mmin hx hb (hml.trans hl.1.symm) hown (hts (.methodLink RX4 70 Lib.Math.min.name) (by decide +kernel)) (hts (.static Lib.Math.min.name) (by decide +kernel)) (hts (.initialized "java/lang/Math") (by decide +kernel)) (hts (.code Lib.Math.min.name Lib.Math.min.code 2 (some .int)) (by decide +kernel)) (Nat.le_of_ble_eq_true rfl) (Nat.le_of_ble_eq_true rfl) (Nat.zero_le _) (Nat.zero_le _) dX4_mend_33 ?_
  refine lv_istore_n (lv' := [(3, .int (if ((σ 0 0 8) / 10) < ((σ 9 f 6) / 10) then ((σ 0 0 8) / 10) else ((σ 9 f 6) / 10))), (2, .ref (L 9 f)), (0, .ref w), (1, .int (nI f))]) hx hb dX4_mend_36 rfl hl (by decide) rfl (fun ls hl => ?_)
  refine lv_aload_n hx hb dX4_mend_37 rfl (lv_at hl 1 rfl) ?_
  refine lv_dup hx hb dX4_mend_38 rfl ?_
  refine va_get (D := D) (ci := cFi) (C := RX0) (T := TX0) (N := 11) (ws := [(L 9 f, hs_ct d L σ 9 f)]) (v := .int (σ 9 f 6)) hx hb hts (by decide +kernel) hown hK (hW.one (hs_ix9 (show f < 8 by omega))) 0 rfl rfl 6 (by decide) (hts (.fieldLink RX4 131 "Waxrow$Figure" "wear" "I") (by decide +kernel)) (fun _ h9 => h9) rfl dX4_mend_39 ?_
  refine lv_iload_n hx hb dX4_mend_42 rfl (lv_at hl 0 rfl) ?_
  refine lv_bipush (v := 10) hx hb dX4_mend_43 (by decide) ?_
  refine lv_imul hx hb dX4_mend_45 ?_
  refine lv_isub hx hb dX4_mend_46 ?_
  refine hs_put (ci := cFi) (C := RX0) (T := TX0) (N := 11) (ty := .int) hx hb hts (by decide +kernel) tyX0 tyX0_ok nmX0 hown hK hW hS 9 f (hs_ix9 (show f < 8 by omega)) rfl rfl 6 (by decide) (hts (.fieldLink RX4 131 "Waxrow$Figure" "wear" "I") (by decide +kernel)) (fun _ h9 => h9) rfl (by decide +kernel) rfl rfl (Nat.le_of_ble_eq_true rfl) (hs_sg σ 9 f 6 ((σ 9 f 6) - ((if ((σ 0 0 8) / 10) < ((σ 9 f 6) / 10) then ((σ 0 0 8) / 10) else ((σ 9 f 6) / 10)) * 10))) (by simp [hs_ct, hs_sg]) (hs_off _ _ _ _ _) dX4_mend_47 (fun H locs hW hS => ?_)
  refine lv_aload_n hx hb dX4_mend_50 rfl (lv_at hl 2 rfl) ?_
  refine va_get (D := D) (ci := cWx) (C := RX4) (T := TX4) (N := 2) (ws := [(w, .inr (cWx, [.ref (L 0 0), .ref (L2 0 0)]))]) (v := .ref (L 0 0)) hx hb hts (by decide +kernel) hown hK (wx_one hV hS hwA) 0 rfl rfl 0 (by decide) (hts (.fieldLink RX4 10 "Waxrow" "house" "LWaxrow$House;") (by decide +kernel)) (fun _ h9 => h9) rfl dX4_mend_51 ?_
  refine lv_dup hx hb dX4_mend_54 rfl ?_
  refine va_get (D := D) (ci := cHo) (C := RX1) (T := TX1) (N := 11) (ws := [(L 0 0, hs_ct d L (hs_sg σ 9 f 6 ((σ 9 f 6) - ((if ((σ 0 0 8) / 10) < ((σ 9 f 6) / 10) then ((σ 0 0 8) / 10) else ((σ 9 f 6) / 10)) * 10))) 0 0)]) (v := .int (σ 0 0 8)) hx hb hts (by decide +kernel) hown hK (hW.one hs_ix0) 0 rfl rfl 8 (by decide) (hts (.fieldLink RX4 134 "Waxrow$House" "wax" "I") (by decide +kernel)) (fun _ h9 => h9) (by simp [hs_sg]) dX4_mend_55 ?_
  refine lv_iload_n hx hb dX4_mend_58 rfl (lv_at hl 0 rfl) ?_
  refine lv_bipush (v := 10) hx hb dX4_mend_59 (by decide) ?_
  refine lv_imul hx hb dX4_mend_61 ?_
  refine lv_isub hx hb dX4_mend_62 ?_
  refine hs_put (ci := cHo) (C := RX1) (T := TX1) (N := 11) (ty := .int) hx hb hts (by decide +kernel) tyX1 tyX1_ok nmX1 hown hK hW hS 0 0 hs_ix0 rfl rfl 8 (by decide) (hts (.fieldLink RX4 134 "Waxrow$House" "wax" "I") (by decide +kernel)) (fun _ h9 => h9) rfl (by decide +kernel) rfl rfl (Nat.le_of_ble_eq_true rfl) (hs_sg (hs_sg σ 9 f 6 ((σ 9 f 6) - ((if ((σ 0 0 8) / 10) < ((σ 9 f 6) / 10) then ((σ 0 0 8) / 10) else ((σ 9 f 6) / 10)) * 10))) 0 0 8 ((σ 0 0 8) - ((if ((σ 0 0 8) / 10) < ((σ 9 f 6) / 10) then ((σ 0 0 8) / 10) else ((σ 9 f 6) / 10)) * 10))) (by simp [hs_ct, hs_sg]) (hs_off _ _ _ _ _) dX4_mend_63 (fun H locs hW hS => ?_)
  refine lv_aload_n hx hb dX4_mend_66 rfl (lv_at hl 1 rfl) ?_
  refine va_get (D := D) (ci := cFi) (C := RX0) (T := TX0) (N := 11) (ws := [(L 9 f, hs_ct d L (hs_sg (hs_sg σ 9 f 6 ((σ 9 f 6) - ((if ((σ 0 0 8) / 10) < ((σ 9 f 6) / 10) then ((σ 0 0 8) / 10) else ((σ 9 f 6) / 10)) * 10))) 0 0 8 ((σ 0 0 8) - ((if ((σ 0 0 8) / 10) < ((σ 9 f 6) / 10) then ((σ 0 0 8) / 10) else ((σ 9 f 6) / 10)) * 10))) 9 f)]) (v := .int ((σ 9 f 6) - ((if ((σ 0 0 8) / 10) < ((σ 9 f 6) / 10) then ((σ 0 0 8) / 10) else ((σ 9 f 6) / 10)) * 10))) hx hb hts (by decide +kernel) hown hK (hW.one (hs_ix9 (show f < 8 by omega))) 0 rfl rfl 6 (by decide) (hts (.fieldLink RX4 131 "Waxrow$Figure" "wear" "I") (by decide +kernel)) (fun _ h9 => h9) (by simp [hs_sg]) dX4_mend_67 ?_
  exact W.iret (v := (σ 9 f 6) - ((if ((σ 0 0 8) / 10) < ((σ 9 f 6) / 10) then ((σ 0 0 8) / 10) else ((σ 9 f 6) / 10)) * 10)) hx hb hr (fun t ht hW9 => ⟨⟨((σ 9 f 6) - ((if ((σ 0 0 8) / 10) < ((σ 9 f 6) / 10) then ((σ 0 0 8) / 10) else ((σ 9 f 6) / 10)) * 10)), (hs_sg (hs_sg σ 9 f 6 ((σ 9 f 6) - ((if ((σ 0 0 8) / 10) < ((σ 9 f 6) / 10) then ((σ 0 0 8) / 10) else ((σ 9 f 6) / 10)) * 10))) 0 0 8 ((σ 0 0 8) - ((if ((σ 0 0 8) / 10) < ((σ 9 f 6) / 10) then ((σ 0 0 8) / 10) else ((σ 9 f 6) / 10)) * 10))), rfl, ⟨rfl, rfl⟩, ⟨by rw [ht]; exact hW, va_K.moved hW9.alike hK⟩⟩, hS.F ht⟩) hS.2.2 dX4_mend_70
def sp_wax (σ : hs_St) (f : Nat) : hs_St := if σ 9 f 2 ≤ 3 then σ else hs_sg σ 0 0 8 (σ 0 0 8 + 20)
set_option maxHeartbeats 4000000 in
set_option maxRecDepth 100000 in
/-- melt -/
theorem kX4_melt (l : Launch) (D : va_G) (d : hs_Dm) (L : hs_Lo) (σ : hs_St) (A : Nat → Prop) (w : Nat) (L2 : hs_Lo) (hwA : ¬ A w) (P F R : Nat) (hok : hs_ok P F R σ) (f : Nat) (hf : f < F) (hp5 : σ 9 f 7 = 5) : wx_Mi l yX4_melt wsX4_melt ({ frames := 2, cells := 0, slots := 0, locals := 60 }) D d w L L2 σ A [.ref w, .int (nI f)] (fun r τ => sp_melt (sp_wax σ f) f 0 0 8 = r ∧ sp_melt (sp_wax σ f) f = τ) := by
  refine Met.ofW (cc := cX4_melt) (maxL := 3) (ret := (some .int)) (by decide) rfl ?_
  intro p e s m args below meth c s₁ B hml hv
  obtain ⟨rfl, ⟨⟨hW, hK⟩, hX⟩, hV⟩ := hv
  have hE := hX.1
  have hx := B.exec
  have hb := B.bytes
  have hr := B.returns
  have hts := atoms_spec (ws := wsX4_melt) B.pre
  have hown : s.vm.findClass RX4 = some m.cls := findClass_of_methodNamed B.named
  have hlocks := B.notSynchronized
  have hS : va_S A s.heap s.heap [] := va_S.rf
  have hW : hs_W D d L σ A s.heap := hW
  have hl := lv_entry ([.ref w, .int (nI f)]) (n := 3) (Nat.le_of_ble_eq_true rfl)
  rw [lg_entry_eq]
  generalize (lg_sl ([.ref w, .int (nI f)]) ++ List.replicate (3 - (lg_sl ([.ref w, .int (nI f)])).length) Slot.unset).toArray = ls at hl ⊢
  have hl : lv_has ls 3 [(0, .ref w), (1, .int (nI f))] := hl
  have h10 := hok.1
  have h8 := hok.2.1
  have h5 := hok.2.2.1
  have hd_ := hok.hd
  refine lv_aload_n hx hb dX4_melt_0 rfl (lv_at hl 0 rfl) ?_
  refine va_get (D := D) (ci := cWx) (C := RX4) (T := TX4) (N := 2) (ws := [(w, .inr (cWx, [.ref (L 0 0), .ref (L2 0 0)]))]) (v := .ref (L 0 0)) hx hb hts (by decide +kernel) hown hK (wx_one hV hS hwA) 0 rfl rfl 0 (by decide) (hts (.fieldLink RX4 10 "Waxrow" "house" "LWaxrow$House;") (by decide +kernel)) (fun _ h9 => h9) rfl dX4_melt_1 ?_
  refine lv_iload_n hx hb dX4_melt_4 rfl (lv_at hl 1 rfl) ?_
  refine hs_callr (As := [.int (nI f)]) ⟨hx, hb, hml, hown, hts⟩ (kX1_figureAt l D d L σ A f F hok.hF hf hok.2.1) (cwV 1 hts gX4_melt_X1_figureAt rfl rfl rfl (by decide +kernel) ⟨Nat.le_of_ble_eq_true rfl, Nat.le_of_ble_eq_true rfl⟩) hK hE hW hS hs_ix0 (ci := cHo) (r := (RX1, TX1, 11)) rfl rfl rfl rfl hl.1 (Nat.le_of_ble_eq_true rfl) dX4_melt_5 ⟨Nat.zero_le _, Nat.zero_le _⟩ rfl (fun H locs hW hS => ?_)
  refine lv_astore_n (lv' := [(2, .ref (L 9 f)), (0, .ref w), (1, .int (nI f))]) hx hb dX4_melt_8 rfl hl (by decide) rfl (fun ls hl => ?_)
  refine lv_aload_n hx hb dX4_melt_9 rfl (lv_at hl 0 rfl) ?_
  refine va_get (D := D) (ci := cFi) (C := RX0) (T := TX0) (N := 11) (ws := [(L 9 f, hs_ct d L σ 9 f)]) (v := .int (σ 9 f 7)) hx hb hts (by decide +kernel) hown hK (hW.one (hs_ix9 (show f < 8 by omega))) 0 rfl rfl 7 (by decide) (hts (.fieldLink RX4 110 "Waxrow$Figure" "place" "I") (by decide +kernel)) (fun _ h9 => h9) rfl dX4_melt_10 ?_
  refine lv_iconst (v := 5) hx hb dX4_melt_13 (by decide) ?_
  refine lv_icmp_ne (tgt := 21) hx hb dX4_melt_14 (by decide) (fun c_14 => ?_) (fun c_14 => ?_)
  · exact absurd hp5 c_14
  · refine lv_iconst (v := 1) hx hb dX4_melt_17 (by decide) ?_
    refine lv_goto (tgt := 22) hx hb dX4_melt_18 (by decide) ?_
    refine hs_runv (As := [.int 1]) ⟨hx, hb, hml, hown, hts⟩ (kX4_checkState l D d L σ A 1 (by decide +kernel)) (va_cwS 1 hts gX4_melt_X4_checkState rfl rfl rfl (by decide +kernel) ⟨Nat.le_of_ble_eq_true rfl, Nat.le_of_ble_eq_true rfl⟩) hK hE hW hS rfl hl.1 (Nat.le_of_ble_eq_true rfl) dX4_melt_22 ⟨Nat.zero_le _, Nat.zero_le _⟩ rfl (fun τ_ H locs hp hW hS => ?_)
    obtain rfl := hp
    refine lv_aload_n hx hb dX4_melt_25 rfl (lv_at hl 0 rfl) ?_
    refine va_get (D := D) (ci := cFi) (C := RX0) (T := TX0) (N := 11) (ws := [(L 9 f, hs_ct d L σ 9 f)]) (v := .int (σ 9 f 2)) hx hb hts (by decide +kernel) hown hK (hW.one (hs_ix9 (show f < 8 by omega))) 0 rfl rfl 2 (by decide) (hts (.fieldLink RX4 107 "Waxrow$Figure" "step" "I") (by decide +kernel)) (fun _ h9 => h9) rfl dX4_melt_26 ?_
    refine lv_iconst (v := 3) hx hb dX4_melt_29 (by decide) ?_
    refine lv_icmp_le (tgt := 47) hx hb dX4_melt_30 (by decide) (fun c_30 => ?_) (fun c_30 => ?_)
    · refine lv_aload_n hx hb dX4_melt_47 rfl (lv_at hl 0 rfl) ?_
      refine hs_callv (As := []) ⟨hx, hb, hml, hown, hts⟩ (kX0_becomeMelted l D d L σ A f (show f < 8 by omega)) (cwV 0 hts gX4_melt_X0_becomeMelted rfl rfl rfl (by decide +kernel) ⟨Nat.le_of_ble_eq_true rfl, Nat.le_of_ble_eq_true rfl⟩) hK hE hW hS (hs_ix9 (show f < 8 by omega)) (ci := cFi) (r := (RX0, TX0, 11)) rfl rfl rfl rfl hl.1 (Nat.le_of_ble_eq_true rfl) dX4_melt_48 ⟨Nat.zero_le _, Nat.zero_le _⟩ rfl (fun τ_ H locs hp hW hS => ?_)
      obtain rfl := hp
      refine lv_aload_n hx hb dX4_melt_51 rfl (lv_at hl 1 rfl) ?_
      refine va_get (D := D) (ci := cWx) (C := RX4) (T := TX4) (N := 2) (ws := [(w, .inr (cWx, [.ref (L 0 0), .ref (L2 0 0)]))]) (v := .ref (L 0 0)) hx hb hts (by decide +kernel) hown hK (wx_one hV hS hwA) 0 rfl rfl 0 (by decide) (hts (.fieldLink RX4 10 "Waxrow" "house" "LWaxrow$House;") (by decide +kernel)) (fun _ h9 => h9) rfl dX4_melt_52 ?_
      refine va_get (D := D) (ci := cHo) (C := RX1) (T := TX1) (N := 11) (ws := [(L 0 0, hs_ct d L (sp_melt σ f) 0 0)]) (v := .int ((sp_melt σ f) 0 0 8)) hx hb hts (by decide +kernel) hown hK (hW.one hs_ix0) 0 rfl rfl 8 (by decide) (hts (.fieldLink RX4 134 "Waxrow$House" "wax" "I") (by decide +kernel)) (fun _ h9 => h9) rfl dX4_melt_55 ?_
      exact W.iret (v := (sp_melt σ f) 0 0 8) hx hb hr (fun t ht hW9 => ⟨⟨((sp_melt σ f) 0 0 8), (sp_melt σ f), rfl, ⟨by unfold sp_wax; rw [if_pos c_30], by unfold sp_wax; rw [if_pos c_30]⟩, ⟨by rw [ht]; exact hW, va_K.moved hW9.alike hK⟩⟩, hS.F ht⟩) hS.2.2 dX4_melt_58
    · refine lv_aload_n hx hb dX4_melt_33 rfl (lv_at hl 1 rfl) ?_
      refine va_get (D := D) (ci := cWx) (C := RX4) (T := TX4) (N := 2) (ws := [(w, .inr (cWx, [.ref (L 0 0), .ref (L2 0 0)]))]) (v := .ref (L 0 0)) hx hb hts (by decide +kernel) hown hK (wx_one hV hS hwA) 0 rfl rfl 0 (by decide) (hts (.fieldLink RX4 10 "Waxrow" "house" "LWaxrow$House;") (by decide +kernel)) (fun _ h9 => h9) rfl dX4_melt_34 ?_
      refine lv_dup hx hb dX4_melt_37 rfl ?_
      refine va_get (D := D) (ci := cHo) (C := RX1) (T := TX1) (N := 11) (ws := [(L 0 0, hs_ct d L σ 0 0)]) (v := .int (σ 0 0 8)) hx hb hts (by decide +kernel) hown hK (hW.one hs_ix0) 0 rfl rfl 8 (by decide) (hts (.fieldLink RX4 134 "Waxrow$House" "wax" "I") (by decide +kernel)) (fun _ h9 => h9) rfl dX4_melt_38 ?_
      refine lv_bipush (v := 20) hx hb dX4_melt_41 (by decide) ?_
      refine lv_iadd hx hb dX4_melt_43 ?_
      refine hs_put (ci := cHo) (C := RX1) (T := TX1) (N := 11) (ty := .int) hx hb hts (by decide +kernel) tyX1 tyX1_ok nmX1 hown hK hW hS 0 0 hs_ix0 rfl rfl 8 (by decide) (hts (.fieldLink RX4 134 "Waxrow$House" "wax" "I") (by decide +kernel)) (fun _ h9 => h9) rfl (by decide +kernel) rfl rfl (Nat.le_of_ble_eq_true rfl) (hs_sg σ 0 0 8 ((σ 0 0 8) + 20)) (by simp [hs_ct, hs_sg]) (hs_off _ _ _ _ _) dX4_melt_44 (fun H locs hW hS => ?_)
      refine lv_aload_n hx hb dX4_melt_47 rfl (lv_at hl 0 rfl) ?_
      refine hs_callv (As := []) ⟨hx, hb, hml, hown, hts⟩ (kX0_becomeMelted l D d L (hs_sg σ 0 0 8 ((σ 0 0 8) + 20)) A f (show f < 8 by omega)) (cwV 0 hts gX4_melt_X0_becomeMelted rfl rfl rfl (by decide +kernel) ⟨Nat.le_of_ble_eq_true rfl, Nat.le_of_ble_eq_true rfl⟩) hK hE hW hS (hs_ix9 (show f < 8 by omega)) (ci := cFi) (r := (RX0, TX0, 11)) rfl rfl rfl rfl hl.1 (Nat.le_of_ble_eq_true rfl) dX4_melt_48 ⟨Nat.zero_le _, Nat.zero_le _⟩ rfl (fun τ_ H locs hp hW hS => ?_)
      obtain rfl := hp
      refine lv_aload_n hx hb dX4_melt_51 rfl (lv_at hl 1 rfl) ?_
      refine va_get (D := D) (ci := cWx) (C := RX4) (T := TX4) (N := 2) (ws := [(w, .inr (cWx, [.ref (L 0 0), .ref (L2 0 0)]))]) (v := .ref (L 0 0)) hx hb hts (by decide +kernel) hown hK (wx_one hV hS hwA) 0 rfl rfl 0 (by decide) (hts (.fieldLink RX4 10 "Waxrow" "house" "LWaxrow$House;") (by decide +kernel)) (fun _ h9 => h9) rfl dX4_melt_52 ?_
      refine va_get (D := D) (ci := cHo) (C := RX1) (T := TX1) (N := 11) (ws := [(L 0 0, hs_ct d L (sp_melt (hs_sg σ 0 0 8 ((σ 0 0 8) + 20)) f) 0 0)]) (v := .int ((sp_melt (hs_sg σ 0 0 8 ((σ 0 0 8) + 20)) f) 0 0 8)) hx hb hts (by decide +kernel) hown hK (hW.one hs_ix0) 0 rfl rfl 8 (by decide) (hts (.fieldLink RX4 134 "Waxrow$House" "wax" "I") (by decide +kernel)) (fun _ h9 => h9) rfl dX4_melt_55 ?_
      exact W.iret (v := (sp_melt (hs_sg σ 0 0 8 ((σ 0 0 8) + 20)) f) 0 0 8) hx hb hr (fun t ht hW9 => ⟨⟨((sp_melt (hs_sg σ 0 0 8 ((σ 0 0 8) + 20)) f) 0 0 8), (sp_melt (hs_sg σ 0 0 8 ((σ 0 0 8) + 20)) f), rfl, ⟨by unfold sp_wax; rw [if_neg c_30], by unfold sp_wax; rw [if_neg c_30]⟩, ⟨by rw [ht]; exact hW, va_K.moved hW9.alike hK⟩⟩, hS.F ht⟩) hS.2.2 dX4_melt_58
def sp_trip (σ : hs_St) (f : Nat) (y z : Int32) : hs_St := hs_sg (hs_sg (hs_sg σ 9 f 7 6) 9 f 8 y) 9 f 9 z
set_option maxHeartbeats 4000000 in
set_option maxRecDepth 100000 in
/-- tour -/
theorem kX4_tour (l : Launch) (D : va_G) (d : hs_Dm) (L : hs_Lo) (σ : hs_St) (A : Nat → Prop) (w : Nat) (L2 : hs_Lo) (hwA : ¬ A w) (P F R : Nat) (hok : hs_ok P F R σ) (f : Nat) (hf : f < F) (y z : Int32) (hy0 : ¬ y < 1) (hy9 : y ≤ 2) (hz0 : ¬ z < 1) (hz9 : z ≤ 60) (hr1 : ¬ sp_isReady σ f = 0) (hcs : ¬ σ 4 (σ 9 f 0).toNatClampNeg 5 = 0) : wx_Mi l yX4_tour wsX4_tour ({ frames := 3, cells := 0, slots := 0, locals := 80 }) D d w L L2 σ A [.ref w, .int (nI f), .int y, .int z] (fun r τ => sp_trip σ f y z = τ ∧ sp_likeness τ f = r) := by
  refine Met.ofW (cc := cX4_tour) (maxL := 5) (ret := (some .int)) (by decide) rfl ?_
  intro p e s m args below meth c s₁ B hml hv
  obtain ⟨rfl, ⟨⟨hW, hK⟩, hX⟩, hV⟩ := hv
  have hE := hX.1
  have hx := B.exec
  have hb := B.bytes
  have hr := B.returns
  have hts := atoms_spec (ws := wsX4_tour) B.pre
  have hown : s.vm.findClass RX4 = some m.cls := findClass_of_methodNamed B.named
  have hlocks := B.notSynchronized
  have hS : va_S A s.heap s.heap [] := va_S.rf
  have hW : hs_W D d L σ A s.heap := hW
  have hl := lv_entry ([.ref w, .int (nI f), .int y, .int z]) (n := 5) (Nat.le_of_ble_eq_true rfl)
  rw [lg_entry_eq]
  generalize (lg_sl ([.ref w, .int (nI f), .int y, .int z]) ++ List.replicate (5 - (lg_sl ([.ref w, .int (nI f), .int y, .int z])).length) Slot.unset).toArray = ls at hl ⊢
  have hl : lv_has ls 5 [(0, .ref w), (1, .int (nI f)), (2, .int y), (3, .int z)] := hl
  have h10 := hok.1
  have h8 := hok.2.1
  have h5 := hok.2.2.1
  have hd_ := hok.hd
  refine lv_aload_n hx hb dX4_tour_0 rfl (lv_at hl 0 rfl) ?_
  refine va_get (D := D) (ci := cWx) (C := RX4) (T := TX4) (N := 2) (ws := [(w, .inr (cWx, [.ref (L 0 0), .ref (L2 0 0)]))]) (v := .ref (L 0 0)) hx hb hts (by decide +kernel) hown hK (wx_one hV hS hwA) 0 rfl rfl 0 (by decide) (hts (.fieldLink RX4 10 "Waxrow" "house" "LWaxrow$House;") (by decide +kernel)) (fun _ h9 => h9) rfl dX4_tour_1 ?_
  refine lv_iload_n hx hb dX4_tour_4 rfl (lv_at hl 1 rfl) ?_
  refine hs_callr (As := [.int (nI f)]) ⟨hx, hb, hml, hown, hts⟩ (kX1_figureAt l D d L σ A f F hok.hF hf hok.2.1) (cwV 1 hts gX4_tour_X1_figureAt rfl rfl rfl (by decide +kernel) ⟨Nat.le_of_ble_eq_true rfl, Nat.le_of_ble_eq_true rfl⟩) hK hE hW hS hs_ix0 (ci := cHo) (r := (RX1, TX1, 11)) rfl rfl rfl rfl hl.1 (Nat.le_of_ble_eq_true rfl) dX4_tour_5 ⟨Nat.zero_le _, Nat.zero_le _⟩ rfl (fun H locs hW hS => ?_)
  refine lv_astore (lv' := [(4, .ref (L 9 f)), (0, .ref w), (1, .int (nI f)), (2, .int y), (3, .int z)]) hx hb dX4_tour_8 hl (by decide) rfl (fun ls hl => ?_)
  refine lv_iload_n hx hb dX4_tour_10 rfl (lv_at hl 3 rfl) ?_
  refine lv_iconst (v := 1) hx hb dX4_tour_11 (by decide) ?_
  refine lv_iconst (v := 2) hx hb dX4_tour_12 (by decide) ?_
  refine hs_runv (As := [.int y, .int 1, .int 2]) ⟨hx, hb, hml, hown, hts⟩ (kX4_checkArgument l D d L σ A y 1 2 hy0 hy9) (va_cwS 3 hts gX4_tour_X4_checkArgument rfl rfl rfl (by decide +kernel) ⟨Nat.le_of_ble_eq_true rfl, Nat.le_of_ble_eq_true rfl⟩) hK hE hW hS rfl hl.1 (Nat.le_of_ble_eq_true rfl) dX4_tour_13 ⟨Nat.zero_le _, Nat.zero_le _⟩ rfl (fun τ_ H locs hp hW hS => ?_)
  obtain rfl := hp
  refine lv_iload_n hx hb dX4_tour_16 rfl (lv_at hl 4 rfl) ?_
  refine lv_iconst (v := 1) hx hb dX4_tour_17 (by decide) ?_
  refine lv_bipush (v := 60) hx hb dX4_tour_18 (by decide) ?_
  refine hs_runv (As := [.int z, .int 1, .int 60]) ⟨hx, hb, hml, hown, hts⟩ (kX4_checkArgument l D d L σ A z 1 60 hz0 hz9) (va_cwS 3 hts gX4_tour_X4_checkArgument rfl rfl rfl (by decide +kernel) ⟨Nat.le_of_ble_eq_true rfl, Nat.le_of_ble_eq_true rfl⟩) hK hE hW hS rfl hl.1 (Nat.le_of_ble_eq_true rfl) dX4_tour_20 ⟨Nat.zero_le _, Nat.zero_le _⟩ rfl (fun τ_ H locs hp hW hS => ?_)
  obtain rfl := hp
  refine lv_aload hx hb dX4_tour_23 (lv_at hl 0 rfl) ?_
  refine hs_calli (As := []) ⟨hx, hb, hml, hown, hts⟩ (kX0_isReadyInStore l D d L σ A f (show f < 8 by omega)) (cwV 0 hts gX4_tour_X0_isReadyInStore rfl rfl rfl (by decide +kernel) ⟨Nat.le_of_ble_eq_true rfl, Nat.le_of_ble_eq_true rfl⟩) hK hE hW hS (hs_ix9 (show f < 8 by omega)) (ci := cFi) (r := (RX0, TX0, 11)) rfl rfl rfl rfl hl.1 (Nat.le_of_ble_eq_true rfl) dX4_tour_25 ⟨Nat.zero_le _, Nat.zero_le _⟩ rfl (fun r_ τ_ H locs hp hW hS => ?_)
  obtain ⟨rfl, rfl⟩ := hp
  refine lv_if_eq (tgt := 46) hx hb dX4_tour_28 (by decide) (fun c_28 => ?_) (fun c_28 => ?_)
  · exact absurd c_28 hr1
  · refine lv_aload hx hb dX4_tour_31 (lv_at hl 0 rfl) ?_
    refine va_get (D := D) (ci := cFi) (C := RX0) (T := TX0) (N := 11) (ws := [(L 9 f, hs_ct d L σ 9 f)]) (v := .ref (L 4 ((σ 9 f 0).toNatClampNeg))) hx hb hts (by decide +kernel) hown hK (hW.one (hs_ix9 (show f < 8 by omega))) 0 rfl rfl 0 (by decide) (hts (.fieldLink RX4 140 "Waxrow$Figure" "head" "LWaxrow$Person;") (by decide +kernel)) (fun _ h9 => h9) rfl dX4_tour_33 ?_
    refine va_get (D := D) (ci := cPe) (C := RX2) (T := TX2) (N := 8) (ws := [(L 4 ((σ 9 f 0).toNatClampNeg), hs_ct d L σ 4 ((σ 9 f 0).toNatClampNeg))]) (v := .int (σ 4 ((σ 9 f 0).toNatClampNeg) 5)) hx hb hts (by decide +kernel) hown hK (hW.one (hs_ix4 ((hok.hd f (by omega)).1))) 0 rfl rfl 5 (by decide) (hts (.fieldLink RX4 56 "Waxrow$Person" "consents" "Z") (by decide +kernel)) (fun _ h9 => h9) rfl dX4_tour_36 ?_
    refine lv_if_eq (tgt := 46) hx hb dX4_tour_39 (by decide) (fun c_39 => ?_) (fun c_39 => ?_)
    · exact absurd c_39 hcs
    · refine lv_iconst (v := 1) hx hb dX4_tour_42 (by decide) ?_
      refine lv_goto (tgt := 47) hx hb dX4_tour_43 (by decide) ?_
      refine hs_runv (As := [.int 1]) ⟨hx, hb, hml, hown, hts⟩ (kX4_checkState l D d L σ A 1 (by decide +kernel)) (va_cwS 1 hts gX4_tour_X4_checkState rfl rfl rfl (by decide +kernel) ⟨Nat.le_of_ble_eq_true rfl, Nat.le_of_ble_eq_true rfl⟩) hK hE hW hS rfl hl.1 (Nat.le_of_ble_eq_true rfl) dX4_tour_47 ⟨Nat.zero_le _, Nat.zero_le _⟩ rfl (fun τ_ H locs hp hW hS => ?_)
      obtain rfl := hp
      refine lv_aload hx hb dX4_tour_50 (lv_at hl 0 rfl) ?_
      refine lv_bipush (v := 6) hx hb dX4_tour_52 (by decide) ?_
      refine hs_put (ci := cFi) (C := RX0) (T := TX0) (N := 11) (ty := .int) hx hb hts (by decide +kernel) tyX0 tyX0_ok nmX0 hown hK hW hS 9 f (hs_ix9 (show f < 8 by omega)) rfl rfl 7 (by decide) (hts (.fieldLink RX4 110 "Waxrow$Figure" "place" "I") (by decide +kernel)) (fun _ h9 => h9) rfl (by decide +kernel) rfl rfl (Nat.le_of_ble_eq_true rfl) (hs_sg σ 9 f 7 6) (by simp [hs_ct, hs_sg]) (hs_off _ _ _ _ _) dX4_tour_54 (fun H locs hW hS => ?_)
      refine lv_aload hx hb dX4_tour_57 (lv_at hl 0 rfl) ?_
      refine lv_iload_n hx hb dX4_tour_59 rfl (lv_at hl 3 rfl) ?_
      refine hs_put (ci := cFi) (C := RX0) (T := TX0) (N := 11) (ty := .int) hx hb hts (by decide +kernel) tyX0 tyX0_ok nmX0 hown hK hW hS 9 f (hs_ix9 (show f < 8 by omega)) rfl rfl 8 (by decide) (hts (.fieldLink RX4 144 "Waxrow$Figure" "tourLand" "I") (by decide +kernel)) (fun _ h9 => h9) rfl (by decide +kernel) rfl rfl (Nat.le_of_ble_eq_true rfl) (hs_sg (hs_sg σ 9 f 7 6) 9 f 8 y) (by simp [hs_ct, hs_sg]) (hs_off _ _ _ _ _) dX4_tour_60 (fun H locs hW hS => ?_)
      refine lv_aload hx hb dX4_tour_63 (lv_at hl 0 rfl) ?_
      refine lv_iload_n hx hb dX4_tour_65 rfl (lv_at hl 4 rfl) ?_
      refine hs_put (ci := cFi) (C := RX0) (T := TX0) (N := 11) (ty := .int) hx hb hts (by decide +kernel) tyX0 tyX0_ok nmX0 hown hK hW hS 9 f (hs_ix9 (show f < 8 by omega)) rfl rfl 9 (by decide) (hts (.fieldLink RX4 147 "Waxrow$Figure" "tourDays" "I") (by decide +kernel)) (fun _ h9 => h9) rfl (by decide +kernel) rfl rfl (Nat.le_of_ble_eq_true rfl) (hs_sg (hs_sg (hs_sg σ 9 f 7 6) 9 f 8 y) 9 f 9 z) (by simp [hs_ct, hs_sg]) (hs_off _ _ _ _ _) dX4_tour_66 (fun H locs hW hS => ?_)
      have hd2_ : hs_hd (sp_trip σ f y z) := fun i hi => by simpa [sp_trip, hs_sg] using hok.hd i hi
      refine lv_aload hx hb dX4_tour_69 (lv_at hl 0 rfl) ?_
      refine hs_calli (As := []) ⟨hx, hb, hml, hown, hts⟩ (kX0_likeness l D d L (hs_sg (hs_sg (hs_sg σ 9 f 7 6) 9 f 8 y) 9 f 9 z) A f (show f < 8 by omega) hd2_) (cwV 0 hts gX4_tour_X0_likeness rfl rfl rfl (by decide +kernel) ⟨Nat.le_of_ble_eq_true rfl, Nat.le_of_ble_eq_true rfl⟩) hK hE hW hS (hs_ix9 (show f < 8 by omega)) (ci := cFi) (r := (RX0, TX0, 11)) rfl rfl rfl rfl hl.1 (Nat.le_of_ble_eq_true rfl) dX4_tour_71 ⟨Nat.zero_le _, Nat.zero_le _⟩ rfl (fun r_ τ_ H locs hp hW hS => ?_)
      obtain ⟨rfl, rfl⟩ := hp
      exact W.iret (v := sp_likeness (hs_sg (hs_sg (hs_sg σ 9 f 7 6) 9 f 8 y) 9 f 9 z) f) hx hb hr (fun t ht hW9 => ⟨⟨(sp_likeness (hs_sg (hs_sg (hs_sg σ 9 f 7 6) 9 f 8 y) 9 f 9 z) f), (hs_sg (hs_sg (hs_sg σ 9 f 7 6) 9 f 8 y) 9 f 9 z), rfl, ⟨rfl, rfl⟩, ⟨by rw [ht]; exact hW, va_K.moved hW9.alike hK⟩⟩, hS.F ht⟩) hS.2.2 dX4_tour_74
set_option maxHeartbeats 4000000 in
set_option maxRecDepth 100000 in
/-- lamps -/
theorem kX4_lamps (l : Launch) (D : va_G) (d : hs_Dm) (L : hs_Lo) (σ : hs_St) (A : Nat → Prop) (w : Nat) (L2 : hs_Lo) (hwA : ¬ A w) (P F R : Nat) (hok : hs_ok P F R σ) (r : Nat) (hr5 : r < R) (y : Int32) (hy0 : ¬ y < 0) (hy9 : y ≤ 9) : wx_Mi l yX4_lamps wsX4_lamps ({ frames := 2, cells := 0, slots := 0, locals := 60 }) D d w L L2 σ A [.ref w, .int (nI r), .int y] (fun u τ => σ 10 r 0 = u ∧ hs_sg σ 10 r 0 y = τ) := by
  refine Met.ofW (cc := cX4_lamps) (maxL := 5) (ret := (some .int)) (by decide) rfl ?_
  intro p e s m args below meth c s₁ B hml hv
  obtain ⟨rfl, ⟨⟨hW, hK⟩, hX⟩, hV⟩ := hv
  have hE := hX.1
  have hx := B.exec
  have hb := B.bytes
  have hr := B.returns
  have hts := atoms_spec (ws := wsX4_lamps) B.pre
  have hown : s.vm.findClass RX4 = some m.cls := findClass_of_methodNamed B.named
  have hlocks := B.notSynchronized
  have hS : va_S A s.heap s.heap [] := va_S.rf
  have hW : hs_W D d L σ A s.heap := hW
  have hl := lv_entry ([.ref w, .int (nI r), .int y]) (n := 5) (Nat.le_of_ble_eq_true rfl)
  rw [lg_entry_eq]
  generalize (lg_sl ([.ref w, .int (nI r), .int y]) ++ List.replicate (5 - (lg_sl ([.ref w, .int (nI r), .int y])).length) Slot.unset).toArray = ls at hl ⊢
  have hl : lv_has ls 5 [(0, .ref w), (1, .int (nI r)), (2, .int y)] := hl
  have h10 := hok.1
  have h8 := hok.2.1
  have h5 := hok.2.2.1
  have hd_ := hok.hd
  refine lv_aload_n hx hb dX4_lamps_0 rfl (lv_at hl 0 rfl) ?_
  refine va_get (D := D) (ci := cWx) (C := RX4) (T := TX4) (N := 2) (ws := [(w, .inr (cWx, [.ref (L 0 0), .ref (L2 0 0)]))]) (v := .ref (L 0 0)) hx hb hts (by decide +kernel) hown hK (wx_one hV hS hwA) 0 rfl rfl 0 (by decide) (hts (.fieldLink RX4 10 "Waxrow" "house" "LWaxrow$House;") (by decide +kernel)) (fun _ h9 => h9) rfl dX4_lamps_1 ?_
  refine lv_iload_n hx hb dX4_lamps_4 rfl (lv_at hl 1 rfl) ?_
  refine hs_callr (As := [.int (nI r)]) ⟨hx, hb, hml, hown, hts⟩ (kX1_roomAt l D d L σ A r R hok.hR hr5 hok.2.2.1) (cwV 1 hts gX4_lamps_X1_roomAt rfl rfl rfl (by decide +kernel) ⟨Nat.le_of_ble_eq_true rfl, Nat.le_of_ble_eq_true rfl⟩) hK hE hW hS hs_ix0 (ci := cHo) (r := (RX1, TX1, 11)) rfl rfl rfl rfl hl.1 (Nat.le_of_ble_eq_true rfl) dX4_lamps_5 ⟨Nat.zero_le _, Nat.zero_le _⟩ rfl (fun H locs hW hS => ?_)
  refine lv_astore_n (lv' := [(3, .ref (L 10 r)), (0, .ref w), (1, .int (nI r)), (2, .int y)]) hx hb dX4_lamps_8 rfl hl (by decide) rfl (fun ls hl => ?_)
  refine lv_iload_n hx hb dX4_lamps_9 rfl (lv_at hl 3 rfl) ?_
  refine lv_iconst (v := 0) hx hb dX4_lamps_10 (by decide) ?_
  refine lv_bipush (v := 9) hx hb dX4_lamps_11 (by decide) ?_
  refine hs_runv (As := [.int y, .int 0, .int 9]) ⟨hx, hb, hml, hown, hts⟩ (kX4_checkArgument l D d L σ A y 0 9 hy0 hy9) (va_cwS 3 hts gX4_lamps_X4_checkArgument rfl rfl rfl (by decide +kernel) ⟨Nat.le_of_ble_eq_true rfl, Nat.le_of_ble_eq_true rfl⟩) hK hE hW hS rfl hl.1 (Nat.le_of_ble_eq_true rfl) dX4_lamps_13 ⟨Nat.zero_le _, Nat.zero_le _⟩ rfl (fun τ_ H locs hp hW hS => ?_)
  obtain rfl := hp
  refine lv_aload_n hx hb dX4_lamps_16 rfl (lv_at hl 0 rfl) ?_
  refine va_get (D := D) (ci := cRo) (C := RX3) (T := TX3) (N := 2) (ws := [(L 10 r, hs_ct d L σ 10 r)]) (v := .int (σ 10 r 0)) hx hb hts (by decide +kernel) hown hK (hW.one (hs_ix10 (show r < 5 by omega))) 0 rfl rfl 0 (by decide) (hts (.fieldLink RX4 160 "Waxrow$Room" "lamps" "I") (by decide +kernel)) (fun _ h9 => h9) rfl dX4_lamps_17 ?_
  refine lv_istore (lv' := [(4, .int (σ 10 r 0)), (3, .ref (L 10 r)), (0, .ref w), (1, .int (nI r)), (2, .int y)]) hx hb dX4_lamps_20 hl (by decide) rfl (fun ls hl => ?_)
  refine lv_aload_n hx hb dX4_lamps_22 rfl (lv_at hl 1 rfl) ?_
  refine lv_iload_n hx hb dX4_lamps_23 rfl (lv_at hl 4 rfl) ?_
  refine hs_put (ci := cRo) (C := RX3) (T := TX3) (N := 2) (ty := .int) hx hb hts (by decide +kernel) tyX3 tyX3_ok nmX3 hown hK hW hS 10 r (hs_ix10 (show r < 5 by omega)) rfl rfl 0 (by decide) (hts (.fieldLink RX4 160 "Waxrow$Room" "lamps" "I") (by decide +kernel)) (fun _ h9 => h9) rfl (by decide +kernel) rfl rfl (Nat.le_of_ble_eq_true rfl) (hs_sg σ 10 r 0 y) (by simp [hs_ct, hs_sg]) (hs_off _ _ _ _ _) dX4_lamps_24 (fun H locs hW hS => ?_)
  refine lv_iload hx hb dX4_lamps_27 (lv_at hl 0 rfl) ?_
  exact W.iret (v := σ 10 r 0) hx hb hr (fun t ht hW9 => ⟨⟨(σ 10 r 0), (hs_sg σ 10 r 0 y), rfl, ⟨rfl, rfl⟩, ⟨by rw [ht]; exact hW, va_K.moved hW9.alike hK⟩⟩, hS.F ht⟩) hS.2.2 dX4_lamps_29
set_option maxHeartbeats 4000000 in
set_option maxRecDepth 100000 in
/-- take -/
theorem kX4_take (l : Launch) (D : va_G) (d : hs_Dm) (L : hs_Lo) (σ : hs_St) (A : Nat → Prop) (w : Nat) (L2 : hs_Lo) (hwA : ¬ A w) (P F R : Nat) (hok : hs_ok P F R σ) (f : Nat) (hf : f < F) (hsh : ¬ sp_isShown σ f = 0) : wx_Mi l yX4_take wsX4_take ({ frames := 2, cells := 0, slots := 0, locals := 60 }) D d w L L2 σ A [.ref w, .int (nI f)] (fun r τ => σ 9 f 7 = r ∧ hs_sg σ 9 f 7 5 = τ) := by
  refine Met.ofW (cc := cX4_take) (maxL := 4) (ret := (some .int)) (by decide) rfl ?_
  intro p e s m args below meth c s₁ B hml hv
  obtain ⟨rfl, ⟨⟨hW, hK⟩, hX⟩, hV⟩ := hv
  have hE := hX.1
  have hx := B.exec
  have hb := B.bytes
  have hr := B.returns
  have hts := atoms_spec (ws := wsX4_take) B.pre
  have hown : s.vm.findClass RX4 = some m.cls := findClass_of_methodNamed B.named
  have hlocks := B.notSynchronized
  have hS : va_S A s.heap s.heap [] := va_S.rf
  have hW : hs_W D d L σ A s.heap := hW
  have hl := lv_entry ([.ref w, .int (nI f)]) (n := 4) (Nat.le_of_ble_eq_true rfl)
  rw [lg_entry_eq]
  generalize (lg_sl ([.ref w, .int (nI f)]) ++ List.replicate (4 - (lg_sl ([.ref w, .int (nI f)])).length) Slot.unset).toArray = ls at hl ⊢
  have hl : lv_has ls 4 [(0, .ref w), (1, .int (nI f))] := hl
  have h10 := hok.1
  have h8 := hok.2.1
  have h5 := hok.2.2.1
  have hd_ := hok.hd
  refine lv_aload_n hx hb dX4_take_0 rfl (lv_at hl 0 rfl) ?_
  refine va_get (D := D) (ci := cWx) (C := RX4) (T := TX4) (N := 2) (ws := [(w, .inr (cWx, [.ref (L 0 0), .ref (L2 0 0)]))]) (v := .ref (L 0 0)) hx hb hts (by decide +kernel) hown hK (wx_one hV hS hwA) 0 rfl rfl 0 (by decide) (hts (.fieldLink RX4 10 "Waxrow" "house" "LWaxrow$House;") (by decide +kernel)) (fun _ h9 => h9) rfl dX4_take_1 ?_
  refine lv_iload_n hx hb dX4_take_4 rfl (lv_at hl 1 rfl) ?_
  refine hs_callr (As := [.int (nI f)]) ⟨hx, hb, hml, hown, hts⟩ (kX1_figureAt l D d L σ A f F hok.hF hf hok.2.1) (cwV 1 hts gX4_take_X1_figureAt rfl rfl rfl (by decide +kernel) ⟨Nat.le_of_ble_eq_true rfl, Nat.le_of_ble_eq_true rfl⟩) hK hE hW hS hs_ix0 (ci := cHo) (r := (RX1, TX1, 11)) rfl rfl rfl rfl hl.1 (Nat.le_of_ble_eq_true rfl) dX4_take_5 ⟨Nat.zero_le _, Nat.zero_le _⟩ rfl (fun H locs hW hS => ?_)
  refine lv_astore_n (lv' := [(2, .ref (L 9 f)), (0, .ref w), (1, .int (nI f))]) hx hb dX4_take_8 rfl hl (by decide) rfl (fun ls hl => ?_)
  refine lv_aload_n hx hb dX4_take_9 rfl (lv_at hl 0 rfl) ?_
  refine hs_calli (As := []) ⟨hx, hb, hml, hown, hts⟩ (kX0_isShown l D d L σ A f (show f < 8 by omega)) (cwV 0 hts gX4_take_X0_isShown rfl rfl rfl (by decide +kernel) ⟨Nat.le_of_ble_eq_true rfl, Nat.le_of_ble_eq_true rfl⟩) hK hE hW hS (hs_ix9 (show f < 8 by omega)) (ci := cFi) (r := (RX0, TX0, 11)) rfl rfl rfl rfl hl.1 (Nat.le_of_ble_eq_true rfl) dX4_take_10 ⟨Nat.zero_le _, Nat.zero_le _⟩ rfl (fun r_ τ_ H locs hp hW hS => ?_)
  obtain ⟨rfl, rfl⟩ := hp
  refine hs_runv (As := [.int (sp_isShown σ f)]) ⟨hx, hb, hml, hown, hts⟩ (kX4_checkState l D d L σ A (sp_isShown σ f) hsh) (va_cwS 1 hts gX4_take_X4_checkState rfl rfl rfl (by decide +kernel) ⟨Nat.le_of_ble_eq_true rfl, Nat.le_of_ble_eq_true rfl⟩) hK hE hW hS rfl hl.1 (Nat.le_of_ble_eq_true rfl) dX4_take_13 ⟨Nat.zero_le _, Nat.zero_le _⟩ rfl (fun τ_ H locs hp hW hS => ?_)
  obtain rfl := hp
  refine lv_aload_n hx hb dX4_take_16 rfl (lv_at hl 0 rfl) ?_
  refine va_get (D := D) (ci := cFi) (C := RX0) (T := TX0) (N := 11) (ws := [(L 9 f, hs_ct d L σ 9 f)]) (v := .int (σ 9 f 7)) hx hb hts (by decide +kernel) hown hK (hW.one (hs_ix9 (show f < 8 by omega))) 0 rfl rfl 7 (by decide) (hts (.fieldLink RX4 110 "Waxrow$Figure" "place" "I") (by decide +kernel)) (fun _ h9 => h9) rfl dX4_take_17 ?_
  refine lv_istore_n (lv' := [(3, .int (σ 9 f 7)), (2, .ref (L 9 f)), (0, .ref w), (1, .int (nI f))]) hx hb dX4_take_20 rfl hl (by decide) rfl (fun ls hl => ?_)
  refine lv_aload_n hx hb dX4_take_21 rfl (lv_at hl 1 rfl) ?_
  refine lv_iconst (v := 5) hx hb dX4_take_22 (by decide) ?_
  refine hs_put (ci := cFi) (C := RX0) (T := TX0) (N := 11) (ty := .int) hx hb hts (by decide +kernel) tyX0 tyX0_ok nmX0 hown hK hW hS 9 f (hs_ix9 (show f < 8 by omega)) rfl rfl 7 (by decide) (hts (.fieldLink RX4 110 "Waxrow$Figure" "place" "I") (by decide +kernel)) (fun _ h9 => h9) rfl (by decide +kernel) rfl rfl (Nat.le_of_ble_eq_true rfl) (hs_sg σ 9 f 7 5) (by simp [hs_ct, hs_sg]) (hs_off _ _ _ _ _) dX4_take_23 (fun H locs hW hS => ?_)
  refine lv_iload_n hx hb dX4_take_26 rfl (lv_at hl 0 rfl) ?_
  exact W.iret (v := σ 9 f 7) hx hb hr (fun t ht hW9 => ⟨⟨(σ 9 f 7), (hs_sg σ 9 f 7 5), rfl, ⟨rfl, rfl⟩, ⟨by rw [ht]; exact hW, va_K.moved hW9.alike hK⟩⟩, hS.F ht⟩) hS.2.2 dX4_take_27
set_option maxHeartbeats 4000000 in
set_option maxRecDepth 100000 in
/-- clean -/
theorem kX4_clean (l : Launch) (D : va_G) (d : hs_Dm) (L : hs_Lo) (σ : hs_St) (A : Nat → Prop) (w : Nat) (L2 : hs_Lo) (hwA : ¬ A w) (P F R : Nat) (hok : hs_ok P F R σ) (r : Nat) (hr5 : r < R) : wx_Mi l yX4_clean wsX4_clean ({ frames := 2, cells := 0, slots := 0, locals := 60 }) D d w L L2 σ A [.ref w, .int (nI r)] (fun u τ => sp_clean (hs_sg σ 0 0 7 (σ 0 0 7 - 5)) (nI r) F 0 0 7 = u ∧ sp_clean (hs_sg σ 0 0 7 (σ 0 0 7 - 5)) (nI r) F = τ) := by
  refine Met.ofW (cc := cX4_clean) (maxL := 2) (ret := (some .int)) (by decide) rfl ?_
  intro p e s m args below meth c s₁ B hml hv
  obtain ⟨rfl, ⟨⟨hW, hK⟩, hX⟩, hV⟩ := hv
  have hE := hX.1
  have hx := B.exec
  have hb := B.bytes
  have hr := B.returns
  have hts := atoms_spec (ws := wsX4_clean) B.pre
  have hown : s.vm.findClass RX4 = some m.cls := findClass_of_methodNamed B.named
  have hlocks := B.notSynchronized
  have hS : va_S A s.heap s.heap [] := va_S.rf
  have hW : hs_W D d L σ A s.heap := hW
  have hl := lv_entry ([.ref w, .int (nI r)]) (n := 2) (Nat.le_of_ble_eq_true rfl)
  rw [lg_entry_eq]
  generalize (lg_sl ([.ref w, .int (nI r)]) ++ List.replicate (2 - (lg_sl ([.ref w, .int (nI r)])).length) Slot.unset).toArray = ls at hl ⊢
  have hl : lv_has ls 2 [(0, .ref w), (1, .int (nI r))] := hl
  have h10 := hok.1
  have h8 := hok.2.1
  have h5 := hok.2.2.1
  have hd_ := hok.hd
  refine lv_iload_n hx hb dX4_clean_0 rfl (lv_at hl 1 rfl) ?_
  refine lv_aload_n hx hb dX4_clean_1 rfl (lv_at hl 0 rfl) ?_
  refine va_get (D := D) (ci := cWx) (C := RX4) (T := TX4) (N := 2) (ws := [(w, .inr (cWx, [.ref (L 0 0), .ref (L2 0 0)]))]) (v := .ref (L 0 0)) hx hb hts (by decide +kernel) hown hK (wx_one hV hS hwA) 0 rfl rfl 0 (by decide) (hts (.fieldLink RX4 10 "Waxrow" "house" "LWaxrow$House;") (by decide +kernel)) (fun _ h9 => h9) rfl dX4_clean_2 ?_
  refine va_get (D := D) (ci := cHo) (C := RX1) (T := TX1) (N := 11) (ws := [(L 0 0, hs_ct d L σ 0 0)]) (v := .int (σ 0 0 5)) hx hb hts (by decide +kernel) hown hK (hW.one hs_ix0) 0 rfl rfl 5 (by decide) (hts (.fieldLink RX4 150 "Waxrow$House" "roomCount" "I") (by decide +kernel)) (fun _ h9 => h9) rfl dX4_clean_5 ?_
  refine hs_runv (As := [.int (nI r), .int (σ 0 0 5)]) ⟨hx, hb, hml, hown, hts⟩ (kX4_checkIndex l D d L σ A (nI r) (σ 0 0 5) (nI_pos (by omega)) (by rw [hok.hR]; exact nI_lt hr5 (by omega))) (va_cwS 2 hts gX4_clean_X4_checkIndex rfl rfl rfl (by decide +kernel) ⟨Nat.le_of_ble_eq_true rfl, Nat.le_of_ble_eq_true rfl⟩) hK hE hW hS rfl hl.1 (Nat.le_of_ble_eq_true rfl) dX4_clean_8 ⟨Nat.zero_le _, Nat.zero_le _⟩ rfl (fun τ_ H locs hp hW hS => ?_)
  obtain rfl := hp
  refine lv_aload_n hx hb dX4_clean_11 rfl (lv_at hl 0 rfl) ?_
  refine va_get (D := D) (ci := cWx) (C := RX4) (T := TX4) (N := 2) (ws := [(w, .inr (cWx, [.ref (L 0 0), .ref (L2 0 0)]))]) (v := .ref (L 0 0)) hx hb hts (by decide +kernel) hown hK (wx_one hV hS hwA) 0 rfl rfl 0 (by decide) (hts (.fieldLink RX4 10 "Waxrow" "house" "LWaxrow$House;") (by decide +kernel)) (fun _ h9 => h9) rfl dX4_clean_12 ?_
  refine lv_dup hx hb dX4_clean_15 rfl ?_
  refine va_get (D := D) (ci := cHo) (C := RX1) (T := TX1) (N := 11) (ws := [(L 0 0, hs_ct d L σ 0 0)]) (v := .int (σ 0 0 7)) hx hb hts (by decide +kernel) hown hK (hW.one hs_ix0) 0 rfl rfl 7 (by decide) (hts (.fieldLink RX4 85 "Waxrow$House" "money" "I") (by decide +kernel)) (fun _ h9 => h9) rfl dX4_clean_16 ?_
  refine lv_iconst (v := 5) hx hb dX4_clean_19 (by decide) ?_
  refine lv_isub hx hb dX4_clean_20 ?_
  refine hs_put (ci := cHo) (C := RX1) (T := TX1) (N := 11) (ty := .int) hx hb hts (by decide +kernel) tyX1 tyX1_ok nmX1 hown hK hW hS 0 0 hs_ix0 rfl rfl 7 (by decide) (hts (.fieldLink RX4 85 "Waxrow$House" "money" "I") (by decide +kernel)) (fun _ h9 => h9) rfl (by decide +kernel) rfl rfl (Nat.le_of_ble_eq_true rfl) (hs_sg σ 0 0 7 ((σ 0 0 7) - 5)) (by simp [hs_ct, hs_sg]) (hs_off _ _ _ _ _) dX4_clean_21 (fun H locs hW hS => ?_)
  refine lv_aload_n hx hb dX4_clean_24 rfl (lv_at hl 0 rfl) ?_
  refine va_get (D := D) (ci := cWx) (C := RX4) (T := TX4) (N := 2) (ws := [(w, .inr (cWx, [.ref (L 0 0), .ref (L2 0 0)]))]) (v := .ref (L 0 0)) hx hb hts (by decide +kernel) hown hK (wx_one hV hS hwA) 0 rfl rfl 0 (by decide) (hts (.fieldLink RX4 10 "Waxrow" "house" "LWaxrow$House;") (by decide +kernel)) (fun _ h9 => h9) rfl dX4_clean_25 ?_
  refine lv_iload_n hx hb dX4_clean_28 rfl (lv_at hl 1 rfl) ?_
  refine hs_callv (As := [.int (nI r)]) ⟨hx, hb, hml, hown, hts⟩ (kX1_cleanFiguresIn l D d L (hs_sg σ 0 0 7 ((σ 0 0 7) - 5)) A (nI r) F (by simp only [hs_sg]; exact hok.hF) hok.2.1) (cwV 1 hts gX4_clean_X1_cleanFiguresIn rfl rfl rfl (by decide +kernel) ⟨Nat.le_of_ble_eq_true rfl, Nat.le_of_ble_eq_true rfl⟩) hK hE hW hS hs_ix0 (ci := cHo) (r := (RX1, TX1, 11)) rfl rfl rfl rfl hl.1 (Nat.le_of_ble_eq_true rfl) dX4_clean_29 ⟨Nat.zero_le _, Nat.zero_le _⟩ rfl (fun τ_ H locs hp hW hS => ?_)
  obtain rfl := hp
  refine lv_aload_n hx hb dX4_clean_32 rfl (lv_at hl 0 rfl) ?_
  refine va_get (D := D) (ci := cWx) (C := RX4) (T := TX4) (N := 2) (ws := [(w, .inr (cWx, [.ref (L 0 0), .ref (L2 0 0)]))]) (v := .ref (L 0 0)) hx hb hts (by decide +kernel) hown hK (wx_one hV hS hwA) 0 rfl rfl 0 (by decide) (hts (.fieldLink RX4 10 "Waxrow" "house" "LWaxrow$House;") (by decide +kernel)) (fun _ h9 => h9) rfl dX4_clean_33 ?_
  refine va_get (D := D) (ci := cHo) (C := RX1) (T := TX1) (N := 11) (ws := [(L 0 0, hs_ct d L (sp_clean (hs_sg σ 0 0 7 ((σ 0 0 7) - 5)) (nI r) F) 0 0)]) (v := .int ((sp_clean (hs_sg σ 0 0 7 ((σ 0 0 7) - 5)) (nI r) F) 0 0 7)) hx hb hts (by decide +kernel) hown hK (hW.one hs_ix0) 0 rfl rfl 7 (by decide) (hts (.fieldLink RX4 85 "Waxrow$House" "money" "I") (by decide +kernel)) (fun _ h9 => h9) rfl dX4_clean_36 ?_
  exact W.iret (v := (sp_clean (hs_sg σ 0 0 7 ((σ 0 0 7) - 5)) (nI r) F) 0 0 7) hx hb hr (fun t ht hW9 => ⟨⟨((sp_clean (hs_sg σ 0 0 7 ((σ 0 0 7) - 5)) (nI r) F) 0 0 7), (sp_clean (hs_sg σ 0 0 7 ((σ 0 0 7) - 5)) (nI r) F), rfl, ⟨rfl, rfl⟩, ⟨by rw [ht]; exact hW, va_K.moved hW9.alike hK⟩⟩, hS.F ht⟩) hS.2.2 dX4_clean_39
