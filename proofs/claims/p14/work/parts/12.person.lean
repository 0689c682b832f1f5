/-! THE PERSON: doubt, fame behind months, a month -/
def sp_width (σ : hs_St) (q : Nat) : Nat → Int32
  | 0 => 0
  | n + 1 => sp_width σ q n + (σ 8 q n - σ 7 q n)
def sp_doubt (σ : hs_St) (q : Nat) : Int32 := sp_width σ q 6 / 6
def sp_ft (x y : Int32) : Nat → Int32 × Int32
  | 0 => (x, y)
  | n + 1 => (sp_held ((sp_ft x y n).1 + (sp_ft x y n).2), sp_nearer (sp_ft x y n).2)
def sp_fame (σ : hs_St) (q j M : Nat) : Int32 := (sp_ft (σ 5 q j) (σ 6 q j) M).1
def sp_mon (σ : hs_St) (q : Nat) : Nat → hs_St
  | 0 => σ
  | n + 1 => hs_sg (hs_sg (sp_mon σ q n) 5 q n (sp_held (sp_mon σ q n 5 q n + sp_mon σ q n 6 q n))) 6 q n (sp_nearer (sp_mon σ q n 6 q n))
theorem hs_arr (σ : hs_St) (k q j : Nat) (v : Int32) : hs_sg σ k q j v k q = upd (σ k q) j v := by
  funext z
  simp [hs_sg, upd]
theorem sp_six : (6 : Int32) = nI 6 := by decide +kernel
theorem sp_three : (3 : Int32) = nI 3 := by decide +kernel
set_option maxHeartbeats 4000000 in
set_option maxRecDepth 100000 in
/-- doubt: the loop at 4 -/
theorem lkX2_doubt (l : Launch) (D : va_G) (d : hs_Dm) (L : hs_Lo) (σ : hs_St) (A : Nat → Prop) {p : Program} {e : Env} {s : State} {m : MethodId} {args : Array Value} {below : List Frame} {meth : Method} {c : Code} (q : Nat) (hq : q < 10)  (hx : p.tables.exec = Jvm.exec) (hb : c.code = cX2_doubt) (hr : meth.sig.returnType = (some .int)) (hts : ∀ w ∈ wsX2_doubt, w.before args s = true) (hown : s.vm.findClass RX2 = some m.cls) (hlocks : meth.locks = false) (hml : c.maxLocals = 3) (hK : va_K D vwCl (hs_ty d) s) (hE : hs_E d.2.2.2.2 A s)  : ∀ (k n : Nat), n + k = 6 → ∀ (H : Heap) (locs : List Loc), hs_W D d L σ A H → va_S A s.heap H locs → ∀ ls : Array Slot, lv_has ls 3 [(0, .ref (L 4 q)), (1, .int (sp_width σ q n)), (2, .int (nI n))] → W p l e ({ frames := 0, cells := 0, slots := 0, locals := 0 } : Room) s m args below meth c H locs 0 0 (MQ below (va_Qi (fun r τ => sp_doubt σ q = r ∧ σ = τ) (fun τ t => hs_B D d L τ A t) A) args s 0 0 A) (F0 m 4 ls []) := by
  intro k
  induction k with
  | zero =>
    intro n hn H locs hW hS ls hl
    have hnN : n = 6 := by omega
    refine lv_iload_n hx hb dX2_doubt_4 rfl (lv_at hl 2 rfl) ?_
    refine lv_bipush (v := 6) hx hb dX2_doubt_5 (by decide) ?_
    refine lv_icmp_ge (tgt := 32) hx hb dX2_doubt_7 (by decide) (fun c_7 => ?_) (fun c_7 => ?_)
    · refine lv_iload_n hx hb dX2_doubt_32 rfl (lv_at hl 1 rfl) ?_
      refine lv_bipush (v := 6) hx hb dX2_doubt_33 (by decide) ?_
      refine lv_idiv hx hb dX2_doubt_35 (by decide) ?_
      exact W.iret (v := (sp_width σ q n) / 6) hx hb hr (fun t ht hW9 => ⟨⟨((sp_width σ q n) / 6), σ, rfl, ⟨by rw [hnN]; rfl, rfl⟩, ⟨by rw [ht]; exact hW, va_K.moved hW9.alike hK⟩⟩, hS.F ht⟩) hS.2.2 dX2_doubt_36
    · exact absurd (by rw [sp_six, hnN]; exact nI_le (Nat.le_refl _) (by omega)) c_7
  | succ k ih =>
    intro n hn H locs hW hS ls hl
    have hnN : n < 6 := by omega
    refine lv_iload_n hx hb dX2_doubt_4 rfl (lv_at hl 2 rfl) ?_
    refine lv_bipush (v := 6) hx hb dX2_doubt_5 (by decide) ?_
    refine lv_icmp_ge (tgt := 32) hx hb dX2_doubt_7 (by decide) (fun c_7 => ?_) (fun c_7 => ?_)
    · exact absurd (by rw [sp_six] at c_7; exact c_7) (nI_ge hnN (by omega))
    · refine lv_iload_n hx hb dX2_doubt_10 rfl (lv_at hl 1 rfl) ?_
      refine lv_aload_n hx hb dX2_doubt_11 rfl (lv_at hl 0 rfl) ?_
      refine va_get (D := D) (ci := cPe) (C := RX2) (T := TX2) (N := 8) (ws := [(L 4 q, hs_ct d L σ 4 q)]) (v := .ref (L 8 q)) hx hb hts (by decide +kernel) hown hK (hW.one (hs_ix4 hq)) 0 rfl rfl 4 (by decide) (hts (.fieldLink RX2 25 "Waxrow$Person" "high" "[I") (by decide +kernel)) (fun _ h9 => h9) rfl dX2_doubt_12 ?_
      refine lv_iload_n hx hb dX2_doubt_15 rfl (lv_at hl 2 rfl) ?_
      refine hs_iald (n := 6) (f := σ 8 q) hx hb hK hW 8 q (hs_ix8 hq) rfl (vp_in_nI (show n < 6 by omega) (by decide)) dX2_doubt_16 ?_
      rw [show σ 8 q (nI n : Int32).toNatClampNeg = σ 8 q n from by simp [hs_sg, nI_clamp (show n < 2 ^ 31 by omega)]]
      refine lv_aload_n hx hb dX2_doubt_17 rfl (lv_at hl 0 rfl) ?_
      refine va_get (D := D) (ci := cPe) (C := RX2) (T := TX2) (N := 8) (ws := [(L 4 q, hs_ct d L σ 4 q)]) (v := .ref (L 7 q)) hx hb hts (by decide +kernel) hown hK (hW.one (hs_ix4 hq)) 0 rfl rfl 3 (by decide) (hts (.fieldLink RX2 22 "Waxrow$Person" "low" "[I") (by decide +kernel)) (fun _ h9 => h9) rfl dX2_doubt_18 ?_
      refine lv_iload_n hx hb dX2_doubt_21 rfl (lv_at hl 2 rfl) ?_
      refine hs_iald (n := 6) (f := σ 7 q) hx hb hK hW 7 q (hs_ix7 hq) rfl (vp_in_nI (show n < 6 by omega) (by decide)) dX2_doubt_22 ?_
      rw [show σ 7 q (nI n : Int32).toNatClampNeg = σ 7 q n from by simp [hs_sg, nI_clamp (show n < 2 ^ 31 by omega)]]
      refine lv_isub hx hb dX2_doubt_23 ?_
      refine lv_iadd hx hb dX2_doubt_24 ?_
      refine lv_istore_n (lv' := [(1, .int ((sp_width σ q n) + ((σ 8 q n) - (σ 7 q n)))), (0, .ref (L 4 q)), (2, .int (nI n))]) hx hb dX2_doubt_25 rfl hl (by decide) rfl (fun ls hl => ?_)
      refine lv_iinc (v := nI (n + 1)) (lv' := [(2, .int (nI (n + 1))), (1, .int ((sp_width σ q n) + ((σ 8 q n) - (σ 7 q n)))), (0, .ref (L 4 q))]) hx hb dX2_doubt_26 hl (k := 2) rfl (nI_succ _).symm (by decide) rfl (fun ls hl => ?_)
      refine lv_goto (tgt := 4) hx hb dX2_doubt_29 (by decide) ?_
      have e_1 : (sp_width σ q n) + ((σ 8 q n) - (σ 7 q n)) = sp_width σ q (n + 1) := rfl
      rw [e_1] at hl
      exact ih (n + 1) (by omega) _ _ hW hS ls (lv_sub hl [2, 1, 0] rfl)
set_option maxHeartbeats 4000000 in
set_option maxRecDepth 100000 in
/-- doubt -/
theorem kX2_doubt (l : Launch) (D : va_G) (d : hs_Dm) (L : hs_Lo) (σ : hs_St) (A : Nat → Prop) (q : Nat) (hq : q < 10) : hs_Mi l yX2_doubt wsX2_doubt ({ frames := 0, cells := 0, slots := 0, locals := 0 }) D d L σ A [.ref (L 4 q)] (fun r τ => sp_doubt σ q = r ∧ σ = τ) := by
  refine Met.ofW (cc := cX2_doubt) (maxL := 3) (ret := (some .int)) (by decide) rfl ?_
  intro p e s m args below meth c s₁ B hml hv
  obtain ⟨rfl, ⟨hW, hK⟩, hE⟩ := hv
  have hx := B.exec
  have hb := B.bytes
  have hr := B.returns
  have hts := atoms_spec (ws := wsX2_doubt) B.pre
  have hown : s.vm.findClass RX2 = some m.cls := findClass_of_methodNamed B.named
  have hlocks := B.notSynchronized
  have hS : va_S A s.heap s.heap [] := va_S.rf
  have hW : hs_W D d L σ A s.heap := hW
  have hl := lv_entry ([.ref (L 4 q)]) (n := 3) (Nat.le_of_ble_eq_true rfl)
  rw [lg_entry_eq]
  generalize (lg_sl ([.ref (L 4 q)]) ++ List.replicate (3 - (lg_sl ([.ref (L 4 q)])).length) Slot.unset).toArray = ls at hl ⊢
  have hl : lv_has ls 3 [(0, .ref (L 4 q))] := hl
  refine lv_iconst (v := 0) hx hb dX2_doubt_0 (by decide) ?_
  refine lv_istore_n (lv' := [(1, .int 0), (0, .ref (L 4 q))]) hx hb dX2_doubt_1 rfl hl (by decide) rfl (fun ls hl => ?_)
  refine lv_iconst (v := 0) hx hb dX2_doubt_2 (by decide) ?_
  refine lv_istore_n (lv' := [(2, .int 0), (1, .int 0), (0, .ref (L 4 q))]) hx hb dX2_doubt_3 rfl hl (by decide) rfl (fun ls hl => ?_)
  exact lkX2_doubt l D d L σ A q hq hx hb hr hts hown hlocks hml hK hE  6 0 (by omega) _ _ hW hS ls (lv_sub hl [2, 1, 0] rfl)
set_option maxHeartbeats 4000000 in
set_option maxRecDepth 100000 in
/-- fameBehind: the loop at 18 -/
theorem lkX2_fameBehind (l : Launch) (D : va_G) (d : hs_Dm) (L : hs_Lo) (σ : hs_St) (A : Nat → Prop) {p : Program} {e : Env} {s : State} {m : MethodId} {args : Array Value} {below : List Frame} {meth : Method} {c : Code} (q : Nat) (hq : q < 10) (j : Nat) (hj : j < 3) (M : Nat) (hM : M ≤ 60)  (hx : p.tables.exec = Jvm.exec) (hb : c.code = cX2_fameBehind) (hr : meth.sig.returnType = (some .int)) (hts : ∀ w ∈ wsX2_fameBehind, w.before args s = true) (hown : s.vm.findClass RX2 = some m.cls) (hlocks : meth.locks = false) (hml : c.maxLocals = 6) (hK : va_K D vwCl (hs_ty d) s) (hE : hs_E d.2.2.2.2 A s)  : ∀ (k n : Nat), n + k = M → ∀ (H : Heap) (locs : List Loc), hs_W D d L σ A H → va_S A s.heap H locs → ∀ ls : Array Slot, lv_has ls 6 [(0, .ref (L 4 q)), (1, .int (nI j)), (2, .int (nI M)), (3, .int ((sp_ft (σ 5 q j) (σ 6 q j) n).1)), (4, .int ((sp_ft (σ 5 q j) (σ 6 q j) n).2)), (5, .int (nI n))] → W p l e ({ frames := 1, cells := 0, slots := 0, locals := 20 } : Room) s m args below meth c H locs 0 0 (MQ below (va_Qi (fun r τ => sp_fame σ q j M = r ∧ σ = τ) (fun τ t => hs_B D d L τ A t) A) args s 0 0 A) (F0 m 18 ls []) := by
  intro k
  induction k with
  | zero =>
    intro n hn H locs hW hS ls hl
    have hnN : n = M := by omega
    refine lv_iload hx hb dX2_fameBehind_18 (lv_at hl 5 rfl) ?_
    refine lv_iload_n hx hb dX2_fameBehind_20 rfl (lv_at hl 2 rfl) ?_
    refine lv_icmp_ge (tgt := 45) hx hb dX2_fameBehind_21 (by decide) (fun c_21 => ?_) (fun c_21 => ?_)
    · refine lv_iload_n hx hb dX2_fameBehind_45 rfl (lv_at hl 3 rfl) ?_
      exact W.iret (v := (sp_ft (σ 5 q j) (σ 6 q j) n).1) hx hb hr (fun t ht hW9 => ⟨⟨((sp_ft (σ 5 q j) (σ 6 q j) n).1), σ, rfl, ⟨by rw [hnN]; rfl, rfl⟩, ⟨by rw [ht]; exact hW, va_K.moved hW9.alike hK⟩⟩, hS.F ht⟩) hS.2.2 dX2_fameBehind_46
    · exact absurd (by rw [show nI M = nI M from rfl, hnN]; exact nI_le (Nat.le_refl _) (by omega)) c_21
  | succ k ih =>
    intro n hn H locs hW hS ls hl
    have hnN : n < M := by omega
    refine lv_iload hx hb dX2_fameBehind_18 (lv_at hl 5 rfl) ?_
    refine lv_iload_n hx hb dX2_fameBehind_20 rfl (lv_at hl 2 rfl) ?_
    refine lv_icmp_ge (tgt := 45) hx hb dX2_fameBehind_21 (by decide) (fun c_21 => ?_) (fun c_21 => ?_)
    · exact absurd (by rw [show nI M = nI M from rfl] at c_21; exact c_21) (nI_ge hnN (by omega))
    · refine lv_iload_n hx hb dX2_fameBehind_24 rfl (lv_at hl 3 rfl) ?_
      refine lv_iload hx hb dX2_fameBehind_25 (lv_at hl 4 rfl) ?_
      refine lv_iadd hx hb dX2_fameBehind_27 ?_
      refine hs_runi (As := [.int (((sp_ft (σ 5 q j) (σ 6 q j) n).1) + ((sp_ft (σ 5 q j) (σ 6 q j) n).2))]) ⟨hx, hb, hml, hown, hts⟩ (kX2_heldFame l D d L σ A (((sp_ft (σ 5 q j) (σ 6 q j) n).1) + ((sp_ft (σ 5 q j) (σ 6 q j) n).2))) (va_cwS 1 hts gX2_fameBehind_X2_heldFame rfl rfl rfl (by decide +kernel) ⟨Nat.le_of_ble_eq_true rfl, Nat.le_of_ble_eq_true rfl⟩) hK hE hW hS rfl hl.1 (Nat.le_of_ble_eq_true rfl) dX2_fameBehind_28 ⟨Nat.zero_le _, Nat.zero_le _⟩ rfl (fun r_ τ_ H locs hp hW hS => ?_)
      obtain ⟨rfl, rfl⟩ := hp
      refine lv_istore_n (lv' := [(3, .int (sp_held (((sp_ft (σ 5 q j) (σ 6 q j) n).1) + ((sp_ft (σ 5 q j) (σ 6 q j) n).2)))), (0, .ref (L 4 q)), (1, .int (nI j)), (2, .int (nI M)), (4, .int ((sp_ft (σ 5 q j) (σ 6 q j) n).2)), (5, .int (nI n))]) hx hb dX2_fameBehind_31 rfl hl (by decide) rfl (fun ls hl => ?_)
      refine lv_iload hx hb dX2_fameBehind_32 (lv_at hl 4 rfl) ?_
      refine hs_runi (As := [.int ((sp_ft (σ 5 q j) (σ 6 q j) n).2)]) ⟨hx, hb, hml, hown, hts⟩ (kX2_nearerToZero l D d L σ A ((sp_ft (σ 5 q j) (σ 6 q j) n).2)) (va_cwS 1 hts gX2_fameBehind_X2_nearerToZero rfl rfl rfl (by decide +kernel) ⟨Nat.le_of_ble_eq_true rfl, Nat.le_of_ble_eq_true rfl⟩) hK hE hW hS rfl hl.1 (Nat.le_of_ble_eq_true rfl) dX2_fameBehind_34 ⟨Nat.zero_le _, Nat.zero_le _⟩ rfl (fun r_ τ_ H locs hp hW hS => ?_)
      obtain ⟨rfl, rfl⟩ := hp
      refine lv_istore (lv' := [(4, .int (sp_nearer ((sp_ft (σ 5 q j) (σ 6 q j) n).2))), (3, .int (sp_held (((sp_ft (σ 5 q j) (σ 6 q j) n).1) + ((sp_ft (σ 5 q j) (σ 6 q j) n).2)))), (0, .ref (L 4 q)), (1, .int (nI j)), (2, .int (nI M)), (5, .int (nI n))]) hx hb dX2_fameBehind_37 hl (by decide) rfl (fun ls hl => ?_)
      refine lv_iinc (v := nI (n + 1)) (lv' := [(5, .int (nI (n + 1))), (4, .int (sp_nearer ((sp_ft (σ 5 q j) (σ 6 q j) n).2))), (3, .int (sp_held (((sp_ft (σ 5 q j) (σ 6 q j) n).1) + ((sp_ft (σ 5 q j) (σ 6 q j) n).2)))), (0, .ref (L 4 q)), (1, .int (nI j)), (2, .int (nI M))]) hx hb dX2_fameBehind_39 hl (k := 5) rfl (nI_succ _).symm (by decide) rfl (fun ls hl => ?_)
      refine lv_goto (tgt := 18) hx hb dX2_fameBehind_42 (by decide) ?_
      have e_3 : sp_held (((sp_ft (σ 5 q j) (σ 6 q j) n).1) + ((sp_ft (σ 5 q j) (σ 6 q j) n).2)) = (sp_ft (σ 5 q j) (σ 6 q j) (n + 1)).1 := rfl
      rw [e_3] at hl
      have e_4 : sp_nearer ((sp_ft (σ 5 q j) (σ 6 q j) n).2) = (sp_ft (σ 5 q j) (σ 6 q j) (n + 1)).2 := rfl
      rw [e_4] at hl
      exact ih (n + 1) (by omega) _ _ hW hS ls (lv_sub hl [3, 4, 5, 2, 1, 0] rfl)
set_option maxHeartbeats 4000000 in
set_option maxRecDepth 100000 in
/-- fameBehind -/
theorem kX2_fameBehind (l : Launch) (D : va_G) (d : hs_Dm) (L : hs_Lo) (σ : hs_St) (A : Nat → Prop) (q : Nat) (hq : q < 10) (j : Nat) (hj : j < 3) (M : Nat) (hM : M ≤ 60) : hs_Mi l yX2_fameBehind wsX2_fameBehind ({ frames := 1, cells := 0, slots := 0, locals := 20 }) D d L σ A [.ref (L 4 q), .int (nI j), .int (nI M)] (fun r τ => sp_fame σ q j M = r ∧ σ = τ) := by
  refine Met.ofW (cc := cX2_fameBehind) (maxL := 6) (ret := (some .int)) (by decide) rfl ?_
  intro p e s m args below meth c s₁ B hml hv
  obtain ⟨rfl, ⟨hW, hK⟩, hE⟩ := hv
  have hx := B.exec
  have hb := B.bytes
  have hr := B.returns
  have hts := atoms_spec (ws := wsX2_fameBehind) B.pre
  have hown : s.vm.findClass RX2 = some m.cls := findClass_of_methodNamed B.named
  have hlocks := B.notSynchronized
  have hS : va_S A s.heap s.heap [] := va_S.rf
  have hW : hs_W D d L σ A s.heap := hW
  have hl := lv_entry ([.ref (L 4 q), .int (nI j), .int (nI M)]) (n := 6) (Nat.le_of_ble_eq_true rfl)
  rw [lg_entry_eq]
  generalize (lg_sl ([.ref (L 4 q), .int (nI j), .int (nI M)]) ++ List.replicate (6 - (lg_sl ([.ref (L 4 q), .int (nI j), .int (nI M)])).length) Slot.unset).toArray = ls at hl ⊢
  have hl : lv_has ls 6 [(0, .ref (L 4 q)), (1, .int (nI j)), (2, .int (nI M))] := hl
  refine lv_aload_n hx hb dX2_fameBehind_0 rfl (lv_at hl 0 rfl) ?_
  refine va_get (D := D) (ci := cPe) (C := RX2) (T := TX2) (N := 8) (ws := [(L 4 q, hs_ct d L σ 4 q)]) (v := .ref (L 5 q)) hx hb hts (by decide +kernel) hown hK (hW.one (hs_ix4 hq)) 0 rfl rfl 1 (by decide) (hts (.fieldLink RX2 15 "Waxrow$Person" "fame" "[I") (by decide +kernel)) (fun _ h9 => h9) rfl dX2_fameBehind_1 ?_
  refine lv_iload_n hx hb dX2_fameBehind_4 rfl (lv_at hl 1 rfl) ?_
  refine hs_iald (n := 3) (f := σ 5 q) hx hb hK hW 5 q (hs_ix5 hq) rfl (vp_in_nI (show j < 3 by omega) (by decide)) dX2_fameBehind_5 ?_
  rw [show σ 5 q (nI j : Int32).toNatClampNeg = σ 5 q j from by simp [hs_sg, nI_clamp (show j < 2 ^ 31 by omega)]]
  refine lv_istore_n (lv' := [(3, .int (σ 5 q j)), (0, .ref (L 4 q)), (1, .int (nI j)), (2, .int (nI M))]) hx hb dX2_fameBehind_6 rfl hl (by decide) rfl (fun ls hl => ?_)
  refine lv_aload_n hx hb dX2_fameBehind_7 rfl (lv_at hl 1 rfl) ?_
  refine va_get (D := D) (ci := cPe) (C := RX2) (T := TX2) (N := 8) (ws := [(L 4 q, hs_ct d L σ 4 q)]) (v := .ref (L 6 q)) hx hb hts (by decide +kernel) hown hK (hW.one (hs_ix4 hq)) 0 rfl rfl 2 (by decide) (hts (.fieldLink RX2 19 "Waxrow$Person" "trend" "[I") (by decide +kernel)) (fun _ h9 => h9) rfl dX2_fameBehind_8 ?_
  refine lv_iload_n hx hb dX2_fameBehind_11 rfl (lv_at hl 2 rfl) ?_
  refine hs_iald (n := 3) (f := σ 6 q) hx hb hK hW 6 q (hs_ix6 hq) rfl (vp_in_nI (show j < 3 by omega) (by decide)) dX2_fameBehind_12 ?_
  rw [show σ 6 q (nI j : Int32).toNatClampNeg = σ 6 q j from by simp [hs_sg, nI_clamp (show j < 2 ^ 31 by omega)]]
  refine lv_istore (lv' := [(4, .int (σ 6 q j)), (3, .int (σ 5 q j)), (0, .ref (L 4 q)), (1, .int (nI j)), (2, .int (nI M))]) hx hb dX2_fameBehind_13 hl (by decide) rfl (fun ls hl => ?_)
  refine lv_iconst (v := 0) hx hb dX2_fameBehind_15 (by decide) ?_
  refine lv_istore (lv' := [(5, .int 0), (4, .int (σ 6 q j)), (3, .int (σ 5 q j)), (0, .ref (L 4 q)), (1, .int (nI j)), (2, .int (nI M))]) hx hb dX2_fameBehind_16 hl (by decide) rfl (fun ls hl => ?_)
  exact lkX2_fameBehind l D d L σ A q hq j hj M hM hx hb hr hts hown hlocks hml hK hE  M 0 (by omega) _ _ hW hS ls (lv_sub hl [3, 4, 5, 2, 1, 0] rfl)
set_option maxHeartbeats 4000000 in
set_option maxRecDepth 100000 in
/-- beginMonth: the loop at 2 -/
theorem lkX2_beginMonth (l : Launch) (D : va_G) (d : hs_Dm) (L : hs_Lo) (σ : hs_St) (A : Nat → Prop) {p : Program} {e : Env} {s : State} {m : MethodId} {args : Array Value} {below : List Frame} {meth : Method} {c : Code} (q : Nat) (hq : q < 10)  (hx : p.tables.exec = Jvm.exec) (hb : c.code = cX2_beginMonth) (hr : meth.sig.returnType = none) (hts : ∀ w ∈ wsX2_beginMonth, w.before args s = true) (hown : s.vm.findClass RX2 = some m.cls) (hlocks : meth.locks = false) (hml : c.maxLocals = 2) (hK : va_K D vwCl (hs_ty d) s) (hE : hs_E d.2.2.2.2 A s)  : ∀ (k n : Nat), n + k = 3 → ∀ (H : Heap) (locs : List Loc), hs_W D d L (sp_mon σ q n) A H → va_S A s.heap H locs → ∀ ls : Array Slot, lv_has ls 2 [(0, .ref (L 4 q)), (1, .int (nI n))] → W p l e ({ frames := 1, cells := 0, slots := 0, locals := 20 } : Room) s m args below meth c H locs 0 0 (MQ below (va_Qv (fun τ => sp_mon σ q 3 = τ) (fun τ t => hs_B D d L τ A t) A) args s 0 0 A) (F0 m 2 ls []) := by
  intro k
  induction k with
  | zero =>
    intro n hn H locs hW hS ls hl
    have hnN : n = 3 := by omega
    refine lv_iload_n hx hb dX2_beginMonth_2 rfl (lv_at hl 1 rfl) ?_
    refine lv_iconst (v := 3) hx hb dX2_beginMonth_3 (by decide) ?_
    refine lv_icmp_ge (tgt := 50) hx hb dX2_beginMonth_4 (by decide) (fun c_4 => ?_) (fun c_4 => ?_)
    · exact W.vret hx hb hr (fun t ht hW9 => ⟨⟨(sp_mon σ q n), rfl, (by rw [hnN]), ⟨by rw [ht]; exact hW, va_K.moved hW9.alike hK⟩⟩, hS.F ht⟩) hS.2.2 dX2_beginMonth_50
    · exact absurd (by rw [sp_three, hnN]; exact nI_le (Nat.le_refl _) (by omega)) c_4
  | succ k ih =>
    intro n hn H locs hW hS ls hl
    have hnN : n < 3 := by omega
    refine lv_iload_n hx hb dX2_beginMonth_2 rfl (lv_at hl 1 rfl) ?_
    refine lv_iconst (v := 3) hx hb dX2_beginMonth_3 (by decide) ?_
    refine lv_icmp_ge (tgt := 50) hx hb dX2_beginMonth_4 (by decide) (fun c_4 => ?_) (fun c_4 => ?_)
    · exact absurd (by rw [sp_three] at c_4; exact c_4) (nI_ge hnN (by omega))
    · refine lv_aload_n hx hb dX2_beginMonth_7 rfl (lv_at hl 0 rfl) ?_
      refine va_get (D := D) (ci := cPe) (C := RX2) (T := TX2) (N := 8) (ws := [(L 4 q, hs_ct d L (sp_mon σ q n) 4 q)]) (v := .ref (L 5 q)) hx hb hts (by decide +kernel) hown hK (hW.one (hs_ix4 hq)) 0 rfl rfl 1 (by decide) (hts (.fieldLink RX2 15 "Waxrow$Person" "fame" "[I") (by decide +kernel)) (fun _ h9 => h9) rfl dX2_beginMonth_8 ?_
      refine lv_iload_n hx hb dX2_beginMonth_11 rfl (lv_at hl 1 rfl) ?_
      refine lv_aload_n hx hb dX2_beginMonth_12 rfl (lv_at hl 0 rfl) ?_
      refine va_get (D := D) (ci := cPe) (C := RX2) (T := TX2) (N := 8) (ws := [(L 4 q, hs_ct d L (sp_mon σ q n) 4 q)]) (v := .ref (L 5 q)) hx hb hts (by decide +kernel) hown hK (hW.one (hs_ix4 hq)) 0 rfl rfl 1 (by decide) (hts (.fieldLink RX2 15 "Waxrow$Person" "fame" "[I") (by decide +kernel)) (fun _ h9 => h9) rfl dX2_beginMonth_13 ?_
      refine lv_iload_n hx hb dX2_beginMonth_16 rfl (lv_at hl 1 rfl) ?_
      refine hs_iald (n := 3) (f := (sp_mon σ q n) 5 q) hx hb hK hW 5 q (hs_ix5 hq) rfl (vp_in_nI (show n < 3 by omega) (by decide)) dX2_beginMonth_17 ?_
      rw [show (sp_mon σ q n) 5 q (nI n : Int32).toNatClampNeg = (sp_mon σ q n) 5 q n from by simp [hs_sg, nI_clamp (show n < 2 ^ 31 by omega)]]
      refine lv_aload_n hx hb dX2_beginMonth_18 rfl (lv_at hl 0 rfl) ?_
      refine va_get (D := D) (ci := cPe) (C := RX2) (T := TX2) (N := 8) (ws := [(L 4 q, hs_ct d L (sp_mon σ q n) 4 q)]) (v := .ref (L 6 q)) hx hb hts (by decide +kernel) hown hK (hW.one (hs_ix4 hq)) 0 rfl rfl 2 (by decide) (hts (.fieldLink RX2 19 "Waxrow$Person" "trend" "[I") (by decide +kernel)) (fun _ h9 => h9) rfl dX2_beginMonth_19 ?_
      refine lv_iload_n hx hb dX2_beginMonth_22 rfl (lv_at hl 1 rfl) ?_
      refine hs_iald (n := 3) (f := (sp_mon σ q n) 6 q) hx hb hK hW 6 q (hs_ix6 hq) rfl (vp_in_nI (show n < 3 by omega) (by decide)) dX2_beginMonth_23 ?_
      rw [show (sp_mon σ q n) 6 q (nI n : Int32).toNatClampNeg = (sp_mon σ q n) 6 q n from by simp [hs_sg, nI_clamp (show n < 2 ^ 31 by omega)]]
      refine lv_iadd hx hb dX2_beginMonth_24 ?_
      refine hs_runi (As := [.int (((sp_mon σ q n) 5 q n) + ((sp_mon σ q n) 6 q n))]) ⟨hx, hb, hml, hown, hts⟩ (kX2_heldFame l D d L (sp_mon σ q n) A (((sp_mon σ q n) 5 q n) + ((sp_mon σ q n) 6 q n))) (va_cwS 1 hts gX2_beginMonth_X2_heldFame rfl rfl rfl (by decide +kernel) ⟨Nat.le_of_ble_eq_true rfl, Nat.le_of_ble_eq_true rfl⟩) hK hE hW hS rfl hl.1 (Nat.le_of_ble_eq_true rfl) dX2_beginMonth_25 ⟨Nat.zero_le _, Nat.zero_le _⟩ rfl (fun r_ τ_ H locs hp hW hS => ?_)
      obtain ⟨rfl, rfl⟩ := hp
      refine hs_iast (n := 3) (f := (sp_mon σ q n) 5 q) hx hb hK hW hS 5 q (hs_ix5 hq) rfl (vp_in_nI (show n < 3 by omega) (by decide)) (hs_sg (sp_mon σ q n) 5 q n (sp_held (((sp_mon σ q n) 5 q n) + ((sp_mon σ q n) 6 q n)))) (by simp only [hs_ct, hs_arr, nI_clamp (show n < 2 ^ 31 by omega)]) (hs_off _ _ _ _ _) dX2_beginMonth_28 (fun H locs hW hS => ?_)
      refine lv_aload_n hx hb dX2_beginMonth_29 rfl (lv_at hl 0 rfl) ?_
      refine va_get (D := D) (ci := cPe) (C := RX2) (T := TX2) (N := 8) (ws := [(L 4 q, hs_ct d L (hs_sg (sp_mon σ q n) 5 q n (sp_held (((sp_mon σ q n) 5 q n) + ((sp_mon σ q n) 6 q n)))) 4 q)]) (v := .ref (L 6 q)) hx hb hts (by decide +kernel) hown hK (hW.one (hs_ix4 hq)) 0 rfl rfl 2 (by decide) (hts (.fieldLink RX2 19 "Waxrow$Person" "trend" "[I") (by decide +kernel)) (fun _ h9 => h9) rfl dX2_beginMonth_30 ?_
      refine lv_iload_n hx hb dX2_beginMonth_33 rfl (lv_at hl 1 rfl) ?_
      refine lv_aload_n hx hb dX2_beginMonth_34 rfl (lv_at hl 0 rfl) ?_
      refine va_get (D := D) (ci := cPe) (C := RX2) (T := TX2) (N := 8) (ws := [(L 4 q, hs_ct d L (hs_sg (sp_mon σ q n) 5 q n (sp_held (((sp_mon σ q n) 5 q n) + ((sp_mon σ q n) 6 q n)))) 4 q)]) (v := .ref (L 6 q)) hx hb hts (by decide +kernel) hown hK (hW.one (hs_ix4 hq)) 0 rfl rfl 2 (by decide) (hts (.fieldLink RX2 19 "Waxrow$Person" "trend" "[I") (by decide +kernel)) (fun _ h9 => h9) rfl dX2_beginMonth_35 ?_
      refine lv_iload_n hx hb dX2_beginMonth_38 rfl (lv_at hl 1 rfl) ?_
      refine hs_iald (n := 3) (f := (hs_sg (sp_mon σ q n) 5 q n (sp_held (((sp_mon σ q n) 5 q n) + ((sp_mon σ q n) 6 q n)))) 6 q) hx hb hK hW 6 q (hs_ix6 hq) rfl (vp_in_nI (show n < 3 by omega) (by decide)) dX2_beginMonth_39 ?_
      rw [show (hs_sg (sp_mon σ q n) 5 q n (sp_held (((sp_mon σ q n) 5 q n) + ((sp_mon σ q n) 6 q n)))) 6 q (nI n : Int32).toNatClampNeg = (sp_mon σ q n) 6 q n from by simp [hs_sg, nI_clamp (show n < 2 ^ 31 by omega)]]
      refine hs_runi (As := [.int ((sp_mon σ q n) 6 q n)]) ⟨hx, hb, hml, hown, hts⟩ (kX2_nearerToZero l D d L (hs_sg (sp_mon σ q n) 5 q n (sp_held (((sp_mon σ q n) 5 q n) + ((sp_mon σ q n) 6 q n)))) A ((sp_mon σ q n) 6 q n)) (va_cwS 1 hts gX2_beginMonth_X2_nearerToZero rfl rfl rfl (by decide +kernel) ⟨Nat.le_of_ble_eq_true rfl, Nat.le_of_ble_eq_true rfl⟩) hK hE hW hS rfl hl.1 (Nat.le_of_ble_eq_true rfl) dX2_beginMonth_40 ⟨Nat.zero_le _, Nat.zero_le _⟩ rfl (fun r_ τ_ H locs hp hW hS => ?_)
      obtain ⟨rfl, rfl⟩ := hp
      refine hs_iast (n := 3) (f := (hs_sg (sp_mon σ q n) 5 q n (sp_held (((sp_mon σ q n) 5 q n) + ((sp_mon σ q n) 6 q n)))) 6 q) hx hb hK hW hS 6 q (hs_ix6 hq) rfl (vp_in_nI (show n < 3 by omega) (by decide)) (hs_sg (hs_sg (sp_mon σ q n) 5 q n (sp_held (((sp_mon σ q n) 5 q n) + ((sp_mon σ q n) 6 q n)))) 6 q n (sp_nearer ((sp_mon σ q n) 6 q n))) (by simp only [hs_ct, hs_arr, nI_clamp (show n < 2 ^ 31 by omega)]) (hs_off _ _ _ _ _) dX2_beginMonth_43 (fun H locs hW hS => ?_)
      refine lv_iinc (v := nI (n + 1)) (lv' := [(1, .int (nI (n + 1))), (0, .ref (L 4 q))]) hx hb dX2_beginMonth_44 hl (k := 1) rfl (nI_succ _).symm (by decide) rfl (fun ls hl => ?_)
      refine lv_goto (tgt := 2) hx hb dX2_beginMonth_47 (by decide) ?_
      have e_s : (hs_sg (hs_sg (sp_mon σ q n) 5 q n (sp_held (((sp_mon σ q n) 5 q n) + ((sp_mon σ q n) 6 q n)))) 6 q n (sp_nearer ((sp_mon σ q n) 6 q n))) = (sp_mon σ q (n + 1)) := rfl
      rw [e_s] at hW
      exact ih (n + 1) (by omega) _ _ hW hS ls (lv_sub hl [1, 0] rfl)
set_option maxHeartbeats 4000000 in
set_option maxRecDepth 100000 in
/-- beginMonth -/
theorem kX2_beginMonth (l : Launch) (D : va_G) (d : hs_Dm) (L : hs_Lo) (σ : hs_St) (A : Nat → Prop) (q : Nat) (hq : q < 10) : hs_Mv l yX2_beginMonth wsX2_beginMonth ({ frames := 1, cells := 0, slots := 0, locals := 20 }) D d L σ A [.ref (L 4 q)] (fun τ => sp_mon σ q 3 = τ) := by
  refine Met.ofW (cc := cX2_beginMonth) (maxL := 2) (ret := none) (by decide) rfl ?_
  intro p e s m args below meth c s₁ B hml hv
  obtain ⟨rfl, ⟨hW, hK⟩, hE⟩ := hv
  have hx := B.exec
  have hb := B.bytes
  have hr := B.returns
  have hts := atoms_spec (ws := wsX2_beginMonth) B.pre
  have hown : s.vm.findClass RX2 = some m.cls := findClass_of_methodNamed B.named
  have hlocks := B.notSynchronized
  have hS : va_S A s.heap s.heap [] := va_S.rf
  have hW : hs_W D d L σ A s.heap := hW
  have hl := lv_entry ([.ref (L 4 q)]) (n := 2) (Nat.le_of_ble_eq_true rfl)
  rw [lg_entry_eq]
  generalize (lg_sl ([.ref (L 4 q)]) ++ List.replicate (2 - (lg_sl ([.ref (L 4 q)])).length) Slot.unset).toArray = ls at hl ⊢
  have hl : lv_has ls 2 [(0, .ref (L 4 q))] := hl
  refine lv_iconst (v := 0) hx hb dX2_beginMonth_0 (by decide) ?_
  refine lv_istore_n (lv' := [(1, .int 0), (0, .ref (L 4 q))]) hx hb dX2_beginMonth_1 rfl hl (by decide) rfl (fun ls hl => ?_)
  exact lkX2_beginMonth l D d L σ A q hq hx hb hr hts hown hlocks hml hK hE  3 0 (by omega) _ _ hW hS ls (lv_sub hl [1, 0] rfl)
