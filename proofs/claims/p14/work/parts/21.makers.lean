/-! THE CONSTRUCTORS of a person, a figure, a room -/
def rc_nn (n : Nat) : Nat → Int32 := fun j => if j < n then 99 else 0
def rc_P (d : hs_Dm) (b : Nat) (x : Int32) (n : Nat) : Nat → va_E := fun j => match j with
  | 0 => .inr (cPe, [.int x, .ref (b + 1), .ref (b + 2), .ref (b + 3), .ref (b + 4), .int 0, .int 0, .int 0])
  | 1 => .inl (d.1, 3, .inl (fun _ => 0))
  | 2 => .inl (d.1, 3, .inl (fun _ => 0))
  | 3 => .inl (d.1, 6, .inl (fun _ => 0))
  | _ => .inl (d.1, 6, .inl (rc_nn n))
theorem rc_nn_up (n : Nat) (h : n < 2 ^ 31) : upd (rc_nn n) (nI n).toNatClampNeg 99 = rc_nn (n + 1) := by
  rw [nI_clamp h]
  funext j
  simp only [upd, rc_nn]
  by_cases e : j = n
  · rw [if_pos e, if_pos (by omega)]
  · rw [if_neg e]
    by_cases e2 : j < n
    · rw [if_pos e2, if_pos (by omega)]
    · rw [if_neg e2, if_neg (by omega)]
def rc_1 (e : va_E) : Nat → va_E := fun _ => e
set_option maxHeartbeats 4000000 in
set_option maxRecDepth 100000 in
/-- Person(x): the loop that lays the greatest values -/
theorem lkX2_init (l : Launch) (D : va_G) (d : hs_Dm) (b : Nat) (x : Int32) {p : Program} {e : Env} {s : State} {m : MethodId} {args : Array Value} {below : List Frame} {meth : Method} {c : Code} (hx : p.tables.exec = Jvm.exec) (hb : c.code = cX2_init) (hr : meth.sig.returnType = none) (hts : ∀ w ∈ wsX2_init, w.before args s = true) (hown : s.vm.findClass RX2 = some m.cls) (hlocks : meth.locks = false) (hml : c.maxLocals = 3) (hK : va_K D vwCl (hs_ty d) s) : ∀ (k n : Nat), n + k = 6 → ∀ (H : Heap) (locs : List Loc), rg D (rc_P d b x n) b 5 H → H.size = b + 5 → va_S (rg_A b) s.heap H locs → ∀ ls : Array Slot, lv_has ls 3 [(0, .ref b), (1, .int x), (2, .int (nI n))] → W p l e ({ frames := 1, cells := 4, slots := 18, locals := 20 } : Room) s m args below meth c H locs 4 18 (MQ below (va_Qv (fun _ : Unit => True) (fun _ t => rg_C D d (rc_P d b x 6) b 5 t) (rg_A b)) args s 4 18 (rg_A b)) (F0 m 41 ls []) := by
  intro k
  induction k with
  | zero =>
    intro n hn H locs hg hz hS ls hl
    have hnN : n = 6 := by omega
    refine lv_iload_n hx hb dX2_init_41 rfl (lv_at hl 2 rfl) ?_
    refine lv_bipush (v := 6) hx hb dX2_init_42 (by decide) ?_
    refine lv_icmp_ge (tgt := 61) hx hb dX2_init_44 (by decide) (fun c_44 => ?_) (fun c_44 => ?_)
    · rw [hnN] at hg
      exact W.vret hx hb hr (fun t ht hW9 => ⟨⟨(), rfl, trivial, by rw [ht]; exact hz, by rw [ht]; exact hg, va_K.moved hW9.alike hK⟩, hS.F ht⟩) hS.2.2 dX2_init_61
    · exact absurd (by rw [sp_six, hnN]; exact nI_le (Nat.le_refl _) (by omega)) c_44
  | succ k ih =>
    intro n hn H locs hg hz hS ls hl
    have hnN : n < 6 := by omega
    refine lv_iload_n hx hb dX2_init_41 rfl (lv_at hl 2 rfl) ?_
    refine lv_bipush (v := 6) hx hb dX2_init_42 (by decide) ?_
    refine lv_icmp_ge (tgt := 61) hx hb dX2_init_44 (by decide) (fun c_44 => ?_) (fun c_44 => ?_)
    · exact absurd (by rw [sp_six] at c_44; exact c_44) (nI_ge hnN (by omega))
    · refine lv_aload_n hx hb dX2_init_47 rfl (lv_at hl 0 rfl) ?_
      refine va_get (D := D) (ci := cPe) (C := RX2) (T := TX2) (N := 8) (ws := [(b + 0, (rc_P d b x n) 0)]) (v := .ref (b + 4)) hx hb hts (by decide +kernel) hown hK (hg.one (by omega)) 0 rfl rfl 4 (by decide) (hts (.fieldLink RX2 25 "Waxrow$Person" "high" "[I") (by decide +kernel)) (fun _ h9 => h9) rfl dX2_init_48 ?_
      refine lv_iload_n hx hb dX2_init_51 rfl (lv_at hl 2 rfl) ?_
      refine lv_bipush (v := 99) hx hb dX2_init_52 (by decide) ?_
      refine rg_iast hx hb hK hg hz hS 4 (by omega) (n := 6) (f := rc_nn n) rfl (vp_in_nI (show n < 6 by omega) (by decide)) dX2_init_54 (fun H locs hg hz hS => ?_)
      refine lv_iinc (v := nI (n + 1)) (lv' := [(2, .int (nI (n + 1))), (0, .ref b), (1, .int x)]) hx hb dX2_init_55 hl (k := 2) rfl (nI_succ _).symm (by decide) rfl (fun ls hl => ?_)
      refine lv_goto (tgt := 41) hx hb dX2_init_58 (by decide) ?_
      have hg : rg D (rc_P d b x (n + 1)) b 5 H := hg.congr (fun j hj => by rcases (show j = 0 ∨ j = 1 ∨ j = 2 ∨ j = 3 ∨ j = 4 by omega) with rfl | rfl | rfl | rfl | rfl <;> first | rfl | (simp only [va_up, if_true, rc_P]; rw [rc_nn_up n (by omega)]))
      exact ih (n + 1) (by omega) _ _ hg hz hS ls (lv_sub hl [1, 2, 0] rfl)
set_option maxHeartbeats 4000000 in
set_option maxRecDepth 100000 in
/-- Person(x) -/
theorem kX2_init (l : Launch) (D : va_G) (d : hs_Dm) (b : Nat) (x : Int32) : rg_M l yX2_init wsX2_init ({ frames := 1, cells := 4, slots := 18, locals := 20 }) D d (rc_1 (.inr (cPe, [.int 0, .null, .null, .null, .null, .int 0, .int 0, .int 0]))) (rc_P d b x 6) b 1 5 [.ref b, .int x] 4 18 := by
  refine Met.ofW (cc := cX2_init) (maxL := 3) (ret := none) (by decide) rfl ?_
  intro p e s m args below meth c s₁ B hml hv
  obtain ⟨rfl, hz, hg, hK⟩ := hv
  have hx := B.exec
  have hb := B.bytes
  have hr := B.returns
  have hts := atoms_spec (ws := wsX2_init) B.pre
  have hown : s.vm.findClass RX2 = some m.cls := findClass_of_methodNamed B.named
  have hlocks := B.notSynchronized
  have hin : meth.name = "<init>" := (name_of_methodNamed B.named B.method).1
  have hS : va_S (rg_A b) s.heap s.heap [] := va_S.rf
  have hl := lv_entry ([.ref b, .int x]) (n := 3) (Nat.le_of_ble_eq_true rfl)
  rw [lg_entry_eq]
  generalize (lg_sl ([.ref b, .int x]) ++ List.replicate (3 - (lg_sl ([.ref b, .int x])).length) Slot.unset).toArray = ls at hl ⊢
  have hl : lv_has ls 3 [(0, .ref b), (1, .int x)] := hl
  refine lv_aload_n hx hb dX2_init_0 rfl (lv_at hl 0 rfl) ?_
  refine W.objInit hx hb hown (hts (.methodLink RX2 3 objectInit) (by decide +kernel)) (hts (.instanceMethod objectInit) (by decide +kernel)) (hts (.code objectInit ⟨#[0xb1]⟩ 1 none) (by decide +kernel)) rfl (by rw [hml]; exact hl.1) rfl dX2_init_1 (Nat.le_of_ble_eq_true rfl) (Nat.le_of_ble_eq_true rfl) ?_
  refine W.eq (g2 := F0 m 4 ls []) rfl ?_
  refine lv_aload_n hx hb dX2_init_4 rfl (lv_at hl 0 rfl) ?_
  refine lv_iload_n hx hb dX2_init_5 rfl (lv_at hl 1 rfl) ?_
  refine rg_putF (ci := cPe) (C := RX2) (T := TX2) (N := 8) (ty := .int) hx hb hts (by decide +kernel) tyX2 tyX2_ok nmX2 hown hK hg hz hS 0 (by omega) (fs := [.int 0, .null, .null, .null, .null, .int 0, .int 0, .int 0]) rfl rfl 0 (by decide) (hts (.fieldLink RX2 9 "Waxrow$Person" "number" "I") (by decide +kernel)) (fun _ h9 => h9) rfl hin rfl (by decide +kernel) rfl rfl (Nat.le_of_ble_eq_true rfl) dX2_init_6 (fun H locs hg hz hS => ?_)
  have hg : rg D (va_up (rc_1 (.inr (cPe, [.int 0, .null, .null, .null, .null, .int 0, .int 0, .int 0]))) 0 (.inr (cPe, [.int x, .null, .null, .null, .null, .int 0, .int 0, .int 0]))) b 1 H := hg
  refine lv_aload_n hx hb dX2_init_9 rfl (lv_at hl 0 rfl) ?_
  refine lv_iconst (v := 3) hx hb dX2_init_10 (by decide) ?_
  refine rg_newa hx hb (hts (.arrayClass .int) (by decide +kernel)) hK hg hz hS (by decide) (N' := 3) rfl (by decide) (by decide) (by decide) dX2_init_11 (fun H hg hz hS => ?_)
  have hg : rg D (va_up (va_up (rc_1 (.inr (cPe, [.int 0, .null, .null, .null, .null, .int 0, .int 0, .int 0]))) 0 (.inr (cPe, [.int x, .null, .null, .null, .null, .int 0, .int 0, .int 0]))) 1 (.inl (d.1, 3, .inl (fun _ => 0)))) b 2 H := hg
  refine rg_putF (ci := cPe) (C := RX2) (T := TX2) (N := 8) (ty := (.array .int)) hx hb hts (by decide +kernel) tyX2 tyX2_ok nmX2 hown hK hg hz hS 0 (by omega) (fs := [.int x, .null, .null, .null, .null, .int 0, .int 0, .int 0]) rfl rfl 1 (by decide) (hts (.fieldLink RX2 15 "Waxrow$Person" "fame" "[I") (by decide +kernel)) (fun _ h9 => h9) rfl hin rfl (by decide +kernel) rfl rfl (Nat.le_of_ble_eq_true rfl) dX2_init_13 (fun H locs hg hz hS => ?_)
  have hg : rg D (va_up (va_up (va_up (rc_1 (.inr (cPe, [.int 0, .null, .null, .null, .null, .int 0, .int 0, .int 0]))) 0 (.inr (cPe, [.int x, .null, .null, .null, .null, .int 0, .int 0, .int 0]))) 1 (.inl (d.1, 3, .inl (fun _ => 0)))) 0 (.inr (cPe, [.int x, .ref (b + 1), .null, .null, .null, .int 0, .int 0, .int 0]))) b 2 H := hg
  refine lv_aload_n hx hb dX2_init_16 rfl (lv_at hl 0 rfl) ?_
  refine lv_iconst (v := 3) hx hb dX2_init_17 (by decide) ?_
  refine rg_newa hx hb (hts (.arrayClass .int) (by decide +kernel)) hK hg hz hS (by decide) (N' := 3) rfl (by decide) (by decide) (by decide) dX2_init_18 (fun H hg hz hS => ?_)
  have hg : rg D (va_up (va_up (va_up (va_up (rc_1 (.inr (cPe, [.int 0, .null, .null, .null, .null, .int 0, .int 0, .int 0]))) 0 (.inr (cPe, [.int x, .null, .null, .null, .null, .int 0, .int 0, .int 0]))) 1 (.inl (d.1, 3, .inl (fun _ => 0)))) 0 (.inr (cPe, [.int x, .ref (b + 1), .null, .null, .null, .int 0, .int 0, .int 0]))) 2 (.inl (d.1, 3, .inl (fun _ => 0)))) b 3 H := hg
  refine rg_putF (ci := cPe) (C := RX2) (T := TX2) (N := 8) (ty := (.array .int)) hx hb hts (by decide +kernel) tyX2 tyX2_ok nmX2 hown hK hg hz hS 0 (by omega) (fs := [.int x, .ref (b + 1), .null, .null, .null, .int 0, .int 0, .int 0]) rfl rfl 2 (by decide) (hts (.fieldLink RX2 19 "Waxrow$Person" "trend" "[I") (by decide +kernel)) (fun _ h9 => h9) rfl hin rfl (by decide +kernel) rfl rfl (Nat.le_of_ble_eq_true rfl) dX2_init_20 (fun H locs hg hz hS => ?_)
  have hg : rg D (va_up (va_up (va_up (va_up (va_up (rc_1 (.inr (cPe, [.int 0, .null, .null, .null, .null, .int 0, .int 0, .int 0]))) 0 (.inr (cPe, [.int x, .null, .null, .null, .null, .int 0, .int 0, .int 0]))) 1 (.inl (d.1, 3, .inl (fun _ => 0)))) 0 (.inr (cPe, [.int x, .ref (b + 1), .null, .null, .null, .int 0, .int 0, .int 0]))) 2 (.inl (d.1, 3, .inl (fun _ => 0)))) 0 (.inr (cPe, [.int x, .ref (b + 1), .ref (b + 2), .null, .null, .int 0, .int 0, .int 0]))) b 3 H := hg
  refine lv_aload_n hx hb dX2_init_23 rfl (lv_at hl 0 rfl) ?_
  refine lv_bipush (v := 6) hx hb dX2_init_24 (by decide) ?_
  refine rg_newa hx hb (hts (.arrayClass .int) (by decide +kernel)) hK hg hz hS (by decide) (N' := 6) rfl (by decide) (by decide) (by decide) dX2_init_26 (fun H hg hz hS => ?_)
  have hg : rg D (va_up (va_up (va_up (va_up (va_up (va_up (rc_1 (.inr (cPe, [.int 0, .null, .null, .null, .null, .int 0, .int 0, .int 0]))) 0 (.inr (cPe, [.int x, .null, .null, .null, .null, .int 0, .int 0, .int 0]))) 1 (.inl (d.1, 3, .inl (fun _ => 0)))) 0 (.inr (cPe, [.int x, .ref (b + 1), .null, .null, .null, .int 0, .int 0, .int 0]))) 2 (.inl (d.1, 3, .inl (fun _ => 0)))) 0 (.inr (cPe, [.int x, .ref (b + 1), .ref (b + 2), .null, .null, .int 0, .int 0, .int 0]))) 3 (.inl (d.1, 6, .inl (fun _ => 0)))) b 4 H := hg
  refine rg_putF (ci := cPe) (C := RX2) (T := TX2) (N := 8) (ty := (.array .int)) hx hb hts (by decide +kernel) tyX2 tyX2_ok nmX2 hown hK hg hz hS 0 (by omega) (fs := [.int x, .ref (b + 1), .ref (b + 2), .null, .null, .int 0, .int 0, .int 0]) rfl rfl 3 (by decide) (hts (.fieldLink RX2 22 "Waxrow$Person" "low" "[I") (by decide +kernel)) (fun _ h9 => h9) rfl hin rfl (by decide +kernel) rfl rfl (Nat.le_of_ble_eq_true rfl) dX2_init_28 (fun H locs hg hz hS => ?_)
  have hg : rg D (va_up (va_up (va_up (va_up (va_up (va_up (va_up (rc_1 (.inr (cPe, [.int 0, .null, .null, .null, .null, .int 0, .int 0, .int 0]))) 0 (.inr (cPe, [.int x, .null, .null, .null, .null, .int 0, .int 0, .int 0]))) 1 (.inl (d.1, 3, .inl (fun _ => 0)))) 0 (.inr (cPe, [.int x, .ref (b + 1), .null, .null, .null, .int 0, .int 0, .int 0]))) 2 (.inl (d.1, 3, .inl (fun _ => 0)))) 0 (.inr (cPe, [.int x, .ref (b + 1), .ref (b + 2), .null, .null, .int 0, .int 0, .int 0]))) 3 (.inl (d.1, 6, .inl (fun _ => 0)))) 0 (.inr (cPe, [.int x, .ref (b + 1), .ref (b + 2), .ref (b + 3), .null, .int 0, .int 0, .int 0]))) b 4 H := hg
  refine lv_aload_n hx hb dX2_init_31 rfl (lv_at hl 0 rfl) ?_
  refine lv_bipush (v := 6) hx hb dX2_init_32 (by decide) ?_
  refine rg_newa hx hb (hts (.arrayClass .int) (by decide +kernel)) hK hg hz hS (by decide) (N' := 6) rfl (by decide) (by decide) (by decide) dX2_init_34 (fun H hg hz hS => ?_)
  have hg : rg D (va_up (va_up (va_up (va_up (va_up (va_up (va_up (va_up (rc_1 (.inr (cPe, [.int 0, .null, .null, .null, .null, .int 0, .int 0, .int 0]))) 0 (.inr (cPe, [.int x, .null, .null, .null, .null, .int 0, .int 0, .int 0]))) 1 (.inl (d.1, 3, .inl (fun _ => 0)))) 0 (.inr (cPe, [.int x, .ref (b + 1), .null, .null, .null, .int 0, .int 0, .int 0]))) 2 (.inl (d.1, 3, .inl (fun _ => 0)))) 0 (.inr (cPe, [.int x, .ref (b + 1), .ref (b + 2), .null, .null, .int 0, .int 0, .int 0]))) 3 (.inl (d.1, 6, .inl (fun _ => 0)))) 0 (.inr (cPe, [.int x, .ref (b + 1), .ref (b + 2), .ref (b + 3), .null, .int 0, .int 0, .int 0]))) 4 (.inl (d.1, 6, .inl (fun _ => 0)))) b 5 H := hg
  refine rg_putF (ci := cPe) (C := RX2) (T := TX2) (N := 8) (ty := (.array .int)) hx hb hts (by decide +kernel) tyX2 tyX2_ok nmX2 hown hK hg hz hS 0 (by omega) (fs := [.int x, .ref (b + 1), .ref (b + 2), .ref (b + 3), .null, .int 0, .int 0, .int 0]) rfl rfl 4 (by decide) (hts (.fieldLink RX2 25 "Waxrow$Person" "high" "[I") (by decide +kernel)) (fun _ h9 => h9) rfl hin rfl (by decide +kernel) rfl rfl (Nat.le_of_ble_eq_true rfl) dX2_init_36 (fun H locs hg hz hS => ?_)
  have hg : rg D (va_up (va_up (va_up (va_up (va_up (va_up (va_up (va_up (va_up (rc_1 (.inr (cPe, [.int 0, .null, .null, .null, .null, .int 0, .int 0, .int 0]))) 0 (.inr (cPe, [.int x, .null, .null, .null, .null, .int 0, .int 0, .int 0]))) 1 (.inl (d.1, 3, .inl (fun _ => 0)))) 0 (.inr (cPe, [.int x, .ref (b + 1), .null, .null, .null, .int 0, .int 0, .int 0]))) 2 (.inl (d.1, 3, .inl (fun _ => 0)))) 0 (.inr (cPe, [.int x, .ref (b + 1), .ref (b + 2), .null, .null, .int 0, .int 0, .int 0]))) 3 (.inl (d.1, 6, .inl (fun _ => 0)))) 0 (.inr (cPe, [.int x, .ref (b + 1), .ref (b + 2), .ref (b + 3), .null, .int 0, .int 0, .int 0]))) 4 (.inl (d.1, 6, .inl (fun _ => 0)))) 0 (.inr (cPe, [.int x, .ref (b + 1), .ref (b + 2), .ref (b + 3), .ref (b + 4), .int 0, .int 0, .int 0]))) b 5 H := hg
  refine lv_iconst (v := 0) hx hb dX2_init_39 (by decide) ?_
  refine lv_istore_n (lv' := [(2, .int 0), (0, .ref b), (1, .int x)]) hx hb dX2_init_40 rfl hl (by decide) rfl (fun ls hl => ?_)
  have hg : rg D (rc_P d b x 0) b 5 H := hg.congr (fun j hj => by rcases (show j = 0 ∨ j = 1 ∨ j = 2 ∨ j = 3 ∨ j = 4 by omega) with rfl | rfl | rfl | rfl | rfl <;> rfl)
  exact lkX2_init l D d b x hx hb hr hts hown hlocks hml hK 6 0 (by omega) _ _ hg hz hS ls (lv_sub hl [1, 2, 0] rfl)
set_option maxHeartbeats 4000000 in
set_option maxRecDepth 100000 in
/-- Figure(x) -/
theorem kX0_init (l : Launch) (D : va_G) (d : hs_Dm) (b : Nat) (x : Nat) : rg_M l yX0_init wsX0_init ({ frames := 1, cells := 0, slots := 0, locals := 20 }) D d (rc_1 (.inr (cFi, [.null, .null, .int 0, .int 0, .int 0, .int 0, .int 0, .int 0, .int 0, .int 0, .int 0]))) (rc_1 (.inr (cFi, [.ref x, .ref x, .int 0, .int 0, .int 0, .int 0, .int 0, .int 5, .int 0, .int 0, .int 0]))) b 1 1 [.ref b, .ref x] 0 0 := by
  refine Met.ofW (cc := cX0_init) (maxL := 2) (ret := none) (by decide) rfl ?_
  intro p e s m args below meth c s₁ B hml hv
  obtain ⟨rfl, hz, hg, hK⟩ := hv
  have hx := B.exec
  have hb := B.bytes
  have hr := B.returns
  have hts := atoms_spec (ws := wsX0_init) B.pre
  have hown : s.vm.findClass RX0 = some m.cls := findClass_of_methodNamed B.named
  have hlocks := B.notSynchronized
  have hin : meth.name = "<init>" := (name_of_methodNamed B.named B.method).1
  have hS : va_S (rg_A b) s.heap s.heap [] := va_S.rf
  have hl := lv_entry ([.ref b, .ref x]) (n := 2) (Nat.le_of_ble_eq_true rfl)
  rw [lg_entry_eq]
  generalize (lg_sl ([.ref b, .ref x]) ++ List.replicate (2 - (lg_sl ([.ref b, .ref x])).length) Slot.unset).toArray = ls at hl ⊢
  have hl : lv_has ls 2 [(0, .ref b), (1, .ref x)] := hl
  refine lv_aload_n hx hb dX0_init_0 rfl (lv_at hl 0 rfl) ?_
  refine W.objInit hx hb hown (hts (.methodLink RX0 3 objectInit) (by decide +kernel)) (hts (.instanceMethod objectInit) (by decide +kernel)) (hts (.code objectInit ⟨#[0xb1]⟩ 1 none) (by decide +kernel)) rfl (by rw [hml]; exact hl.1) rfl dX0_init_1 (Nat.le_of_ble_eq_true rfl) (Nat.le_of_ble_eq_true rfl) ?_
  refine W.eq (g2 := F0 m 4 ls []) rfl ?_
  refine lv_aload_n hx hb dX0_init_4 rfl (lv_at hl 0 rfl) ?_
  refine lv_aload_n hx hb dX0_init_5 rfl (lv_at hl 1 rfl) ?_
  refine rg_put (ci := cFi) (C := RX0) (T := TX0) (N := 11) (ty := (.object "Waxrow$Person")) hx hb hts (by decide +kernel) tyX0 tyX0_ok nmX0 hown hK hg hz hS 0 (by omega) (fs := [.null, .null, .int 0, .int 0, .int 0, .int 0, .int 0, .int 0, .int 0, .int 0, .int 0]) rfl rfl 0 (by decide) (hts (.fieldLink RX0 9 "Waxrow$Figure" "head" "LWaxrow$Person;") (by decide +kernel)) (fun _ h9 => h9) rfl (by decide +kernel) rfl rfl (Nat.le_of_ble_eq_true rfl) dX0_init_6 (fun H locs hg hz hS => ?_)
  have hg : rg D (va_up (rc_1 (.inr (cFi, [.null, .null, .int 0, .int 0, .int 0, .int 0, .int 0, .int 0, .int 0, .int 0, .int 0]))) 0 (.inr (cFi, [.ref x, .null, .int 0, .int 0, .int 0, .int 0, .int 0, .int 0, .int 0, .int 0, .int 0]))) b 1 H := hg
  refine lv_aload_n hx hb dX0_init_9 rfl (lv_at hl 0 rfl) ?_
  refine lv_aload_n hx hb dX0_init_10 rfl (lv_at hl 1 rfl) ?_
  refine rg_put (ci := cFi) (C := RX0) (T := TX0) (N := 11) (ty := (.object "Waxrow$Person")) hx hb hts (by decide +kernel) tyX0 tyX0_ok nmX0 hown hK hg hz hS 0 (by omega) (fs := [.ref x, .null, .int 0, .int 0, .int 0, .int 0, .int 0, .int 0, .int 0, .int 0, .int 0]) rfl rfl 1 (by decide) (hts (.fieldLink RX0 15 "Waxrow$Figure" "body" "LWaxrow$Person;") (by decide +kernel)) (fun _ h9 => h9) rfl (by decide +kernel) rfl rfl (Nat.le_of_ble_eq_true rfl) dX0_init_11 (fun H locs hg hz hS => ?_)
  have hg : rg D (va_up (va_up (rc_1 (.inr (cFi, [.null, .null, .int 0, .int 0, .int 0, .int 0, .int 0, .int 0, .int 0, .int 0, .int 0]))) 0 (.inr (cFi, [.ref x, .null, .int 0, .int 0, .int 0, .int 0, .int 0, .int 0, .int 0, .int 0, .int 0]))) 0 (.inr (cFi, [.ref x, .ref x, .int 0, .int 0, .int 0, .int 0, .int 0, .int 0, .int 0, .int 0, .int 0]))) b 1 H := hg
  refine lv_aload_n hx hb dX0_init_14 rfl (lv_at hl 0 rfl) ?_
  refine lv_iconst (v := 5) hx hb dX0_init_15 (by decide) ?_
  refine rg_put (ci := cFi) (C := RX0) (T := TX0) (N := 11) (ty := .int) hx hb hts (by decide +kernel) tyX0 tyX0_ok nmX0 hown hK hg hz hS 0 (by omega) (fs := [.ref x, .ref x, .int 0, .int 0, .int 0, .int 0, .int 0, .int 0, .int 0, .int 0, .int 0]) rfl rfl 7 (by decide) (hts (.fieldLink RX0 18 "Waxrow$Figure" "place" "I") (by decide +kernel)) (fun _ h9 => h9) rfl (by decide +kernel) rfl rfl (Nat.le_of_ble_eq_true rfl) dX0_init_16 (fun H locs hg hz hS => ?_)
  have hg : rg D (va_up (va_up (va_up (rc_1 (.inr (cFi, [.null, .null, .int 0, .int 0, .int 0, .int 0, .int 0, .int 0, .int 0, .int 0, .int 0]))) 0 (.inr (cFi, [.ref x, .null, .int 0, .int 0, .int 0, .int 0, .int 0, .int 0, .int 0, .int 0, .int 0]))) 0 (.inr (cFi, [.ref x, .ref x, .int 0, .int 0, .int 0, .int 0, .int 0, .int 0, .int 0, .int 0, .int 0]))) 0 (.inr (cFi, [.ref x, .ref x, .int 0, .int 0, .int 0, .int 0, .int 0, .int 5, .int 0, .int 0, .int 0]))) b 1 H := hg
  have hg : rg D (rc_1 (.inr (cFi, [.ref x, .ref x, .int 0, .int 0, .int 0, .int 0, .int 0, .int 5, .int 0, .int 0, .int 0]))) b 1 H := hg.congr (fun j hj => by rcases (show j = 0 by omega) with rfl; rfl)
  exact W.vret hx hb hr (fun t ht hW9 => ⟨⟨(), rfl, trivial, by rw [ht]; exact hz, by rw [ht]; exact hg, va_K.moved hW9.alike hK⟩, hS.F ht⟩) hS.2.2 dX0_init_19
set_option maxHeartbeats 4000000 in
set_option maxRecDepth 100000 in
/-- Room() -/
theorem kX3_init (l : Launch) (D : va_G) (d : hs_Dm) (b : Nat) : rg_M l yX3_init wsX3_init ({ frames := 1, cells := 0, slots := 0, locals := 20 }) D d (rc_1 (.inr (cRo, [.int 0, .int 0]))) (rc_1 (.inr (cRo, [.int 0, .int 0]))) b 1 1 [.ref b] 0 0 := by
  refine Met.ofW (cc := cX3_init) (maxL := 1) (ret := none) (by decide) rfl ?_
  intro p e s m args below meth c s₁ B hml hv
  obtain ⟨rfl, hz, hg, hK⟩ := hv
  have hx := B.exec
  have hb := B.bytes
  have hr := B.returns
  have hts := atoms_spec (ws := wsX3_init) B.pre
  have hown : s.vm.findClass RX3 = some m.cls := findClass_of_methodNamed B.named
  have hlocks := B.notSynchronized
  have hin : meth.name = "<init>" := (name_of_methodNamed B.named B.method).1
  have hS : va_S (rg_A b) s.heap s.heap [] := va_S.rf
  have hl := lv_entry ([.ref b]) (n := 1) (Nat.le_of_ble_eq_true rfl)
  rw [lg_entry_eq]
  generalize (lg_sl ([.ref b]) ++ List.replicate (1 - (lg_sl ([.ref b])).length) Slot.unset).toArray = ls at hl ⊢
  have hl : lv_has ls 1 [(0, .ref b)] := hl
  refine lv_aload_n hx hb dX3_init_0 rfl (lv_at hl 0 rfl) ?_
  refine W.objInit hx hb hown (hts (.methodLink RX3 1 objectInit) (by decide +kernel)) (hts (.instanceMethod objectInit) (by decide +kernel)) (hts (.code objectInit ⟨#[0xb1]⟩ 1 none) (by decide +kernel)) rfl (by rw [hml]; exact hl.1) rfl dX3_init_1 (Nat.le_of_ble_eq_true rfl) (Nat.le_of_ble_eq_true rfl) ?_
  refine W.eq (g2 := F0 m 4 ls []) rfl ?_
  exact W.vret hx hb hr (fun t ht hW9 => ⟨⟨(), rfl, trivial, by rw [ht]; exact hz, by rw [ht]; exact hg, va_K.moved hW9.alike hK⟩, hS.F ht⟩) hS.2.2 dX3_init_4
