/-! THE CONSTRUCTOR of the whole thing, and a new house as a house of the world -/
theorem hs_E.narrow {tw : Nat} {A B : Nat → Prop} {U : State} (h : hs_E tw A U) (hAB : ∀ q, B q → A q) : hs_E tw B U := ⟨h.1, h.2.1, h.2.2.1, h.2.2.2.1.narrow hAB, h.2.2.2.2.narrow hAB⟩
theorem rg_callIE {p : Program} {l : Launch} {e : Env} {R : Room} {s : State} {m : MethodId} {args : Array Value} {below : List Frame} {meth : Method} {c : Code} {H : Heap} {locs : List Loc} {cells slots : Nat} {Q : State → Prop} {cc : ByteArray} {pc : Nat} {ls : Array Slot} {rest : List Value} {D : va_G} {d : hs_Dm} {Cn : Nat → va_E} {b mm : Nat} {y : MethodName} {bytes : ByteArray} {maxL nL n index mc ms k : Nat} {ws : List Cond} {rm : Room} {Ts : List Cond} {own : String} {As st : List Value} {C0 C2 : Nat → va_E} (S : CallFix p m c cc nL s args Ts own) (hM : rg_ME l y ws rm D d C0 C2 (b + mm) 1 k (.ref (b + mm) :: As) mc ms) (cw : CallB R s args own index y bytes maxL none ws rm mc ms n ∧ y.name = "<init>" ∧ (Cond.instanceMethod y).before args s = true) (hK : va_K D vwCl (hs_ty d) s) (hE : hs_E d.2.2.2.2 (rg_A b) s) (hAO : va_AO "Waxrow$Person" s ∧ va_AO "Waxrow$Figure" s ∧ va_AO "Waxrow$Room" s) (hg : rg D Cn b (mm + 1) H) (h0 : C0 0 = Cn mm) (hz : H.size = b + (mm + 1)) (hS : va_S (rg_A b) s.heap H locs) (hn : As.length = n) (hsize : ls.size = nL) (hrest : (rest.map fun v => v.category).sum ≤ 8) (hdg : decode cc pc = .ok (.invokespecial index, 3)) (hf : cells + mc ≤ R.cells ∧ slots + ms ≤ R.slots) (hst : st = As.reverse ++ .ref (b + mm) :: rest)
    (kk : ∀ (H1 : Heap) (locs1 : List Loc), rg D (fun j => if j < mm then Cn j else C2 (j - mm)) b (mm + k) H1 → H1.size = b + (mm + k) → va_S (rg_A b) s.heap H1 locs1 → W p l e R s m args below meth c H1 locs1 (cells + mc) (slots + ms) Q (F0 m (pc + 3) ls rest)) : W p l e R s m args below meth c H locs cells slots Q (F0 m pc ls st) := by
  subst hst
  have hlast : rg D C0 (b + mm) 1 H := fun j hj => by
    have e : j = 0 := by omega
    subst e
    rw [h0]
    exact hg mm (by omega)
  refine va_callv (va_runI S hM cw ⟨rg_blindE, fun U hU hW2 => ⟨rfl, ⟨by rw [hU]; omega, by rw [hU]; exact hlast, va_K.moved hW2.alike hK⟩, (hE.on hW2 hU hS).narrow (fun q h => Nat.le_trans (Nat.le_add_right b mm) h), va_AO.moved hW2.alike hAO.1, va_AO.moved hW2.alike hAO.2.1, va_AO.moved hW2.alike hAO.2.2⟩⟩ rfl hn hsize rfl (lv_room hrest) hdg hf) hS (fun q _ h => Nat.le_trans (Nat.le_add_right b mm) h) (fun q h => Nat.le_trans (Nat.le_add_right b mm) h) (fun u t H1 locs1 ht _ _ hB hzz hq hS1 => ?_)
  obtain ⟨b1, b2, -⟩ := hB
  rw [ht] at b1 b2
  exact kk H1 locs1 (rg.join ((hg.sub (Nat.le_succ mm)).kept (fun q h1 h2 => hq q h1 (by show ¬ b + mm ≤ q; omega))) b2) (by omega) hS1
/-- a new house -/
abbrev rc_N (d : hs_Dm) (b : Nat) : Nat → va_E := rc_H d b (.ref (b + 1)) (.ref (b + 52)) (.ref (b + 61)) 200 30 5 10 8 5
def rc_X (d : hs_Dm) (b : Nat) : Nat → va_E := fun j => if j = 0 then .inr (cWx, [.ref (b + 1), .ref (b + 68)]) else if j < 68 then rc_N d (b + 1) (j - 1) else rc_N d (b + 68) (j - 68)
/-- where it lies, what it holds -/
def rc_o (k i : Nat) : Nat := match k with
  | 0 => 0
  | 1 => 1
  | 2 => 52
  | 3 => 61
  | 4 => 2 + 5 * i
  | 5 => 2 + 5 * i + 1
  | 6 => 2 + 5 * i + 2
  | 7 => 2 + 5 * i + 3
  | 8 => 2 + 5 * i + 4
  | 9 => 53 + i
  | _ => 62 + i
def rc_L (b : Nat) : hs_Lo := fun k i => b + rc_o k i
def rc_s : hs_St := fun k _ j => if k = 0 then (if j = 7 then 200 else if j = 8 then 30 else if j = 9 then 5 else 0) else if k = 8 then 99 else if k = 9 ∧ j = 7 then 5 else 0
theorem rc_arr {cA : ClassId} {n : Nat} {f g : Nat → Option Nat} {H : Heap} {D : va_G} {a : Nat} (h : va_at D vwCl (a, .inl (cA, n, .inr (.inr (.inr (.inr f))))) H) (hfg : ∀ j, j < n → g j = f j) : va_at D vwCl (a, .inl (cA, n, .inr (.inr (.inr (.inr g))))) H := by
  have e : arrV cA n (fun j => va_rf (g j)) = arrV cA n (fun j => va_rf (f j)) := by
    unfold arrV
    congr 1
    refine congrArg _ (funext fun j => ?_)
    simp only [hfg j.val j.isLt]
  show H[a]? = some (vp_cell _ _)
  rw [vp_cell_q, e]
  exact h
theorem rc_iarr {cA : ClassId} {n : Nat} {f g : Nat → Int32} {H : Heap} {D : va_G} {a : Nat} (h : va_at D vwCl (a, .inl (cA, n, .inl f)) H) (hfg : ∀ j, j < n → g j = f j) : va_at D vwCl (a, .inl (cA, n, .inl g)) H := by
  have e : arrV cA n (fun j => .int (g j)) = arrV cA n (fun j => .int (f j)) := by
    unfold arrV
    congr 1
    refine congrArg _ (funext fun j => ?_)
    simp only [hfg j.val j.isLt]
  show H[a]? = some (vp_cell _ _)
  rw [vp_cell_i, e]
  exact h
theorem rc_o_lt {k i : Nat} (h : hs_ix k i) : rc_o k i < 67 := by
  match k, h with
  | 0, _ => exact (by decide : 0 < 67)
  | 1, _ => exact (by decide : 1 < 67)
  | 2, _ => exact (by decide : 52 < 67)
  | 3, _ => exact (by decide : 61 < 67)
  | 4, h => unfold hs_ix at h; simp only [rc_o]; omega
  | 5, h => unfold hs_ix at h; simp only [rc_o]; omega
  | 6, h => unfold hs_ix at h; simp only [rc_o]; omega
  | 7, h => unfold hs_ix at h; simp only [rc_o]; omega
  | 8, h => unfold hs_ix at h; simp only [rc_o]; omega
  | 9, h => unfold hs_ix at h; simp only [rc_o]; omega
  | 10, h => unfold hs_ix at h; simp only [rc_o]; omega
  | k + 11, h => unfold hs_ix at h; omega
def rc_v (o : Nat) : Nat × Nat := if o = 0 then (0, 0) else if o = 1 then (1, 0) else if o < 52 then (4 + (o - 2) % 5, (o - 2) / 5) else if o = 52 then (2, 0) else if o < 61 then (9, o - 53) else if o = 61 then (3, 0) else (10, o - 62)
theorem rc_v_o {k i : Nat} (h : hs_ix k i) : rc_v (rc_o k i) = (k, i) := by
  match k, h with
  | 0, h =>
    unfold hs_ix at h
    have hi : i = 0 := by omega
    subst hi
    rfl
  | 1, h =>
    unfold hs_ix at h
    have hi : i = 0 := by omega
    subst hi
    rfl
  | 2, h =>
    unfold hs_ix at h
    have hi : i = 0 := by omega
    subst hi
    rfl
  | 3, h =>
    unfold hs_ix at h
    have hi : i = 0 := by omega
    subst hi
    rfl
  | 4, h =>
    unfold hs_ix at h
    have hi : i < 10 := by omega
    unfold rc_v
    simp only [rc_o]
    rw [if_neg (by omega), if_neg (by omega), if_pos (by omega), show 4 + (2 + 5 * i - 2) % 5 = 4 by omega, show (2 + 5 * i - 2) / 5 = i by omega]
  | 5, h =>
    unfold hs_ix at h
    have hi : i < 10 := by omega
    unfold rc_v
    simp only [rc_o]
    rw [if_neg (by omega), if_neg (by omega), if_pos (by omega), show 4 + (2 + 5 * i + 1 - 2) % 5 = 5 by omega, show (2 + 5 * i + 1 - 2) / 5 = i by omega]
  | 6, h =>
    unfold hs_ix at h
    have hi : i < 10 := by omega
    unfold rc_v
    simp only [rc_o]
    rw [if_neg (by omega), if_neg (by omega), if_pos (by omega), show 4 + (2 + 5 * i + 2 - 2) % 5 = 6 by omega, show (2 + 5 * i + 2 - 2) / 5 = i by omega]
  | 7, h =>
    unfold hs_ix at h
    have hi : i < 10 := by omega
    unfold rc_v
    simp only [rc_o]
    rw [if_neg (by omega), if_neg (by omega), if_pos (by omega), show 4 + (2 + 5 * i + 3 - 2) % 5 = 7 by omega, show (2 + 5 * i + 3 - 2) / 5 = i by omega]
  | 8, h =>
    unfold hs_ix at h
    have hi : i < 10 := by omega
    unfold rc_v
    simp only [rc_o]
    rw [if_neg (by omega), if_neg (by omega), if_pos (by omega), show 4 + (2 + 5 * i + 4 - 2) % 5 = 8 by omega, show (2 + 5 * i + 4 - 2) / 5 = i by omega]
  | 9, h =>
    unfold hs_ix at h
    have hi : i < 8 := by omega
    unfold rc_v
    simp only [rc_o]
    rw [if_neg (by omega), if_neg (by omega), if_neg (by omega), if_neg (by omega), if_pos (by omega), show 53 + i - 53 = i by omega]
  | 10, h =>
    unfold hs_ix at h
    have hi : i < 5 := by omega
    unfold rc_v
    simp only [rc_o]
    rw [if_neg (by omega), if_neg (by omega), if_neg (by omega), if_neg (by omega), if_neg (by omega), if_neg (by omega), show 62 + i - 62 = i by omega]
  | k + 11, h => unfold hs_ix at h; omega
theorem rc_o_inj {k i k' i' : Nat} (h : hs_ix k i) (h' : hs_ix k' i') (e : rc_o k i = rc_o k' i') : k = k' ∧ i = i' := by
  have := (rc_v_o h).symm.trans ((congrArg rc_v e).trans (rc_v_o h'))
  exact ⟨congrArg Prod.fst this, congrArg Prod.snd this⟩
theorem hs_ix_lt {k i : Nat} (h : hs_ix k i) : k < 11 ∧ i < 10 := by unfold hs_ix at h; omega
theorem rc_W {D : va_G} {d : hs_Dm} {b : Nat} {A : Nat → Prop} {H : Heap} (h : rg D (rc_N d b) b 67 H) (hA : ∀ j, j < 67 → A (b + j)) : hs_W D d (rc_L b) rc_s A H := by
  refine ⟨fun k i hx => ?_, fun k i hx => hA _ (rc_o_lt hx), fun k i k' i' hx hx' e => rc_o_inj hx hx' (by unfold rc_L at e; omega)⟩
  have hp := rc_H_P d b (.ref (b + 1)) (.ref (b + 52)) (.ref (b + 61)) 200 30 5 10 8 5
  match k, hx with
  | 0, hx =>
    have hi : i = 0 := by unfold hs_ix at hx; omega
    subst hi
    exact h 0 (by decide)
  | 1, hx =>
    have hi : i = 0 := by unfold hs_ix at hx; omega
    subst hi
    exact rc_arr (h 1 (by decide)) (fun j hj => (if_pos hj).symm)
  | 2, hx =>
    have hi : i = 0 := by unfold hs_ix at hx; omega
    subst hi
    exact rc_arr (h 52 (by decide)) (fun j hj => (if_pos hj).symm)
  | 3, hx =>
    have hi : i = 0 := by unfold hs_ix at hx; omega
    subst hi
    exact rc_arr (h 61 (by decide)) (fun j hj => (if_pos hj).symm)
  | 4, hx =>
    have hi : i < 10 := (hs_ix_lt hx).2
    have h9 := h (2 + 5 * i + 0) (by omega)
    rw [rc_N, hp i 0 hi (by decide)] at h9
    exact h9
  | 5, hx =>
    have hi : i < 10 := (hs_ix_lt hx).2
    have h9 := h (2 + 5 * i + 1) (by omega)
    rw [rc_N, hp i 1 hi (by decide)] at h9
    exact rc_iarr h9 (fun j hj => rfl)
  | 6, hx =>
    have hi : i < 10 := (hs_ix_lt hx).2
    have h9 := h (2 + 5 * i + 2) (by omega)
    rw [rc_N, hp i 2 hi (by decide)] at h9
    exact rc_iarr h9 (fun j hj => rfl)
  | 7, hx =>
    have hi : i < 10 := (hs_ix_lt hx).2
    have h9 := h (2 + 5 * i + 3) (by omega)
    rw [rc_N, hp i 3 hi (by decide)] at h9
    exact rc_iarr h9 (fun j hj => rfl)
  | 8, hx =>
    have hi : i < 10 := (hs_ix_lt hx).2
    have h9 := h (2 + 5 * i + 4) (by omega)
    rw [rc_N, hp i 4 hi (by decide)] at h9
    exact rc_iarr h9 (fun j hj => (if_pos hj).symm)
  | 9, hx =>
    have hi : i < 8 := by unfold hs_ix at hx; omega
    have h9 := h (53 + i) (by omega)
    rw [rc_N, rc_H_F _ _ _ _ _ _ _ _ _ _ _ i hi] at h9
    exact h9
  | 10, hx =>
    have hi : i < 5 := by unfold hs_ix at hx; omega
    have h9 := h (62 + i) (by omega)
    rw [rc_N, rc_H_R] at h9
    exact h9
  | k + 11, hx => unfold hs_ix at hx; omega
theorem rc_s_ok : hs_ok 0 0 0 rc_s := ⟨by decide, by decide, by decide, rfl, rfl, rfl, fun f _ => ⟨⟨(by decide : (0 : Int32).toNatClampNeg < 10), (by decide : (0 : Int32).toNatClampNeg < 10)⟩, ⟨0, by decide, rfl⟩, Or.inr (Or.inl (by decide : (5 : Int32) ≤ 5))⟩⟩
set_option maxHeartbeats 4000000 in
set_option maxRecDepth 100000 in
/-- Waxrow() -/
theorem kX4_init (l : Launch) (D : va_G) (d : hs_Dm) (b : Nat) : rg_ME l yX4_init wsX4_init ({ frames := 4, cells := 134, slots := 784, locals := 120 }) D d (rc_1 (.inr (cWx, [.null, .null]))) (rc_X d b) b 1 135 [.ref b] 134 784 := by
  refine Met.ofW (cc := cX4_init) (maxL := 1) (ret := none) (by decide) rfl ?_
  intro p e s m args below meth c s₁ B hml hv
  obtain ⟨rfl, ⟨hz, hg, hK⟩, hE, hAO⟩ := hv
  have hx := B.exec
  have hb := B.bytes
  have hr := B.returns
  have hts := atoms_spec (ws := wsX4_init) B.pre
  have hown : s.vm.findClass RX4 = some m.cls := findClass_of_methodNamed B.named
  have hlocks := B.notSynchronized
  have hin : meth.name = "<init>" := (name_of_methodNamed B.named B.method).1
  have hS : va_S (rg_A b) s.heap s.heap [] := va_S.rf
  have hl := lv_entry ([.ref b]) (n := 1) (Nat.le_of_ble_eq_true rfl)
  rw [lg_entry_eq]
  generalize (lg_sl ([.ref b]) ++ List.replicate (1 - (lg_sl ([.ref b])).length) Slot.unset).toArray = ls at hl ⊢
  have hl : lv_has ls 1 [(0, .ref b)] := hl
  refine lv_aload_n hx hb dX4_init_0 rfl (lv_at hl 0 rfl) ?_
  refine W.objInit hx hb hown (hts (.methodLink RX4 1 objectInit) (by decide +kernel)) (hts (.instanceMethod objectInit) (by decide +kernel)) (hts (.code objectInit ⟨#[0xb1]⟩ 1 none) (by decide +kernel)) rfl (by rw [hml]; exact hl.1) rfl dX4_init_1 (Nat.le_of_ble_eq_true rfl) (Nat.le_of_ble_eq_true rfl) ?_
  refine W.eq (g2 := F0 m 4 ls []) rfl ?_
  refine lv_aload_n hx hb dX4_init_4 rfl (lv_at hl 0 rfl) ?_
  refine rg_new (ci := cHo) (fs := [.null, .null, .null, .int 0, .int 0, .int 0, .int 0, .int 0, .int 0, .int 0, .int 0]) (C := RX1) (T := TX1) (N := 11) hx hb hts (by decide +kernel) tyX1 tyX1_ok hown (hts (.classLink RX4 7 RX1) (by decide +kernel)) (hts (.instantiable RX1 11) (by decide +kernel)) (hts (.initialized RX1) (by decide +kernel)) hK hg hz hS rfl (fun j hj => by rcases (show j = 0 ∨ j = 1 ∨ j = 2 ∨ j = 3 ∨ j = 4 ∨ j = 5 ∨ j = 6 ∨ j = 7 ∨ j = 8 ∨ j = 9 ∨ j = 10 by omega) with rfl | rfl | rfl | rfl | rfl | rfl | rfl | rfl | rfl | rfl | rfl <;> rfl) (by decide) (by decide) dX4_init_5 (fun H hg hz hS hq => ?_)
  refine lv_dup hx hb dX4_init_8 rfl ?_
  refine rg_callIE (As := []) (C0 := rc_1 (.inr (cHo, [.null, .null, .null, .int 0, .int 0, .int 0, .int 0, .int 0, .int 0, .int 0, .int 0]))) (C2 := rc_N d (b + 1)) (mm := 1) ⟨hx, hb, hml, hown, hts⟩ (kX1_init l D d (b + 1)) (cwI 0 hts gX4_init_X1_init rfl rfl rfl (hts (.initialized RX1) (by decide +kernel)) (hts (.methodLink RX4 9 yX1_init) (by decide +kernel)) (hts (.instanceMethod yX1_init) (by decide +kernel)) rfl (by decide +kernel) ⟨Nat.le_of_ble_eq_true rfl, Nat.le_of_ble_eq_true rfl⟩) hK hE hAO hg rfl hz hS rfl hl.1 (Nat.le_of_ble_eq_true rfl) dX4_init_9 ⟨by decide, by decide⟩ rfl (fun H locs hg hz hS => ?_)
  have hg : rg D (fun j => if j < 1 then (va_up (rc_1 (.inr (cWx, [.null, .null]))) 1 (.inr (cHo, [.null, .null, .null, .int 0, .int 0, .int 0, .int 0, .int 0, .int 0, .int 0, .int 0]))) j else rc_N d (b + 1) (j - 1)) b 68 H := hg
  have hz : H.size = b + 68 := hz
  refine rg_putF (ci := cWx) (C := RX4) (T := TX4) (N := 2) (ty := (.object "Waxrow$House")) hx hb hts (by decide +kernel) tyX4 tyX4_ok nmX4 hown hK hg hz hS 0 (by omega) (fs := [.null, .null]) rfl rfl 0 (by decide) (hts (.fieldLink RX4 10 "Waxrow" "house" "LWaxrow$House;") (by decide +kernel)) (fun _ h9 => h9) rfl hin rfl (by decide +kernel) rfl rfl (Nat.le_of_ble_eq_true rfl) dX4_init_12 (fun H locs hg hz hS => ?_)
  have hg : rg D (va_up (fun j => if j < 1 then (va_up (rc_1 (.inr (cWx, [.null, .null]))) 1 (.inr (cHo, [.null, .null, .null, .int 0, .int 0, .int 0, .int 0, .int 0, .int 0, .int 0, .int 0]))) j else rc_N d (b + 1) (j - 1)) 0 (.inr (cWx, [.ref (b + 1), .null]))) b 68 H := hg
  refine lv_aload_n hx hb dX4_init_15 rfl (lv_at hl 0 rfl) ?_
  refine rg_new (ci := cHo) (fs := [.null, .null, .null, .int 0, .int 0, .int 0, .int 0, .int 0, .int 0, .int 0, .int 0]) (C := RX1) (T := TX1) (N := 11) hx hb hts (by decide +kernel) tyX1 tyX1_ok hown (hts (.classLink RX4 7 RX1) (by decide +kernel)) (hts (.instantiable RX1 11) (by decide +kernel)) (hts (.initialized RX1) (by decide +kernel)) hK hg hz hS rfl (fun j hj => by rcases (show j = 0 ∨ j = 1 ∨ j = 2 ∨ j = 3 ∨ j = 4 ∨ j = 5 ∨ j = 6 ∨ j = 7 ∨ j = 8 ∨ j = 9 ∨ j = 10 by omega) with rfl | rfl | rfl | rfl | rfl | rfl | rfl | rfl | rfl | rfl | rfl <;> rfl) (by decide) (by decide) dX4_init_16 (fun H hg hz hS hq => ?_)
  refine lv_dup hx hb dX4_init_19 rfl ?_
  refine rg_callIE (As := []) (C0 := rc_1 (.inr (cHo, [.null, .null, .null, .int 0, .int 0, .int 0, .int 0, .int 0, .int 0, .int 0, .int 0]))) (C2 := rc_N d (b + 68)) (mm := 68) ⟨hx, hb, hml, hown, hts⟩ (kX1_init l D d (b + 68)) (cwI 0 hts gX4_init_X1_init rfl rfl rfl (hts (.initialized RX1) (by decide +kernel)) (hts (.methodLink RX4 9 yX1_init) (by decide +kernel)) (hts (.instanceMethod yX1_init) (by decide +kernel)) rfl (by decide +kernel) ⟨Nat.le_of_ble_eq_true rfl, Nat.le_of_ble_eq_true rfl⟩) hK hE hAO hg rfl hz hS rfl hl.1 (Nat.le_of_ble_eq_true rfl) dX4_init_20 ⟨by decide, by decide⟩ rfl (fun H locs hg hz hS => ?_)
  have hg : rg D (fun j => if j < 68 then (va_up (va_up (fun j => if j < 1 then (va_up (rc_1 (.inr (cWx, [.null, .null]))) 1 (.inr (cHo, [.null, .null, .null, .int 0, .int 0, .int 0, .int 0, .int 0, .int 0, .int 0, .int 0]))) j else rc_N d (b + 1) (j - 1)) 0 (.inr (cWx, [.ref (b + 1), .null]))) 68 (.inr (cHo, [.null, .null, .null, .int 0, .int 0, .int 0, .int 0, .int 0, .int 0, .int 0, .int 0]))) j else rc_N d (b + 68) (j - 68)) b 135 H := hg
  have hz : H.size = b + 135 := hz
  refine rg_putF (ci := cWx) (C := RX4) (T := TX4) (N := 2) (ty := (.object "Waxrow$House")) hx hb hts (by decide +kernel) tyX4 tyX4_ok nmX4 hown hK hg hz hS 0 (by omega) (fs := [.ref (b + 1), .null]) rfl rfl 1 (by decide) (hts (.fieldLink RX4 16 "Waxrow" "trial" "LWaxrow$House;") (by decide +kernel)) (fun _ h9 => h9) rfl hin rfl (by decide +kernel) rfl rfl (Nat.le_of_ble_eq_true rfl) dX4_init_23 (fun H locs hg hz hS => ?_)
  have hg : rg D (va_up (fun j => if j < 68 then (va_up (va_up (fun j => if j < 1 then (va_up (rc_1 (.inr (cWx, [.null, .null]))) 1 (.inr (cHo, [.null, .null, .null, .int 0, .int 0, .int 0, .int 0, .int 0, .int 0, .int 0, .int 0]))) j else rc_N d (b + 1) (j - 1)) 0 (.inr (cWx, [.ref (b + 1), .null]))) 68 (.inr (cHo, [.null, .null, .null, .int 0, .int 0, .int 0, .int 0, .int 0, .int 0, .int 0, .int 0]))) j else rc_N d (b + 68) (j - 68)) 0 (.inr (cWx, [.ref (b + 1), .ref (b + 68)]))) b 135 H := hg
  have hg : rg D (rc_X d b) b 135 H := hg.congr (fun j hj => by
    unfold rc_X
    by_cases e : j = 0
    · subst e; rfl
    · rw [rc_upn _ 0 j _ e, if_neg e]
      by_cases h : j < 68
      · simp only [if_pos h, rc_upn _ 68 j _ (show j ≠ 68 by omega), rc_upn _ 0 j _ e, if_neg (show ¬ j < 1 by omega)]
      · simp only [if_neg h])
  exact W.vret hx hb hr (fun t ht hW9 => ⟨⟨(), rfl, trivial, by rw [ht]; exact hz, by rw [ht]; exact hg, va_K.moved hW9.alike hK⟩, hS.F ht⟩) hS.2.2 dX4_init_26
