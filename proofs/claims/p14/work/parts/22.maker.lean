/-! THE CONSTRUCTOR of a house -/
def rc_F (b : Nat) : va_E := .inr (cFi, [.ref (b + 2), .ref (b + 2), .int 0, .int 0, .int 0, .int 0, .int 0, .int 5, .int 0, .int 0, .int 0])
def rc_H (d : hs_Dm) (b : Nat) (f1 f2 f3 : Value) (mo wa pr : Int32) (np nf nr : Nat) : Nat → va_E := fun j =>
  if j = 0 then .inr (cHo, [f1, f2, f3, .int 0, .int 0, .int 0, .int 0, .int mo, .int wa, .int pr, .int 0])
  else if j = 1 then .inl (d.2.1, 10, .inr (.inr (.inr (.inr (fun i => if i < np then some (b + (2 + 5 * i)) else none)))))
  else if j < 52 then rc_P d (b + (2 + 5 * ((j - 2) / 5))) (nI ((j - 2) / 5)) 6 ((j - 2) % 5)
  else if j = 52 then .inl (d.2.2.1, 8, .inr (.inr (.inr (.inr (fun i => if i < nf then some (b + (53 + i)) else none)))))
  else if j < 61 then rc_F b
  else if j = 61 then .inl (d.2.2.2.1, 5, .inr (.inr (.inr (.inr (fun i => if i < nr then some (b + (62 + i)) else none)))))
  else .inr (cRo, [.int 0, .int 0])
theorem rc_up1 {α : Type} (f : Nat → α) (j : Nat) (e : α) : va_up f j e j = e := if_pos rfl
theorem rc_upn {α : Type} (f : Nat → α) (j i : Nat) (e : α) (h : i ≠ j) : va_up f j e i = f i := if_neg h
theorem rc_grow (n c : Nat) (g : Nat → Nat) (h : n < 2 ^ 31) : va_up (fun i => if i < n then some (g i) else none) (nI n).toNatClampNeg (some (g n)) = fun i => if i < n + 1 then some (g i) else none := by
  rw [nI_clamp h]
  funext i
  by_cases e : i = n
  · subst e
    rw [rc_up1, if_pos (by omega)]
  · rw [rc_upn _ _ _ _ e]
    by_cases e2 : i < n
    · rw [if_pos e2, if_pos (by omega)]
    · rw [if_neg e2, if_neg (by omega)]
section RCH
variable (d : hs_Dm) (b : Nat) (f1 f2 f3 : Value) (mo wa pr : Int32) (np nf nr : Nat)
theorem rc_H_ne0 (g1 g2 g3 : Value) (mo2 wa2 pr2 : Int32) (j : Nat) (h : j ≠ 0) : rc_H d b f1 f2 f3 mo wa pr np nf nr j = rc_H d b g1 g2 g3 mo2 wa2 pr2 np nf nr j := by
  simp only [rc_H, if_neg h]
theorem rc_H_np (np2 j : Nat) (h : j ≠ 1) : rc_H d b f1 f2 f3 mo wa pr np nf nr j = rc_H d b f1 f2 f3 mo wa pr np2 nf nr j := by
  simp only [rc_H, if_neg h]
theorem rc_H_nf (nf2 j : Nat) (h : j ≠ 52) : rc_H d b f1 f2 f3 mo wa pr np nf nr j = rc_H d b f1 f2 f3 mo wa pr np nf2 nr j := by
  simp only [rc_H, if_neg h]
theorem rc_H_nr (nr2 j : Nat) (h : j ≠ 61) : rc_H d b f1 f2 f3 mo wa pr np nf nr j = rc_H d b f1 f2 f3 mo wa pr np nf nr2 j := by
  simp only [rc_H, if_neg h]
theorem rc_H_P (n t : Nat) (hn : n < 10) (ht : t < 5) : rc_H d b f1 f2 f3 mo wa pr np nf nr (2 + 5 * n + t) = rc_P d (b + (2 + 5 * n)) (nI n) 6 t := by
  simp only [rc_H]
  rw [if_neg (by omega), if_neg (by omega), if_pos (by omega), show (2 + 5 * n + t - 2) / 5 = n by omega, show (2 + 5 * n + t - 2) % 5 = t by omega]
theorem rc_H_F (n : Nat) (hn : n < 8) : rc_H d b f1 f2 f3 mo wa pr np nf nr (53 + n) = rc_F b := by
  simp only [rc_H]
  rw [if_neg (by omega), if_neg (by omega), if_neg (by omega), if_neg (by omega), if_pos (by omega)]
theorem rc_H_R (n : Nat) : rc_H d b f1 f2 f3 mo wa pr np nf nr (62 + n) = .inr (cRo, [.int 0, .int 0]) := by
  simp only [rc_H]
  rw [if_neg (by omega), if_neg (by omega), if_neg (by omega), if_neg (by omega), if_neg (by omega), if_neg (by omega)]
/-- a person is made -/
theorem rc_H_p (n : Nat) (hn : n < 10) (e : va_E) (j : Nat) (hj : j < 2 + 5 * n + 5) : rc_H d b f1 f2 f3 mo wa pr np nf nr j = if j < 2 + 5 * n then va_up (rc_H d b f1 f2 f3 mo wa pr np nf nr) (2 + 5 * n) e j else rc_P d (b + (2 + 5 * n)) (nI n) 6 (j - (2 + 5 * n)) := by
  by_cases h : j < 2 + 5 * n
  · rw [if_pos h, rc_upn _ _ _ _ (by omega)]
  · rw [if_neg h]
    have h2 := rc_H_P d b f1 f2 f3 mo wa pr np nf nr n (j - (2 + 5 * n)) hn (by omega)
    rw [show 2 + 5 * n + (j - (2 + 5 * n)) = j by omega] at h2
    exact h2
theorem rc_H_f (n : Nat) (hn : n < 8) (e : va_E) (j : Nat) (hj : j < 53 + n + 1) : rc_H d b f1 f2 f3 mo wa pr np nf nr j = if j < 53 + n then va_up (rc_H d b f1 f2 f3 mo wa pr np nf nr) (53 + n) e j else rc_1 (rc_F b) (j - (53 + n)) := by
  by_cases h : j < 53 + n
  · rw [if_pos h, rc_upn _ _ _ _ (by omega)]
  · rw [if_neg h, show j = 53 + n by omega]
    exact rc_H_F d b f1 f2 f3 mo wa pr np nf nr n hn
theorem rc_H_r (n : Nat) (e : va_E) (j : Nat) (hj : j < 62 + n + 1) : rc_H d b f1 f2 f3 mo wa pr np nf nr j = if j < 62 + n then va_up (rc_H d b f1 f2 f3 mo wa pr np nf nr) (62 + n) e j else rc_1 (.inr (cRo, [.int 0, .int 0])) (j - (62 + n)) := by
  by_cases h : j < 62 + n
  · rw [if_pos h, rc_upn _ _ _ _ (by omega)]
  · rw [if_neg h, show j = 62 + n by omega]
    exact rc_H_R d b f1 f2 f3 mo wa pr np nf nr n
theorem rc_H_sp (n j : Nat) (h : n < 2 ^ 31) : rc_H d b f1 f2 f3 mo wa pr (n + 1) nf nr j = va_up (rc_H d b f1 f2 f3 mo wa pr n nf nr) 1 (.inl (d.2.1, 10, .inr (.inr (.inr (.inr (va_up (fun i => if i < n then some (b + (2 + 5 * i)) else none) (nI n).toNatClampNeg (some (b + (2 + 5 * n))))))))) j := by
  by_cases e : j = 1
  · subst e
    rw [rc_up1, rc_grow n 0 (fun i => b + (2 + 5 * i)) h]
    rfl
  · rw [rc_upn _ _ _ _ e]
    exact rc_H_np d b f1 f2 f3 mo wa pr (n + 1) nf nr n j e
theorem rc_H_sf (n j : Nat) (h : n < 2 ^ 31) : rc_H d b f1 f2 f3 mo wa pr np (n + 1) nr j = va_up (rc_H d b f1 f2 f3 mo wa pr np n nr) 52 (.inl (d.2.2.1, 8, .inr (.inr (.inr (.inr (va_up (fun i => if i < n then some (b + (53 + i)) else none) (nI n).toNatClampNeg (some (b + (53 + n))))))))) j := by
  by_cases e : j = 52
  · subst e
    rw [rc_up1, rc_grow n 0 (fun i => b + (53 + i)) h]
    rfl
  · rw [rc_upn _ _ _ _ e]
    exact rc_H_nf d b f1 f2 f3 mo wa pr np (n + 1) nr n j e
theorem rc_H_sr (n j : Nat) (h : n < 2 ^ 31) : rc_H d b f1 f2 f3 mo wa pr np nf (n + 1) j = va_up (rc_H d b f1 f2 f3 mo wa pr np nf n) 61 (.inl (d.2.2.2.1, 5, .inr (.inr (.inr (.inr (va_up (fun i => if i < n then some (b + (62 + i)) else none) (nI n).toNatClampNeg (some (b + (62 + n))))))))) j := by
  by_cases e : j = 61
  · subst e
    rw [rc_up1, rc_grow n 0 (fun i => b + (62 + i)) h]
    rfl
  · rw [rc_upn _ _ _ _ e]
    exact rc_H_nr d b f1 f2 f3 mo wa pr np nf (n + 1) n j e
theorem rc_H_vP (n : Nat) (hn : n < 10) : ∃ vs, rc_H d b f1 f2 f3 mo wa pr np nf nr (2 + 5 * n) = .inr (cPe, vs) := ⟨_, rc_H_P d b f1 f2 f3 mo wa pr np nf nr n 0 hn (by decide)⟩
end RCH
def rg_CE (D : va_G) (d : hs_Dm) (C : Nat → va_E) (b m : Nat) (U : State) : Prop := rg_C D d C b m U ∧ hs_E d.2.2.2.2 (rg_A b) U ∧ (va_AO "Waxrow$Person" U ∧ va_AO "Waxrow$Figure" U ∧ va_AO "Waxrow$Room" U)
theorem rg_blindE {D : va_G} {d : hs_Dm} {C : Nat → va_E} {b m : Nat} {av : List Value} : FrameBlind (va_Pc av (rg_CE D d C b m)) := fun a U g mk q => by
  obtain ⟨q0, q1, ⟨e1, e2, e3, e4, e5⟩, a1, a2, a3⟩ := q
  exact ⟨q0, (rg_blind (av := av) a U g mk ⟨q0, q1⟩).2, ⟨va_Nw.same (u := U) (U := U.calling g mk a) rfl rfl e1, va_Nw.same (u := U) (U := U.calling g mk a) rfl rfl e2, va_Nw.same (u := U) (U := U.calling g mk a) rfl rfl e3, va_Z.moved (u := U) (U := U.calling g mk a) (Vm.Alike.refl U.vm) e4, va_T.moved (u := U) (U := U.calling g mk a) (Vm.Alike.refl U.vm) e5⟩, va_AO.moved (u := U) (U := U.calling g mk a) (Vm.Alike.refl U.vm) a1, va_AO.moved (u := U) (U := U.calling g mk a) (Vm.Alike.refl U.vm) a2, va_AO.moved (u := U) (U := U.calling g mk a) (Vm.Alike.refl U.vm) a3⟩
abbrev rg_ME (l : Launch) (y : MethodName) (ws : List Cond) (rm : Room) (D : va_G) (d : hs_Dm) (C C2 : Nat → va_E) (b m m2 : Nat) (av : List Value) (mc ms : Nat) : Prop := Met l y ws rm (va_Pc av (rg_CE D d C b m)) (va_Qv (fun _ : Unit => True) (fun _ t => rg_C D d C2 b m2 t) (rg_A b)) mc ms (rg_A b)
theorem rg_callIN {p : Program} {l : Launch} {e : Env} {R : Room} {s : State} {m : MethodId} {args : Array Value} {below : List Frame} {meth : Method} {c : Code} {H : Heap} {locs : List Loc} {cells slots : Nat} {Q : State → Prop} {cc : ByteArray} {pc : Nat} {ls : Array Slot} {rest : List Value} {D : va_G} {d : hs_Dm} {Cn : Nat → va_E} {b mm : Nat} {y : MethodName} {bytes : ByteArray} {maxL nL n index mc ms k : Nat} {ws : List Cond} {rm : Room} {Ts : List Cond} {own host : String} {As st : List Value} {C0 C2 : Nat → va_E} (S : CallFix p m c cc nL s args Ts own) (hM : rg_M l y ws rm D d C0 C2 (b + mm) 1 k (.ref (b + mm) :: As) mc ms) (cw : va_CN R s args own index y host bytes maxL none ws rm mc ms n ∧ y.name = "<init>" ∧ (Cond.instanceMethod y).before args s = true) (hK : va_K D vwCl (hs_ty d) s) (hg : rg D Cn b (mm + 1) H) (h0 : C0 0 = Cn mm) (hz : H.size = b + (mm + 1)) (hS : va_S (rg_A b) s.heap H locs) (hn : As.length = n) (hsize : ls.size = nL) (hrest : (rest.map fun v => v.category).sum ≤ 8) (hdg : decode cc pc = .ok (.invokespecial index, 3)) (hf : cells + mc ≤ R.cells ∧ slots + ms ≤ R.slots) (hst : st = As.reverse ++ .ref (b + mm) :: rest)
    (kk : ∀ (H1 : Heap) (locs1 : List Loc), rg D (fun j => if j < mm then Cn j else C2 (j - mm)) b (mm + k) H1 → H1.size = b + (mm + k) → va_S (rg_A b) s.heap H1 locs1 → W p l e R s m args below meth c H1 locs1 (cells + mc) (slots + ms) Q (F0 m (pc + 3) ls rest)) : W p l e R s m args below meth c H locs cells slots Q (F0 m pc ls st) := by
  subst hst
  have hlast : rg D C0 (b + mm) 1 H := fun j hj => by
    have e : j = 0 := by omega
    subst e
    rw [h0]
    exact hg mm (by omega)
  refine va_callv (va_runIN S hM cw ⟨rg_blind, fun U hU hW2 => ⟨rfl, by rw [hU]; omega, by rw [hU]; exact hlast, va_K.moved hW2.alike hK⟩⟩ rfl hn hsize rfl (lv_room hrest) hdg hf) hS (fun q _ h => Nat.le_trans (Nat.le_add_right b mm) h) (fun q h => Nat.le_trans (Nat.le_add_right b mm) h) (fun u t H1 locs1 ht _ _ hB hzz hq hS1 => ?_)
  obtain ⟨b1, b2, -⟩ := hB
  rw [ht] at b1 b2
  exact kk H1 locs1 (rg.join ((hg.sub (Nat.le_succ mm)).kept (fun q h1 h2 => hq q h1 (by show ¬ b + mm ≤ q; omega))) b2) (by omega) hS1
set_option maxHeartbeats 4000000 in
set_option maxRecDepth 100000 in
/-- House(): the loop at 93 -/
theorem lk3X1_init (l : Launch) (D : va_G) (d : hs_Dm) (b : Nat) {p : Program} {e : Env} {s : State} {m : MethodId} {args : Array Value} {below : List Frame} {meth : Method} {c : Code} (hx : p.tables.exec = Jvm.exec) (hb : c.code = cX1_init) (hr : meth.sig.returnType = none) (hts : ∀ w ∈ wsX1_init, w.before args s = true) (hown : s.vm.findClass RX1 = some m.cls) (hlocks : meth.locks = false) (hml : c.maxLocals = 2) (hin : meth.name = "<init>") (hK : va_K D vwCl (hs_ty d) s) (hE : hs_E d.2.2.2.2 (rg_A b) s) (hAO : va_AO "Waxrow$Person" s ∧ va_AO "Waxrow$Figure" s ∧ va_AO "Waxrow$Room" s) : ∀ (k n : Nat), n + k = 5 → ∀ (H : Heap) (locs : List Loc), rg D (rc_H d b (.ref (b + 1)) (.ref (b + 52)) (.ref (b + 61)) 0 0 0 10 8 n) b (62 + n) H → H.size = b + (62 + n) → va_S (rg_A b) s.heap H locs → ∀ ls : Array Slot, lv_has ls 2 [(0, .ref b), (1, .int (nI n))] → W p l e (({ frames := 3, cells := 66, slots := 381, locals := 60 }) : Room) s m args below meth c H locs (61 + n) (371 + 2 * n) (MQ below (va_Qv (fun _ : Unit => True) (fun _ t => rg_C D d (rc_H d b (.ref (b + 1)) (.ref (b + 52)) (.ref (b + 61)) 200 30 5 10 8 5) b 67 t) (rg_A b)) args s 66 381 (rg_A b)) (F0 m 93 ls []) := by
  intro k
  induction k with
  | zero =>
    intro n hn H locs hg hz hS ls hl
    have hnN : n = 5 := by omega
    refine lv_iload_n hx hb dX1_init_93 rfl (lv_at hl 1 rfl) ?_
    refine lv_iconst (v := 5) hx hb dX1_init_94 (by decide) ?_
    refine lv_icmp_ge (tgt := 117) hx hb dX1_init_95 (by decide) (fun c_95 => ?_) (fun c_95 => ?_)
    · rw [hnN] at hg hz
      refine lv_aload_n hx hb dX1_init_117 rfl (lv_at hl 0 rfl) ?_
      refine lv_sipush (v := 200) hx hb dX1_init_118 (by decide) ?_
      refine rg_put (ci := cHo) (C := RX1) (T := TX1) (N := 11) (ty := .int) hx hb hts (by decide +kernel) tyX1 tyX1_ok nmX1 hown hK hg hz hS 0 (by omega) (fs := [.ref (b + 1), .ref (b + 52), .ref (b + 61), .int 0, .int 0, .int 0, .int 0, .int 0, .int 0, .int 0, .int 0]) rfl rfl 7 (by decide) (hts (.fieldLink RX1 36 "Waxrow$House" "money" "I") (by decide +kernel)) (fun _ h9 => h9) rfl (by decide +kernel) rfl rfl (Nat.le_of_ble_eq_true rfl) dX1_init_121 (fun H locs hg hz hS => ?_)
      have hg : rg D (va_up (rc_H d b (.ref (b + 1)) (.ref (b + 52)) (.ref (b + 61)) 0 0 0 10 8 5) 0 (.inr (cHo, [.ref (b + 1), .ref (b + 52), .ref (b + 61), .int 0, .int 0, .int 0, .int 0, .int 200, .int 0, .int 0, .int 0]))) b 67 H := hg
      refine lv_aload_n hx hb dX1_init_124 rfl (lv_at hl 0 rfl) ?_
      refine lv_bipush (v := 30) hx hb dX1_init_125 (by decide) ?_
      refine rg_put (ci := cHo) (C := RX1) (T := TX1) (N := 11) (ty := .int) hx hb hts (by decide +kernel) tyX1 tyX1_ok nmX1 hown hK hg hz hS 0 (by omega) (fs := [.ref (b + 1), .ref (b + 52), .ref (b + 61), .int 0, .int 0, .int 0, .int 0, .int 200, .int 0, .int 0, .int 0]) rfl rfl 8 (by decide) (hts (.fieldLink RX1 40 "Waxrow$House" "wax" "I") (by decide +kernel)) (fun _ h9 => h9) rfl (by decide +kernel) rfl rfl (Nat.le_of_ble_eq_true rfl) dX1_init_127 (fun H locs hg hz hS => ?_)
      have hg : rg D (va_up (va_up (rc_H d b (.ref (b + 1)) (.ref (b + 52)) (.ref (b + 61)) 0 0 0 10 8 5) 0 (.inr (cHo, [.ref (b + 1), .ref (b + 52), .ref (b + 61), .int 0, .int 0, .int 0, .int 0, .int 200, .int 0, .int 0, .int 0]))) 0 (.inr (cHo, [.ref (b + 1), .ref (b + 52), .ref (b + 61), .int 0, .int 0, .int 0, .int 0, .int 200, .int 30, .int 0, .int 0]))) b 67 H := hg
      refine lv_aload_n hx hb dX1_init_130 rfl (lv_at hl 0 rfl) ?_
      refine lv_iconst (v := 5) hx hb dX1_init_131 (by decide) ?_
      refine rg_put (ci := cHo) (C := RX1) (T := TX1) (N := 11) (ty := .int) hx hb hts (by decide +kernel) tyX1 tyX1_ok nmX1 hown hK hg hz hS 0 (by omega) (fs := [.ref (b + 1), .ref (b + 52), .ref (b + 61), .int 0, .int 0, .int 0, .int 0, .int 200, .int 30, .int 0, .int 0]) rfl rfl 9 (by decide) (hts (.fieldLink RX1 43 "Waxrow$House" "price" "I") (by decide +kernel)) (fun _ h9 => h9) rfl (by decide +kernel) rfl rfl (Nat.le_of_ble_eq_true rfl) dX1_init_132 (fun H locs hg hz hS => ?_)
      have hg : rg D (va_up (va_up (va_up (rc_H d b (.ref (b + 1)) (.ref (b + 52)) (.ref (b + 61)) 0 0 0 10 8 5) 0 (.inr (cHo, [.ref (b + 1), .ref (b + 52), .ref (b + 61), .int 0, .int 0, .int 0, .int 0, .int 200, .int 0, .int 0, .int 0]))) 0 (.inr (cHo, [.ref (b + 1), .ref (b + 52), .ref (b + 61), .int 0, .int 0, .int 0, .int 0, .int 200, .int 30, .int 0, .int 0]))) 0 (.inr (cHo, [.ref (b + 1), .ref (b + 52), .ref (b + 61), .int 0, .int 0, .int 0, .int 0, .int 200, .int 30, .int 5, .int 0]))) b 67 H := hg
      have hg : rg D (rc_H d b (.ref (b + 1)) (.ref (b + 52)) (.ref (b + 61)) 200 30 5 10 8 5) b 67 H := hg.congr (fun j hj => by
        by_cases e : j = 0
        · subst e; rfl
        · simp only [rc_upn _ 0 j _ e]; exact rc_H_ne0 _ _ _ _ _ _ _ _ _ _ _ _ _ _ _ _ _ _ e)
      rw [hnN]
      exact W.vret hx hb hr (fun t ht hW9 => ⟨⟨(), rfl, trivial, by rw [ht]; exact hz, by rw [ht]; exact hg, va_K.moved hW9.alike hK⟩, hS.F ht⟩) hS.2.2 dX1_init_135
    · exact absurd (by rw [show (5 : Int32) = nI 5 from by decide +kernel, hnN]; exact nI_le (Nat.le_refl _) (by omega)) c_95
  | succ k ih =>
    intro n hn H locs hg hz hS ls hl
    have hnN : n < 5 := by omega
    refine lv_iload_n hx hb dX1_init_93 rfl (lv_at hl 1 rfl) ?_
    refine lv_iconst (v := 5) hx hb dX1_init_94 (by decide) ?_
    refine lv_icmp_ge (tgt := 117) hx hb dX1_init_95 (by decide) (fun c_95 => ?_) (fun c_95 => ?_)
    · exact absurd (by rw [show (5 : Int32) = nI 5 from by decide +kernel] at c_95; exact c_95) (nI_ge hnN (by omega))
    · refine lv_aload_n hx hb dX1_init_98 rfl (lv_at hl 0 rfl) ?_
      refine va_get (D := D) (ci := cHo) (C := RX1) (T := TX1) (N := 11) (ws := [(b + 0, (rc_H d b (.ref (b + 1)) (.ref (b + 52)) (.ref (b + 61)) 0 0 0 10 8 n) 0)]) (v := .ref (b + 61)) hx hb hts (by decide +kernel) hown hK (hg.one (by omega)) 0 rfl rfl 2 (by decide) (hts (.fieldLink RX1 31 "Waxrow$House" "rooms" "[LWaxrow$Room;") (by decide +kernel)) (fun _ h9 => h9) rfl dX1_init_99 ?_
      refine lv_iload_n hx hb dX1_init_102 rfl (lv_at hl 1 rfl) ?_
      refine rg_new (ci := cRo) (fs := [.int 0, .int 0]) (C := RX3) (T := TX3) (N := 2) hx hb hts (by decide +kernel) tyX3 tyX3_ok hown (hts (.classLink RX1 29 RX3) (by decide +kernel)) (hts (.instantiable RX3 2) (by decide +kernel)) (hts (.initialized RX3) (by decide +kernel)) hK hg hz hS rfl (fun j hj => by rcases (show j = 0 ∨ j = 1 by omega) with rfl | rfl <;> rfl) (by show _ ≤ 66; omega) (by show _ ≤ 381; omega) dX1_init_103 (fun H hg hz hS hq => ?_)
      refine lv_dup hx hb dX1_init_106 rfl ?_
      refine rg_callIN (As := []) (C0 := rc_1 (.inr (cRo, [.int 0, .int 0]))) (C2 := rc_1 (.inr (cRo, [.int 0, .int 0]))) (mm := 62 + n) ⟨hx, hb, hml, hown, hts⟩ (kX3_init l D d (b + (62 + n))) ⟨va_cnB 0 hts gX1_init_X3_init_n35 rfl rfl rfl hE.2.1 (hts (.initialized RX3) (by decide +kernel)) (by decide +kernel) ⟨Nat.le_of_ble_eq_true rfl, Nat.le_of_ble_eq_true rfl⟩, rfl, hts (.instanceMethod yX3_init) (by decide +kernel)⟩ hK hg (by simp [va_up, rc_1]) hz hS rfl hl.1 (Nat.le_of_ble_eq_true rfl) dX1_init_107 ⟨by show _ ≤ 66; omega, by show _ ≤ 381; omega⟩ rfl (fun H locs hg hz hS => ?_)
      have hg : rg D (rc_H d b (.ref (b + 1)) (.ref (b + 52)) (.ref (b + 61)) 0 0 0 10 8 n) b (62 + n + 1) H := hg.congr (fun j hj => rc_H_r d b (.ref (b + 1)) (.ref (b + 52)) (.ref (b + 61)) 0 0 0 10 8 n n _ j hj)
      refine rg_astq hx hb hK hg hz hS 61 (62 + n) 3 cRo (by omega) (by omega) (r := (RX3, TX3, 2)) rfl rfl (rc_H_R d b (.ref (b + 1)) (.ref (b + 52)) (.ref (b + 61)) 0 0 0 10 8 n n) rfl (vp_in_nI (show n < 5 by omega) (by decide)) dX1_init_110 (fun H locs hg hz hS => ?_)
      have hg : rg D (rc_H d b (.ref (b + 1)) (.ref (b + 52)) (.ref (b + 61)) 0 0 0 10 8 (n + 1)) b (62 + n + 1) H := hg.congr (fun j hj => rc_H_sr d b (.ref (b + 1)) (.ref (b + 52)) (.ref (b + 61)) 0 0 0 10 8 n j (by omega))
      refine lv_iinc (v := nI (n + 1)) (lv' := [(1, .int (nI (n + 1))), (0, .ref b)]) hx hb dX1_init_111 hl (k := 1) rfl (nI_succ _).symm (by decide) rfl (fun ls hl => ?_)
      refine lv_goto (tgt := 93) hx hb dX1_init_114 (by decide) ?_
      refine W.widen (k := 61 + (n + 1)) (n := 371 + 2 * (n + 1)) (by omega) (by omega) ?_
      exact ih (n + 1) (by omega) _ _ (by rw [show 62 + (n + 1) = 62 + n + 1 by omega]; exact hg) (by omega) hS ls (lv_sub hl [1, 0] rfl)
set_option maxHeartbeats 4000000 in
set_option maxRecDepth 100000 in
/-- House(): the loop at 52 -/
theorem lk2X1_init (l : Launch) (D : va_G) (d : hs_Dm) (b : Nat) {p : Program} {e : Env} {s : State} {m : MethodId} {args : Array Value} {below : List Frame} {meth : Method} {c : Code} (hx : p.tables.exec = Jvm.exec) (hb : c.code = cX1_init) (hr : meth.sig.returnType = none) (hts : ∀ w ∈ wsX1_init, w.before args s = true) (hown : s.vm.findClass RX1 = some m.cls) (hlocks : meth.locks = false) (hml : c.maxLocals = 2) (hin : meth.name = "<init>") (hK : va_K D vwCl (hs_ty d) s) (hE : hs_E d.2.2.2.2 (rg_A b) s) (hAO : va_AO "Waxrow$Person" s ∧ va_AO "Waxrow$Figure" s ∧ va_AO "Waxrow$Room" s) : ∀ (k n : Nat), n + k = 8 → ∀ (H : Heap) (locs : List Loc), rg D (rc_H d b (.ref (b + 1)) (.ref (b + 52)) .null 0 0 0 10 n 0) b (53 + n) H → H.size = b + (53 + n) → va_S (rg_A b) s.heap H locs → ∀ ls : Array Slot, lv_has ls 2 [(0, .ref b), (1, .int (nI n))] → W p l e (({ frames := 3, cells := 66, slots := 381, locals := 60 }) : Room) s m args below meth c H locs (52 + n) (278 + 11 * n) (MQ below (va_Qv (fun _ : Unit => True) (fun _ t => rg_C D d (rc_H d b (.ref (b + 1)) (.ref (b + 52)) (.ref (b + 61)) 200 30 5 10 8 5) b 67 t) (rg_A b)) args s 66 381 (rg_A b)) (F0 m 52 ls []) := by
  intro k
  induction k with
  | zero =>
    intro n hn H locs hg hz hS ls hl
    have hnN : n = 8 := by omega
    refine lv_iload_n hx hb dX1_init_52 rfl (lv_at hl 1 rfl) ?_
    refine lv_bipush (v := 8) hx hb dX1_init_53 (by decide) ?_
    refine lv_icmp_ge (tgt := 83) hx hb dX1_init_55 (by decide) (fun c_55 => ?_) (fun c_55 => ?_)
    · rw [hnN] at hg hz
      refine lv_aload_n hx hb dX1_init_83 rfl (lv_at hl 0 rfl) ?_
      refine lv_iconst (v := 5) hx hb dX1_init_84 (by decide) ?_
      refine rg_newq hx hb hown (hts (.classLink RX1 29 "Waxrow$Room") (by decide +kernel)) hAO.2.2 hK hg hz hS 3 rfl (by decide) (N' := 5) rfl (by decide) (by show _ ≤ 66; omega) (by show _ ≤ 381; omega) dX1_init_85 (fun H hg hz hS => ?_)
      have hg : rg D (va_up (rc_H d b (.ref (b + 1)) (.ref (b + 52)) .null 0 0 0 10 8 0) 61 (.inl (d.2.2.2.1, 5, .inr (.inr (.inr (.inr (fun _ => none))))))) b 62 H := hg
      refine rg_putF (ci := cHo) (C := RX1) (T := TX1) (N := 11) (ty := (.array (.object "Waxrow$Room"))) hx hb hts (by decide +kernel) tyX1 tyX1_ok nmX1 hown hK hg hz hS 0 (by omega) (fs := [.ref (b + 1), .ref (b + 52), .null, .int 0, .int 0, .int 0, .int 0, .int 0, .int 0, .int 0, .int 0]) rfl rfl 2 (by decide) (hts (.fieldLink RX1 31 "Waxrow$House" "rooms" "[LWaxrow$Room;") (by decide +kernel)) (fun _ h9 => h9) rfl hin rfl (by decide +kernel) rfl rfl (Nat.le_of_ble_eq_true rfl) dX1_init_88 (fun H locs hg hz hS => ?_)
      have hg : rg D (va_up (va_up (rc_H d b (.ref (b + 1)) (.ref (b + 52)) .null 0 0 0 10 8 0) 61 (.inl (d.2.2.2.1, 5, .inr (.inr (.inr (.inr (fun _ => none))))))) 0 (.inr (cHo, [.ref (b + 1), .ref (b + 52), .ref (b + 61), .int 0, .int 0, .int 0, .int 0, .int 0, .int 0, .int 0, .int 0]))) b 62 H := hg
      refine lv_iconst (v := 0) hx hb dX1_init_91 (by decide) ?_
      refine lv_istore_n (lv' := [(1, .int 0), (0, .ref b)]) hx hb dX1_init_92 rfl hl (by decide) rfl (fun ls hl => ?_)
      have hg : rg D (rc_H d b (.ref (b + 1)) (.ref (b + 52)) (.ref (b + 61)) 0 0 0 10 8 0) b 62 H := hg.congr (fun j hj => by
        by_cases e : j = 0
        · subst e; rfl
        · rw [rc_upn _ 0 j _ e]
          by_cases e2 : j = 61
          · subst e2; rfl
          · rw [rc_upn _ 61 j _ e2]; exact rc_H_ne0 _ _ _ _ _ _ _ _ _ _ _ _ _ _ _ _ _ _ e)
      rw [hnN]
      exact lk3X1_init l D d b hx hb hr hts hown hlocks hml hin hK hE hAO 5 0 (by omega) _ _ hg hz hS ls (lv_sub hl [1, 0] rfl)
    · exact absurd (by rw [show (8 : Int32) = nI 8 from by decide +kernel, hnN]; exact nI_le (Nat.le_refl _) (by omega)) c_55
  | succ k ih =>
    intro n hn H locs hg hz hS ls hl
    have hnN : n < 8 := by omega
    refine lv_iload_n hx hb dX1_init_52 rfl (lv_at hl 1 rfl) ?_
    refine lv_bipush (v := 8) hx hb dX1_init_53 (by decide) ?_
    refine lv_icmp_ge (tgt := 83) hx hb dX1_init_55 (by decide) (fun c_55 => ?_) (fun c_55 => ?_)
    · exact absurd (by rw [show (8 : Int32) = nI 8 from by decide +kernel] at c_55; exact c_55) (nI_ge hnN (by omega))
    · refine lv_aload_n hx hb dX1_init_58 rfl (lv_at hl 0 rfl) ?_
      refine va_get (D := D) (ci := cHo) (C := RX1) (T := TX1) (N := 11) (ws := [(b + 0, (rc_H d b (.ref (b + 1)) (.ref (b + 52)) .null 0 0 0 10 n 0) 0)]) (v := .ref (b + 52)) hx hb hts (by decide +kernel) hown hK (hg.one (by omega)) 0 rfl rfl 1 (by decide) (hts (.fieldLink RX1 22 "Waxrow$House" "figures" "[LWaxrow$Figure;") (by decide +kernel)) (fun _ h9 => h9) rfl dX1_init_59 ?_
      refine lv_iload_n hx hb dX1_init_62 rfl (lv_at hl 1 rfl) ?_
      refine rg_new (ci := cFi) (fs := [.null, .null, .int 0, .int 0, .int 0, .int 0, .int 0, .int 0, .int 0, .int 0, .int 0]) (C := RX0) (T := TX0) (N := 11) hx hb hts (by decide +kernel) tyX0 tyX0_ok hown (hts (.classLink RX1 20 RX0) (by decide +kernel)) (hts (.instantiable RX0 11) (by decide +kernel)) (hts (.initialized RX0) (by decide +kernel)) hK hg hz hS rfl (fun j hj => by rcases (show j = 0 ∨ j = 1 ∨ j = 2 ∨ j = 3 ∨ j = 4 ∨ j = 5 ∨ j = 6 ∨ j = 7 ∨ j = 8 ∨ j = 9 ∨ j = 10 by omega) with rfl | rfl | rfl | rfl | rfl | rfl | rfl | rfl | rfl | rfl | rfl <;> rfl) (by show _ ≤ 66; omega) (by show _ ≤ 381; omega) dX1_init_63 (fun H hg hz hS hq => ?_)
      refine lv_dup hx hb dX1_init_66 rfl ?_
      refine lv_aload_n hx hb dX1_init_67 rfl (lv_at hl 0 rfl) ?_
      refine va_get (D := D) (ci := cHo) (C := RX1) (T := TX1) (N := 11) (ws := [(b + 0, rc_H d b (.ref (b + 1)) (.ref (b + 52)) .null 0 0 0 10 n 0 0)]) (v := .ref (b + 1)) hx hb hts (by decide +kernel) hown hK (by have h9 := hg.one (o := 0) (by omega); rw [rc_upn _ _ _ _ (by omega)] at h9; exact h9) 0 rfl rfl 0 (by decide) (hts (.fieldLink RX1 11 "Waxrow$House" "persons" "[LWaxrow$Person;") (by decide +kernel)) (fun _ h9 => h9) rfl dX1_init_68 ?_
      refine lv_iconst (v := 0) hx hb dX1_init_71 (by decide) ?_
      refine va_aldq (ws := [(b + 1, rc_H d b (.ref (b + 1)) (.ref (b + 52)) .null 0 0 0 10 n 0 1)]) hx hb hK (by have h9 := hg.one (o := 1) (by omega); rw [rc_upn _ _ _ _ (by omega)] at h9; exact h9) 0 1 (cA := d.2.1) (C := "Waxrow$Person") (n := 10) (f := fun i => if i < 10 then some (b + (2 + 5 * i)) else none) rfl rfl (show ¬ ((0 : Int32) < 0 ∨ 10 ≤ (0 : Int32).toNatClampNeg) by decide) dX1_init_72 ?_
      refine W.eq (g2 := F0 m 73 ls [.ref (b + 2), .ref (b + (53 + n)), .ref (b + (53 + n)), .int (nI n), .ref (b + 52)]) rfl ?_
      refine rg_callI (As := [.ref (b + 2)]) (C0 := rc_1 (.inr (cFi, [.null, .null, .int 0, .int 0, .int 0, .int 0, .int 0, .int 0, .int 0, .int 0, .int 0]))) (C2 := rc_1 (rc_F b)) (mm := 53 + n) ⟨hx, hb, hml, hown, hts⟩ (kX0_init l D d (b + (53 + n)) (b + 2)) (cwI 1 hts gX1_init_X0_init rfl rfl rfl (hts (.initialized RX0) (by decide +kernel)) (hts (.methodLink RX1 26 yX0_init) (by decide +kernel)) (hts (.instanceMethod yX0_init) (by decide +kernel)) rfl (by decide +kernel) ⟨Nat.le_of_ble_eq_true rfl, Nat.le_of_ble_eq_true rfl⟩) hK hg (by simp [va_up, rc_1]) hz hS rfl hl.1 (Nat.le_of_ble_eq_true rfl) dX1_init_73 ⟨by show _ ≤ 66; omega, by show _ ≤ 381; omega⟩ rfl (fun H locs hg hz hS => ?_)
      have hg : rg D (rc_H d b (.ref (b + 1)) (.ref (b + 52)) .null 0 0 0 10 n 0) b (53 + n + 1) H := hg.congr (fun j hj => rc_H_f d b (.ref (b + 1)) (.ref (b + 52)) .null 0 0 0 10 n 0 n hnN _ j hj)
      refine rg_astq hx hb hK hg hz hS 52 (53 + n) 2 cFi (by omega) (by omega) (r := (RX0, TX0, 11)) rfl rfl (rc_H_F d b (.ref (b + 1)) (.ref (b + 52)) .null 0 0 0 10 n 0 n hnN) rfl (vp_in_nI (show n < 8 by omega) (by decide)) dX1_init_76 (fun H locs hg hz hS => ?_)
      have hg : rg D (rc_H d b (.ref (b + 1)) (.ref (b + 52)) .null 0 0 0 10 (n + 1) 0) b (53 + n + 1) H := hg.congr (fun j hj => rc_H_sf d b (.ref (b + 1)) (.ref (b + 52)) .null 0 0 0 10 0 n j (by omega))
      refine lv_iinc (v := nI (n + 1)) (lv' := [(1, .int (nI (n + 1))), (0, .ref b)]) hx hb dX1_init_77 hl (k := 1) rfl (nI_succ _).symm (by decide) rfl (fun ls hl => ?_)
      refine lv_goto (tgt := 52) hx hb dX1_init_80 (by decide) ?_
      refine W.widen (k := 52 + (n + 1)) (n := 278 + 11 * (n + 1)) (by omega) (by omega) ?_
      exact ih (n + 1) (by omega) _ _ (by rw [show 53 + (n + 1) = 53 + n + 1 by omega]; exact hg) (by omega) hS ls (lv_sub hl [1, 0] rfl)
set_option maxHeartbeats 4000000 in
set_option maxRecDepth 100000 in
/-- House(): the loop at 15 -/
theorem lk1X1_init (l : Launch) (D : va_G) (d : hs_Dm) (b : Nat) {p : Program} {e : Env} {s : State} {m : MethodId} {args : Array Value} {below : List Frame} {meth : Method} {c : Code} (hx : p.tables.exec = Jvm.exec) (hb : c.code = cX1_init) (hr : meth.sig.returnType = none) (hts : ∀ w ∈ wsX1_init, w.before args s = true) (hown : s.vm.findClass RX1 = some m.cls) (hlocks : meth.locks = false) (hml : c.maxLocals = 2) (hin : meth.name = "<init>") (hK : va_K D vwCl (hs_ty d) s) (hE : hs_E d.2.2.2.2 (rg_A b) s) (hAO : va_AO "Waxrow$Person" s ∧ va_AO "Waxrow$Figure" s ∧ va_AO "Waxrow$Room" s) : ∀ (k n : Nat), n + k = 10 → ∀ (H : Heap) (locs : List Loc), rg D (rc_H d b (.ref (b + 1)) .null .null 0 0 0 n 0 0) b (2 + 5 * n) H → H.size = b + (2 + 5 * n) → va_S (rg_A b) s.heap H locs → ∀ ls : Array Slot, lv_has ls 2 [(0, .ref b), (1, .int (nI n))] → W p l e (({ frames := 3, cells := 66, slots := 381, locals := 60 }) : Room) s m args below meth c H locs (1 + 5 * n) (10 + 26 * n) (MQ below (va_Qv (fun _ : Unit => True) (fun _ t => rg_C D d (rc_H d b (.ref (b + 1)) (.ref (b + 52)) (.ref (b + 61)) 200 30 5 10 8 5) b 67 t) (rg_A b)) args s 66 381 (rg_A b)) (F0 m 15 ls []) := by
  intro k
  induction k with
  | zero =>
    intro n hn H locs hg hz hS ls hl
    have hnN : n = 10 := by omega
    refine lv_iload_n hx hb dX1_init_15 rfl (lv_at hl 1 rfl) ?_
    refine lv_bipush (v := 10) hx hb dX1_init_16 (by decide) ?_
    refine lv_icmp_ge (tgt := 41) hx hb dX1_init_18 (by decide) (fun c_18 => ?_) (fun c_18 => ?_)
    · rw [hnN] at hg hz
      refine lv_aload_n hx hb dX1_init_41 rfl (lv_at hl 0 rfl) ?_
      refine lv_bipush (v := 8) hx hb dX1_init_42 (by decide) ?_
      refine rg_newq hx hb hown (hts (.classLink RX1 20 "Waxrow$Figure") (by decide +kernel)) hAO.2.1 hK hg hz hS 2 rfl (by decide) (N' := 8) rfl (by decide) (by show _ ≤ 66; omega) (by show _ ≤ 381; omega) dX1_init_44 (fun H hg hz hS => ?_)
      have hg : rg D (va_up (rc_H d b (.ref (b + 1)) .null .null 0 0 0 10 0 0) 52 (.inl (d.2.2.1, 8, .inr (.inr (.inr (.inr (fun _ => none))))))) b 53 H := hg
      refine rg_putF (ci := cHo) (C := RX1) (T := TX1) (N := 11) (ty := (.array (.object "Waxrow$Figure"))) hx hb hts (by decide +kernel) tyX1 tyX1_ok nmX1 hown hK hg hz hS 0 (by omega) (fs := [.ref (b + 1), .null, .null, .int 0, .int 0, .int 0, .int 0, .int 0, .int 0, .int 0, .int 0]) rfl rfl 1 (by decide) (hts (.fieldLink RX1 22 "Waxrow$House" "figures" "[LWaxrow$Figure;") (by decide +kernel)) (fun _ h9 => h9) rfl hin rfl (by decide +kernel) rfl rfl (Nat.le_of_ble_eq_true rfl) dX1_init_47 (fun H locs hg hz hS => ?_)
      have hg : rg D (va_up (va_up (rc_H d b (.ref (b + 1)) .null .null 0 0 0 10 0 0) 52 (.inl (d.2.2.1, 8, .inr (.inr (.inr (.inr (fun _ => none))))))) 0 (.inr (cHo, [.ref (b + 1), .ref (b + 52), .null, .int 0, .int 0, .int 0, .int 0, .int 0, .int 0, .int 0, .int 0]))) b 53 H := hg
      refine lv_iconst (v := 0) hx hb dX1_init_50 (by decide) ?_
      refine lv_istore_n (lv' := [(1, .int 0), (0, .ref b)]) hx hb dX1_init_51 rfl hl (by decide) rfl (fun ls hl => ?_)
      have hg : rg D (rc_H d b (.ref (b + 1)) (.ref (b + 52)) .null 0 0 0 10 0 0) b 53 H := hg.congr (fun j hj => by
        by_cases e : j = 0
        · subst e; rfl
        · rw [rc_upn _ 0 j _ e]
          by_cases e2 : j = 52
          · subst e2; rfl
          · rw [rc_upn _ 52 j _ e2]; exact rc_H_ne0 _ _ _ _ _ _ _ _ _ _ _ _ _ _ _ _ _ _ e)
      rw [hnN]
      exact lk2X1_init l D d b hx hb hr hts hown hlocks hml hin hK hE hAO 8 0 (by omega) _ _ hg hz hS ls (lv_sub hl [1, 0] rfl)
    · exact absurd (by rw [show (10 : Int32) = nI 10 from by decide +kernel, hnN]; exact nI_le (Nat.le_refl _) (by omega)) c_18
  | succ k ih =>
    intro n hn H locs hg hz hS ls hl
    have hnN : n < 10 := by omega
    refine lv_iload_n hx hb dX1_init_15 rfl (lv_at hl 1 rfl) ?_
    refine lv_bipush (v := 10) hx hb dX1_init_16 (by decide) ?_
    refine lv_icmp_ge (tgt := 41) hx hb dX1_init_18 (by decide) (fun c_18 => ?_) (fun c_18 => ?_)
    · exact absurd (by rw [show (10 : Int32) = nI 10 from by decide +kernel] at c_18; exact c_18) (nI_ge hnN (by omega))
    · refine lv_aload_n hx hb dX1_init_21 rfl (lv_at hl 0 rfl) ?_
      refine va_get (D := D) (ci := cHo) (C := RX1) (T := TX1) (N := 11) (ws := [(b + 0, (rc_H d b (.ref (b + 1)) .null .null 0 0 0 n 0 0) 0)]) (v := .ref (b + 1)) hx hb hts (by decide +kernel) hown hK (hg.one (by omega)) 0 rfl rfl 0 (by decide) (hts (.fieldLink RX1 11 "Waxrow$House" "persons" "[LWaxrow$Person;") (by decide +kernel)) (fun _ h9 => h9) rfl dX1_init_22 ?_
      refine lv_iload_n hx hb dX1_init_25 rfl (lv_at hl 1 rfl) ?_
      refine rg_new (ci := cPe) (fs := [.int 0, .null, .null, .null, .null, .int 0, .int 0, .int 0]) (C := RX2) (T := TX2) (N := 8) hx hb hts (by decide +kernel) tyX2 tyX2_ok hown (hts (.classLink RX1 9 RX2) (by decide +kernel)) (hts (.instantiable RX2 8) (by decide +kernel)) (hts (.initialized RX2) (by decide +kernel)) hK hg hz hS rfl (fun j hj => by rcases (show j = 0 ∨ j = 1 ∨ j = 2 ∨ j = 3 ∨ j = 4 ∨ j = 5 ∨ j = 6 ∨ j = 7 by omega) with rfl | rfl | rfl | rfl | rfl | rfl | rfl | rfl <;> rfl) (by show _ ≤ 66; omega) (by show _ ≤ 381; omega) dX1_init_26 (fun H hg hz hS hq => ?_)
      refine lv_dup hx hb dX1_init_29 rfl ?_
      refine lv_iload_n hx hb dX1_init_30 rfl (lv_at hl 1 rfl) ?_
      refine rg_callI (As := [.int (nI n)]) (C0 := rc_1 (.inr (cPe, [.int 0, .null, .null, .null, .null, .int 0, .int 0, .int 0]))) (C2 := rc_P d (b + (2 + 5 * n)) (nI n) 6) (mm := 2 + 5 * n) ⟨hx, hb, hml, hown, hts⟩ (kX2_init l D d (b + (2 + 5 * n)) (nI n)) (cwI 1 hts gX1_init_X2_init rfl rfl rfl (hts (.initialized RX2) (by decide +kernel)) (hts (.methodLink RX1 17 yX2_init) (by decide +kernel)) (hts (.instanceMethod yX2_init) (by decide +kernel)) rfl (by decide +kernel) ⟨Nat.le_of_ble_eq_true rfl, Nat.le_of_ble_eq_true rfl⟩) hK hg (by simp [va_up, rc_1]) hz hS rfl hl.1 (Nat.le_of_ble_eq_true rfl) dX1_init_31 ⟨by show _ ≤ 66; omega, by show _ ≤ 381; omega⟩ rfl (fun H locs hg hz hS => ?_)
      have hg : rg D (rc_H d b (.ref (b + 1)) .null .null 0 0 0 n 0 0) b (2 + 5 * n + 5) H := hg.congr (fun j hj => rc_H_p d b (.ref (b + 1)) .null .null 0 0 0 n 0 0 n hnN _ j hj)
      obtain ⟨vs, hvs⟩ := rc_H_vP d b (.ref (b + 1)) .null .null 0 0 0 n 0 0 n hnN
      refine rg_astq hx hb hK hg hz hS 1 (2 + 5 * n) 1 cPe (by omega) (by omega) (r := (RX2, TX2, 8)) rfl rfl hvs rfl (vp_in_nI (show n < 10 by omega) (by decide)) dX1_init_34 (fun H locs hg hz hS => ?_)
      have hg : rg D (rc_H d b (.ref (b + 1)) .null .null 0 0 0 (n + 1) 0 0) b (2 + 5 * n + 5) H := hg.congr (fun j hj => rc_H_sp d b (.ref (b + 1)) .null .null 0 0 0 0 0 n j (by omega))
      refine lv_iinc (v := nI (n + 1)) (lv' := [(1, .int (nI (n + 1))), (0, .ref b)]) hx hb dX1_init_35 hl (k := 1) rfl (nI_succ _).symm (by decide) rfl (fun ls hl => ?_)
      refine lv_goto (tgt := 15) hx hb dX1_init_38 (by decide) ?_
      refine W.widen (k := 1 + 5 * (n + 1)) (n := 10 + 26 * (n + 1)) (by omega) (by omega) ?_
      exact ih (n + 1) (by omega) _ _ (by rw [show 2 + 5 * (n + 1) = 2 + 5 * n + 5 by omega]; exact hg) (by omega) hS ls (lv_sub hl [1, 0] rfl)
set_option maxHeartbeats 4000000 in
set_option maxRecDepth 100000 in
/-- House() -/
theorem kX1_init (l : Launch) (D : va_G) (d : hs_Dm) (b : Nat) : rg_ME l yX1_init wsX1_init ({ frames := 3, cells := 66, slots := 381, locals := 60 }) D d (rc_1 (.inr (cHo, [.null, .null, .null, .int 0, .int 0, .int 0, .int 0, .int 0, .int 0, .int 0, .int 0]))) (rc_H d b (.ref (b + 1)) (.ref (b + 52)) (.ref (b + 61)) 200 30 5 10 8 5) b 1 67 [.ref b] 66 381 := by
  refine Met.ofW (cc := cX1_init) (maxL := 2) (ret := none) (by decide) rfl ?_
  intro p e s m args below meth c s₁ B hml hv
  obtain ⟨rfl, ⟨hz, hg, hK⟩, hE, hAO⟩ := hv
  have hx := B.exec
  have hb := B.bytes
  have hr := B.returns
  have hts := atoms_spec (ws := wsX1_init) B.pre
  have hown : s.vm.findClass RX1 = some m.cls := findClass_of_methodNamed B.named
  have hlocks := B.notSynchronized
  have hin : meth.name = "<init>" := (name_of_methodNamed B.named B.method).1
  have hS : va_S (rg_A b) s.heap s.heap [] := va_S.rf
  have hl := lv_entry ([.ref b]) (n := 2) (Nat.le_of_ble_eq_true rfl)
  rw [lg_entry_eq]
  generalize (lg_sl ([.ref b]) ++ List.replicate (2 - (lg_sl ([.ref b])).length) Slot.unset).toArray = ls at hl ⊢
  have hl : lv_has ls 2 [(0, .ref b)] := hl
  refine lv_aload_n hx hb dX1_init_0 rfl (lv_at hl 0 rfl) ?_
  refine W.objInit hx hb hown (hts (.methodLink RX1 3 objectInit) (by decide +kernel)) (hts (.instanceMethod objectInit) (by decide +kernel)) (hts (.code objectInit ⟨#[0xb1]⟩ 1 none) (by decide +kernel)) rfl (by rw [hml]; exact hl.1) rfl dX1_init_1 (Nat.le_of_ble_eq_true rfl) (Nat.le_of_ble_eq_true rfl) ?_
  refine W.eq (g2 := F0 m 4 ls []) rfl ?_
  refine lv_aload_n hx hb dX1_init_4 rfl (lv_at hl 0 rfl) ?_
  refine lv_bipush (v := 10) hx hb dX1_init_5 (by decide) ?_
  refine rg_newq hx hb hown (hts (.classLink RX1 9 "Waxrow$Person") (by decide +kernel)) hAO.1 hK hg hz hS 1 rfl (by decide) (N' := 10) rfl (by decide) (by decide) (by decide) dX1_init_7 (fun H hg hz hS => ?_)
  have hg : rg D (va_up (rc_1 (.inr (cHo, [.null, .null, .null, .int 0, .int 0, .int 0, .int 0, .int 0, .int 0, .int 0, .int 0]))) 1 (.inl (d.2.1, 10, .inr (.inr (.inr (.inr (fun _ => none))))))) b 2 H := hg
  refine rg_putF (ci := cHo) (C := RX1) (T := TX1) (N := 11) (ty := (.array (.object "Waxrow$Person"))) hx hb hts (by decide +kernel) tyX1 tyX1_ok nmX1 hown hK hg hz hS 0 (by omega) (fs := [.null, .null, .null, .int 0, .int 0, .int 0, .int 0, .int 0, .int 0, .int 0, .int 0]) rfl rfl 0 (by decide) (hts (.fieldLink RX1 11 "Waxrow$House" "persons" "[LWaxrow$Person;") (by decide +kernel)) (fun _ h9 => h9) rfl hin rfl (by decide +kernel) rfl rfl (Nat.le_of_ble_eq_true rfl) dX1_init_10 (fun H locs hg hz hS => ?_)
  have hg : rg D (va_up (va_up (rc_1 (.inr (cHo, [.null, .null, .null, .int 0, .int 0, .int 0, .int 0, .int 0, .int 0, .int 0, .int 0]))) 1 (.inl (d.2.1, 10, .inr (.inr (.inr (.inr (fun _ => none))))))) 0 (.inr (cHo, [.ref (b + 1), .null, .null, .int 0, .int 0, .int 0, .int 0, .int 0, .int 0, .int 0, .int 0]))) b 2 H := hg
  refine lv_iconst (v := 0) hx hb dX1_init_13 (by decide) ?_
  refine lv_istore_n (lv' := [(1, .int 0), (0, .ref b)]) hx hb dX1_init_14 rfl hl (by decide) rfl (fun ls hl => ?_)
  have hg : rg D (rc_H d b (.ref (b + 1)) .null .null 0 0 0 0 0 0) b 2 H := hg.congr (fun j hj => by rcases (show j = 0 ∨ j = 1 by omega) with rfl | rfl <;> rfl)
  exact lk1X1_init l D d b hx hb hr hts hown hlocks hml hin hK hE hAO 10 0 (by omega) _ _ hg hz hS ls (lv_sub hl [1, 0] rfl)
